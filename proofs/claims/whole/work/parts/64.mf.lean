/-! THE REFERENCE'S QUESTIONS: forecasts, measures, what there is -/
def mF (v : QV) (M B m : Int) : Prop := (0 ≤ m ∧ m < v (M + 3) B) ∧ ¬ v (M + 18) (4 * B + m) = 0
/-- a forecast's numbers as the reference has them -/
def RP (v : QV) (M m : Int) : Prop := (0 ≤ v (M + 1) (647 + 112 * m + 3) ∧ v (M + 1) (647 + 112 * m + 3) ≤ 30) ∧ (-2000000000 ≤ v (M + 1) (647 + 112 * m + 0) ∧ v (M + 1) (647 + 112 * m + 0) ≤ 2000000000) ∧ (-2000000000 ≤ v (M + 1) (647 + 112 * m + 1) ∧ v (M + 1) (647 + 112 * m + 1) ≤ 2000000000) ∧ (∀ p, 0 ≤ p → p < 24 → -2000000000 ≤ v (M + 1) (647 + 112 * m + (4 + p)) ∧ v (M + 1) (647 + 112 * m + (4 + p)) ≤ 2000000000) ∧ (∀ i, 0 ≤ i → i < v (M + 1) (647 + 112 * m + 3) → v (M + 1) (647 + 112 * m + (82 + i)) = 0 ∨ v (M + 1) (647 + 112 * m + (82 + i)) = 1)
def mOd (v : QV) (M m i : Int) : Int := v (M + 1) (647 + 112 * m + (82 + i))
section MF
variable {S : QS} {v w : QV} {M B : Int}
theorem m_isF (h : RM S v M B) {m : Int} [Decidable (mF v M B m)] : mX12_isFollowed [M, m] S v = some (if mF v M B m then 1 else 0, v) := by
  rw [m_isFollowed h]
  congr 1
  congr 1
  exact ite_c Iff.rfl
theorem m_forecast (h : RM S v M B) {m x : Int} [Decidable (mF v M B m)] : mX12_forecast [M, m, x] S v = some (if mF v M B m then (if x = 0 then w32 (v (M + 1) (647 + 112 * m + 0)) else if x = 1 then w32 (v (M + 1) (647 + 112 * m + 1)) else if x = 2 then w32 (v (M + 1) (647 + 112 * m + 2)) else if x = 3 then v (M + 19) (4 * B + m) else if x = 4 then v (M + 23) (4 * B + m) else if x = 5 then w32 (v (M + 1) (647 + 112 * m + 3)) else -2147483648) else -2147483648, v) := by
  apply wM_eq
  by_cases hm : mF v M B m
  · have hn := h.2.2.2.2.1
    have hB := h.B2
    have hm1 := hm.1
    have hm4 : 0 ≤ m ∧ m < 4 := by omega
    have o1 : 0 ≤ 4 * B + m ∧ 4 * B + m < 8 := by omega
    have of_ : ∀ x : Int, 0 ≤ x → x < 112 → (0 ≤ 647 + 112 * m + x ∧ 647 + 112 * m + x < 1095) := fun x g1 g2 => by omega
    simp only [mX12_forecast, sX12_forecast, wE_I, wE_V, wE_F, wE_A, wE_N, wE_1, wE_2, wE_D, wE_B, wE_If, wE_C, wE_CV, wE_SL, wE_SA, wA_0, wA_1, wC_B, wC_E, wC_And, wC_Or, wC_Not, wS_Skip, wS_Brk, wS_Cnt, wS_RetV, wS_Ret, wS_Seq, wS_Set, wS_Inc, wS_Do, wS_Put, wS_PutC, wS_Arr, wS_ArrC, wS_If, wS_Sw, wS_F0, wS_F1, wM_q, lu_ap, aL_ap, ct_0, ct_1, ct_2, ct_3, ct_4, ct_5, headD_1, List.mem_cons, List.not_mem_nil, or_false, false_or, or_true, true_or, true_and, and_true, false_and, and_false, not_true_eq_false, not_false_eq_true, if_true, if_false, nr_20, nr_24, nr_40, nr_41, nr_44, pt_lt, pt_ge, pt_eq, pt_ne, pt_gt, pt_le, pt_E, pt_N, pt_F, ite_10, ite_11, ne_eq, and_self, or_self, decide_true, decide_false, Bool.not_true, Bool.not_false, Bool.false_eq_true, Nat.reduceEqDiff, Nat.reduceAdd, Int.reduceEq, Int.reduceLT, Int.reduceLE, Int.reduceNeg, Int.reduceAdd, Int.reduceSub, Int.reduceMul, reduceCtorEq, iA, iS, iM, iD, iR, iN, lA, lS, lM, lD, lR, h.1.k, h.1.p0, h.1.a1, h.1.n1, h.1.p18, h.1.a19, h.1.n19, h.1.p22, h.1.a23, h.1.n23, h.2.1, wM_of (m_isF h), hm, wM_of (m_own h.2.2.1 (show 0 ≤ m ∧ m ≤ 1000 by omega)), o1, wM_of (m_atForecast hm4 (show 0 ≤ (0 : Int) ∧ (0 : Int) < 112 by decide)), wM_of (m_atForecast hm4 (show 0 ≤ (1 : Int) ∧ (1 : Int) < 112 by decide)), wM_of (m_atForecast hm4 (show 0 ≤ (2 : Int) ∧ (2 : Int) < 112 by decide)), wM_of (m_atForecast hm4 (show 0 ≤ (3 : Int) ∧ (3 : Int) < 112 by decide)), of_ 0 (by decide) (by decide), of_ 1 (by decide) (by decide), of_ 2 (by decide) (by decide), of_ 3 (by decide) (by decide)]
    by_cases x0 : x = 0
    · simp [x0]
    by_cases x1 : x = 1
    · simp [x1]
    by_cases x2 : x = 2
    · simp [x2]
    by_cases x3 : x = 3
    · simp [x3]
    by_cases x4 : x = 4
    · simp [x4]
    by_cases x5 : x = 5
    · simp [x5]
    simp [x0, x1, x2, x3, x4, x5]
  · simp only [mX12_forecast, sX12_forecast, wE_I, wE_V, wE_F, wE_A, wE_N, wE_1, wE_2, wE_D, wE_B, wE_If, wE_C, wE_CV, wE_SL, wE_SA, wA_0, wA_1, wC_B, wC_E, wC_And, wC_Or, wC_Not, wS_Skip, wS_Brk, wS_Cnt, wS_RetV, wS_Ret, wS_Seq, wS_Set, wS_Inc, wS_Do, wS_Put, wS_PutC, wS_Arr, wS_ArrC, wS_If, wS_Sw, wS_F0, wS_F1, wM_q, lu_ap, aL_ap, ct_0, ct_1, ct_2, ct_3, ct_4, ct_5, headD_1, List.mem_cons, List.not_mem_nil, or_false, false_or, or_true, true_or, true_and, and_true, false_and, and_false, not_true_eq_false, not_false_eq_true, if_true, if_false, nr_20, nr_24, nr_40, nr_41, nr_44, pt_lt, pt_ge, pt_eq, pt_ne, pt_gt, pt_le, pt_E, pt_N, pt_F, ite_10, ite_11, ne_eq, and_self, or_self, decide_true, decide_false, Bool.not_true, Bool.not_false, Bool.false_eq_true, Nat.reduceEqDiff, Nat.reduceAdd, Int.reduceEq, Int.reduceLT, Int.reduceLE, Int.reduceNeg, Int.reduceAdd, Int.reduceSub, Int.reduceMul, reduceCtorEq, iA, iS, iM, iD, iR, iN, lA, lS, lM, lD, lR, h.1.k, wM_of (m_isF h), hm]
theorem m_place (h : RM S v M B) {m p x : Int} [Decidable (mF v M B m)] (hs : mF v M B m → 2 ≤ v (M + 19) (4 * B + m) ∧ v (M + 19) (4 * B + m) ≤ 24) : mX12_place [M, m, p, x] S v = some (if mF v M B m ∧ 0 ≤ p ∧ p < v (M + 19) (4 * B + m) then (if x = 0 then w32 (v (M + 1) (647 + 112 * m + (4 + p))) else if x = 1 then w32 (v (M + 1) (647 + 112 * m + (28 + p))) else -2147483648) else -2147483648, v) := by
  apply wM_eq
  by_cases hm : mF v M B m
  · have hn := h.2.2.2.2.1
    have hB := h.B2
    have hm1 := hm.1
    have hs' := hs hm
    have hm4 : 0 ≤ m ∧ m < 4 := by omega
    have o1 : 0 ≤ 4 * B + m ∧ 4 * B + m < 8 := by omega
    have e1 : w32 (v (M + 19) (4 * B + m) - 1) = v (M + 19) (4 * B + m) - 1 := w32_e (by omega)
    simp only [mX12_place, sX12_place, wE_I, wE_V, wE_F, wE_A, wE_N, wE_1, wE_2, wE_D, wE_B, wE_If, wE_C, wE_CV, wE_SL, wE_SA, wA_0, wA_1, wC_B, wC_E, wC_And, wC_Or, wC_Not, wS_Skip, wS_Brk, wS_Cnt, wS_RetV, wS_Ret, wS_Seq, wS_Set, wS_Inc, wS_Do, wS_Put, wS_PutC, wS_Arr, wS_ArrC, wS_If, wS_Sw, wS_F0, wS_F1, wM_q, lu_ap, aL_ap, ct_0, ct_1, ct_2, ct_3, ct_4, ct_5, headD_1, List.mem_cons, List.not_mem_nil, or_false, false_or, or_true, true_or, true_and, and_true, false_and, and_false, not_true_eq_false, not_false_eq_true, if_true, if_false, nr_20, nr_24, nr_40, nr_41, nr_44, pt_lt, pt_ge, pt_eq, pt_ne, pt_gt, pt_le, pt_E, pt_N, pt_F, ite_10, ite_11, ne_eq, and_self, or_self, decide_true, decide_false, Bool.not_true, Bool.not_false, Bool.false_eq_true, Nat.reduceEqDiff, Nat.reduceAdd, Int.reduceEq, Int.reduceLT, Int.reduceLE, Int.reduceNeg, Int.reduceAdd, Int.reduceSub, Int.reduceMul, reduceCtorEq, iA, iS, iM, iD, iR, iN, lA, lS, lM, lD, lR, h.1.k, h.1.p0, h.1.a1, h.1.n1, h.1.p18, h.1.a19, h.1.n19, h.2.1, wM_of (m_isF h), hm, wM_of (m_own h.2.2.1 (show 0 ≤ m ∧ m ≤ 1000 by clear e1; omega)), o1, e1, wM_of m_isIn]
    clear e1
    by_cases hp : 0 ≤ p ∧ p < v (M + 19) (4 * B + m)
    · have hp' : 0 ≤ p ∧ p ≤ v (M + 19) (4 * B + m) - 1 := by omega
      have e2 : w32 (4 + p) = 4 + p := w32_e (by omega)
      have e3 : w32 (28 + p) = 28 + p := by clear e2; exact w32_e (by omega)
      have o2 : 0 ≤ 647 + 112 * m + (4 + p) ∧ 647 + 112 * m + (4 + p) < 1095 := by clear e2 e3; omega
      have o3 : 0 ≤ 647 + 112 * m + (28 + p) ∧ 647 + 112 * m + (28 + p) < 1095 := by clear e2 e3; omega
      by_cases x0 : x = 0
      · simp only [hp, hp', x0, wE_I, wE_V, wE_F, wE_A, wE_N, wE_1, wE_2, wE_D, wE_B, wE_If, wE_C, wE_CV, wE_SL, wE_SA, wA_0, wA_1, wC_B, wC_E, wC_And, wC_Or, wC_Not, wS_Skip, wS_Brk, wS_Cnt, wS_RetV, wS_Ret, wS_Seq, wS_Set, wS_Inc, wS_Do, wS_Put, wS_PutC, wS_Arr, wS_ArrC, wS_If, wS_Sw, wS_F0, wS_F1, wM_q, lu_ap, aL_ap, ct_0, ct_1, ct_2, ct_3, ct_4, ct_5, headD_1, List.mem_cons, List.not_mem_nil, or_false, false_or, or_true, true_or, true_and, and_true, false_and, and_false, not_true_eq_false, not_false_eq_true, if_true, if_false, nr_20, nr_24, nr_40, nr_41, nr_44, pt_lt, pt_ge, pt_eq, pt_ne, pt_gt, pt_le, pt_E, pt_N, pt_F, ite_10, ite_11, ne_eq, and_self, or_self, decide_true, decide_false, Bool.not_true, Bool.not_false, Bool.false_eq_true, Nat.reduceEqDiff, Nat.reduceAdd, Int.reduceEq, Int.reduceLT, Int.reduceLE, Int.reduceNeg, Int.reduceAdd, Int.reduceSub, Int.reduceMul, reduceCtorEq, iA, iS, iM, iD, iR, iN, lA, lS, lM, lD, lR, e2, wM_of (m_atForecast hm4 (show 0 ≤ 4 + p ∧ 4 + p < 112 by clear e2 e3; omega)), o2, h.1.k, h.1.p0, h.1.a1, h.1.n1]
      · by_cases x1 : x = 1
        · simp only [hp, hp', x1, wE_I, wE_V, wE_F, wE_A, wE_N, wE_1, wE_2, wE_D, wE_B, wE_If, wE_C, wE_CV, wE_SL, wE_SA, wA_0, wA_1, wC_B, wC_E, wC_And, wC_Or, wC_Not, wS_Skip, wS_Brk, wS_Cnt, wS_RetV, wS_Ret, wS_Seq, wS_Set, wS_Inc, wS_Do, wS_Put, wS_PutC, wS_Arr, wS_ArrC, wS_If, wS_Sw, wS_F0, wS_F1, wM_q, lu_ap, aL_ap, ct_0, ct_1, ct_2, ct_3, ct_4, ct_5, headD_1, List.mem_cons, List.not_mem_nil, or_false, false_or, or_true, true_or, true_and, and_true, false_and, and_false, not_true_eq_false, not_false_eq_true, if_true, if_false, nr_20, nr_24, nr_40, nr_41, nr_44, pt_lt, pt_ge, pt_eq, pt_ne, pt_gt, pt_le, pt_E, pt_N, pt_F, ite_10, ite_11, ne_eq, and_self, or_self, decide_true, decide_false, Bool.not_true, Bool.not_false, Bool.false_eq_true, Nat.reduceEqDiff, Nat.reduceAdd, Int.reduceEq, Int.reduceLT, Int.reduceLE, Int.reduceNeg, Int.reduceAdd, Int.reduceSub, Int.reduceMul, reduceCtorEq, iA, iS, iM, iD, iR, iN, lA, lS, lM, lD, lR, e3, wM_of (m_atForecast hm4 (show 0 ≤ 28 + p ∧ 28 + p < 112 by clear e2 e3; omega)), o3, h.1.k, h.1.p0, h.1.a1, h.1.n1]
        · have x2 : ¬ (0 ≤ x ∧ x ≤ 1) := by clear e2 e3; omega
          simp only [hp, hp', x0, x1, x2, wE_I, wE_V, wE_F, wE_A, wE_N, wE_1, wE_2, wE_D, wE_B, wE_If, wE_C, wE_CV, wE_SL, wE_SA, wA_0, wA_1, wC_B, wC_E, wC_And, wC_Or, wC_Not, wS_Skip, wS_Brk, wS_Cnt, wS_RetV, wS_Ret, wS_Seq, wS_Set, wS_Inc, wS_Do, wS_Put, wS_PutC, wS_Arr, wS_ArrC, wS_If, wS_Sw, wS_F0, wS_F1, wM_q, lu_ap, aL_ap, ct_0, ct_1, ct_2, ct_3, ct_4, ct_5, headD_1, List.mem_cons, List.not_mem_nil, or_false, false_or, or_true, true_or, true_and, and_true, false_and, and_false, not_true_eq_false, not_false_eq_true, if_true, if_false, nr_20, nr_24, nr_40, nr_41, nr_44, pt_lt, pt_ge, pt_eq, pt_ne, pt_gt, pt_le, pt_E, pt_N, pt_F, ite_10, ite_11, ne_eq, and_self, or_self, decide_true, decide_false, Bool.not_true, Bool.not_false, Bool.false_eq_true, Nat.reduceEqDiff, Nat.reduceAdd, Int.reduceEq, Int.reduceLT, Int.reduceLE, Int.reduceNeg, Int.reduceAdd, Int.reduceSub, Int.reduceMul, reduceCtorEq]
    · have hp' : ¬ (0 ≤ p ∧ p ≤ v (M + 19) (4 * B + m) - 1) := by omega
      simp only [hp, hp', wE_I, wE_V, wE_F, wE_A, wE_N, wE_1, wE_2, wE_D, wE_B, wE_If, wE_C, wE_CV, wE_SL, wE_SA, wA_0, wA_1, wC_B, wC_E, wC_And, wC_Or, wC_Not, wS_Skip, wS_Brk, wS_Cnt, wS_RetV, wS_Ret, wS_Seq, wS_Set, wS_Inc, wS_Do, wS_Put, wS_PutC, wS_Arr, wS_ArrC, wS_If, wS_Sw, wS_F0, wS_F1, wM_q, lu_ap, aL_ap, ct_0, ct_1, ct_2, ct_3, ct_4, ct_5, headD_1, List.mem_cons, List.not_mem_nil, or_false, false_or, or_true, true_or, true_and, and_true, false_and, and_false, not_true_eq_false, not_false_eq_true, if_true, if_false, nr_20, nr_24, nr_40, nr_41, nr_44, pt_lt, pt_ge, pt_eq, pt_ne, pt_gt, pt_le, pt_E, pt_N, pt_F, ite_10, ite_11, ne_eq, and_self, or_self, decide_true, decide_false, Bool.not_true, Bool.not_false, Bool.false_eq_true, Nat.reduceEqDiff, Nat.reduceAdd, Int.reduceEq, Int.reduceLT, Int.reduceLE, Int.reduceNeg, Int.reduceAdd, Int.reduceSub, Int.reduceMul, reduceCtorEq]
  · simp only [mX12_place, sX12_place, wE_I, wE_V, wE_F, wE_A, wE_N, wE_1, wE_2, wE_D, wE_B, wE_If, wE_C, wE_CV, wE_SL, wE_SA, wA_0, wA_1, wC_B, wC_E, wC_And, wC_Or, wC_Not, wS_Skip, wS_Brk, wS_Cnt, wS_RetV, wS_Ret, wS_Seq, wS_Set, wS_Inc, wS_Do, wS_Put, wS_PutC, wS_Arr, wS_ArrC, wS_If, wS_Sw, wS_F0, wS_F1, wM_q, lu_ap, aL_ap, ct_0, ct_1, ct_2, ct_3, ct_4, ct_5, headD_1, List.mem_cons, List.not_mem_nil, or_false, false_or, or_true, true_or, true_and, and_true, false_and, and_false, not_true_eq_false, not_false_eq_true, if_true, if_false, nr_20, nr_24, nr_40, nr_41, nr_44, pt_lt, pt_ge, pt_eq, pt_ne, pt_gt, pt_le, pt_E, pt_N, pt_F, ite_10, ite_11, ne_eq, and_self, or_self, decide_true, decide_false, Bool.not_true, Bool.not_false, Bool.false_eq_true, Nat.reduceEqDiff, Nat.reduceAdd, Int.reduceEq, Int.reduceLT, Int.reduceLE, Int.reduceNeg, Int.reduceAdd, Int.reduceSub, Int.reduceMul, reduceCtorEq, iA, iS, iM, iD, iR, iN, lA, lS, lM, lD, lR, h.1.k, wM_of (m_isF h), hm]
theorem m_told (h : RM S v M B) {m i x : Int} [Decidable (mF v M B m)] (hr : mF v M B m → RP v M m) : mX12_told [M, m, i, x] S v = some (if mF v M B m ∧ 0 ≤ i ∧ i < v (M + 1) (647 + 112 * m + 3) then (if x = 0 then w32 (v (M + 1) (647 + 112 * m + (52 + i))) else if x = 1 then w32 (v (M + 1) (647 + 112 * m + (82 + i))) else -2147483648) else -2147483648, v) := by
  apply wM_eq
  by_cases hm : mF v M B m
  · have hn := h.2.2.2.2.1
    have hB := h.B2
    have hm1 := hm.1
    have hk := (hr hm).1
    have hm4 : 0 ≤ m ∧ m < 4 := by omega
    have o1 : 0 ≤ 647 + 112 * m + 3 ∧ 647 + 112 * m + 3 < 1095 := by omega
    have e1 : w64 (v (M + 1) (647 + 112 * m + 3) - 1) = v (M + 1) (647 + 112 * m + 3) - 1 := w64_e (by omega)
    simp only [mX12_told, sX12_told, wE_I, wE_V, wE_F, wE_A, wE_N, wE_1, wE_2, wE_D, wE_B, wE_If, wE_C, wE_CV, wE_SL, wE_SA, wA_0, wA_1, wC_B, wC_E, wC_And, wC_Or, wC_Not, wS_Skip, wS_Brk, wS_Cnt, wS_RetV, wS_Ret, wS_Seq, wS_Set, wS_Inc, wS_Do, wS_Put, wS_PutC, wS_Arr, wS_ArrC, wS_If, wS_Sw, wS_F0, wS_F1, wM_q, lu_ap, aL_ap, ct_0, ct_1, ct_2, ct_3, ct_4, ct_5, headD_1, List.mem_cons, List.not_mem_nil, or_false, false_or, or_true, true_or, true_and, and_true, false_and, and_false, not_true_eq_false, not_false_eq_true, if_true, if_false, nr_20, nr_24, nr_40, nr_41, nr_44, pt_lt, pt_ge, pt_eq, pt_ne, pt_gt, pt_le, pt_E, pt_N, pt_F, ite_10, ite_11, ne_eq, and_self, or_self, decide_true, decide_false, Bool.not_true, Bool.not_false, Bool.false_eq_true, Nat.reduceEqDiff, Nat.reduceAdd, Int.reduceEq, Int.reduceLT, Int.reduceLE, Int.reduceNeg, Int.reduceAdd, Int.reduceSub, Int.reduceMul, reduceCtorEq, iA, iS, iM, iD, iR, iN, lA, lS, lM, lD, lR, h.1.k, h.1.p0, h.1.a1, h.1.n1, wM_of (m_isF h), hm, wM_of (m_atForecast hm4 (show 0 ≤ (3 : Int) ∧ (3 : Int) < 112 by decide)), o1, e1, wM_of m_isIn]
    clear e1
    by_cases hp : 0 ≤ i ∧ i < v (M + 1) (647 + 112 * m + 3)
    · have hp' : 0 ≤ i ∧ i ≤ v (M + 1) (647 + 112 * m + 3) - 1 := by omega
      have e2 : w32 (52 + i) = 52 + i := w32_e (by omega)
      have e3 : w32 (82 + i) = 82 + i := by clear e2; exact w32_e (by omega)
      have o2 : 0 ≤ 647 + 112 * m + (52 + i) ∧ 647 + 112 * m + (52 + i) < 1095 := by clear e2 e3; omega
      have o3 : 0 ≤ 647 + 112 * m + (82 + i) ∧ 647 + 112 * m + (82 + i) < 1095 := by clear e2 e3; omega
      by_cases x0 : x = 0
      · simp only [hp, hp', x0, wE_I, wE_V, wE_F, wE_A, wE_N, wE_1, wE_2, wE_D, wE_B, wE_If, wE_C, wE_CV, wE_SL, wE_SA, wA_0, wA_1, wC_B, wC_E, wC_And, wC_Or, wC_Not, wS_Skip, wS_Brk, wS_Cnt, wS_RetV, wS_Ret, wS_Seq, wS_Set, wS_Inc, wS_Do, wS_Put, wS_PutC, wS_Arr, wS_ArrC, wS_If, wS_Sw, wS_F0, wS_F1, wM_q, lu_ap, aL_ap, ct_0, ct_1, ct_2, ct_3, ct_4, ct_5, headD_1, List.mem_cons, List.not_mem_nil, or_false, false_or, or_true, true_or, true_and, and_true, false_and, and_false, not_true_eq_false, not_false_eq_true, if_true, if_false, nr_20, nr_24, nr_40, nr_41, nr_44, pt_lt, pt_ge, pt_eq, pt_ne, pt_gt, pt_le, pt_E, pt_N, pt_F, ite_10, ite_11, ne_eq, and_self, or_self, decide_true, decide_false, Bool.not_true, Bool.not_false, Bool.false_eq_true, Nat.reduceEqDiff, Nat.reduceAdd, Int.reduceEq, Int.reduceLT, Int.reduceLE, Int.reduceNeg, Int.reduceAdd, Int.reduceSub, Int.reduceMul, reduceCtorEq, iA, iS, iM, iD, iR, iN, lA, lS, lM, lD, lR, e2, wM_of (m_atForecast hm4 (show 0 ≤ 52 + i ∧ 52 + i < 112 by clear e2 e3; omega)), o2, h.1.k, h.1.p0, h.1.a1, h.1.n1]
      · by_cases x1 : x = 1
        · simp only [hp, hp', x1, wE_I, wE_V, wE_F, wE_A, wE_N, wE_1, wE_2, wE_D, wE_B, wE_If, wE_C, wE_CV, wE_SL, wE_SA, wA_0, wA_1, wC_B, wC_E, wC_And, wC_Or, wC_Not, wS_Skip, wS_Brk, wS_Cnt, wS_RetV, wS_Ret, wS_Seq, wS_Set, wS_Inc, wS_Do, wS_Put, wS_PutC, wS_Arr, wS_ArrC, wS_If, wS_Sw, wS_F0, wS_F1, wM_q, lu_ap, aL_ap, ct_0, ct_1, ct_2, ct_3, ct_4, ct_5, headD_1, List.mem_cons, List.not_mem_nil, or_false, false_or, or_true, true_or, true_and, and_true, false_and, and_false, not_true_eq_false, not_false_eq_true, if_true, if_false, nr_20, nr_24, nr_40, nr_41, nr_44, pt_lt, pt_ge, pt_eq, pt_ne, pt_gt, pt_le, pt_E, pt_N, pt_F, ite_10, ite_11, ne_eq, and_self, or_self, decide_true, decide_false, Bool.not_true, Bool.not_false, Bool.false_eq_true, Nat.reduceEqDiff, Nat.reduceAdd, Int.reduceEq, Int.reduceLT, Int.reduceLE, Int.reduceNeg, Int.reduceAdd, Int.reduceSub, Int.reduceMul, reduceCtorEq, iA, iS, iM, iD, iR, iN, lA, lS, lM, lD, lR, e3, wM_of (m_atForecast hm4 (show 0 ≤ 82 + i ∧ 82 + i < 112 by clear e2 e3; omega)), o3, h.1.k, h.1.p0, h.1.a1, h.1.n1]
        · have x2 : ¬ (0 ≤ x ∧ x ≤ 1) := by clear e2 e3; omega
          simp only [hp, hp', x0, x1, x2, wE_I, wE_V, wE_F, wE_A, wE_N, wE_1, wE_2, wE_D, wE_B, wE_If, wE_C, wE_CV, wE_SL, wE_SA, wA_0, wA_1, wC_B, wC_E, wC_And, wC_Or, wC_Not, wS_Skip, wS_Brk, wS_Cnt, wS_RetV, wS_Ret, wS_Seq, wS_Set, wS_Inc, wS_Do, wS_Put, wS_PutC, wS_Arr, wS_ArrC, wS_If, wS_Sw, wS_F0, wS_F1, wM_q, lu_ap, aL_ap, ct_0, ct_1, ct_2, ct_3, ct_4, ct_5, headD_1, List.mem_cons, List.not_mem_nil, or_false, false_or, or_true, true_or, true_and, and_true, false_and, and_false, not_true_eq_false, not_false_eq_true, if_true, if_false, nr_20, nr_24, nr_40, nr_41, nr_44, pt_lt, pt_ge, pt_eq, pt_ne, pt_gt, pt_le, pt_E, pt_N, pt_F, ite_10, ite_11, ne_eq, and_self, or_self, decide_true, decide_false, Bool.not_true, Bool.not_false, Bool.false_eq_true, Nat.reduceEqDiff, Nat.reduceAdd, Int.reduceEq, Int.reduceLT, Int.reduceLE, Int.reduceNeg, Int.reduceAdd, Int.reduceSub, Int.reduceMul, reduceCtorEq]
    · have hp' : ¬ (0 ≤ i ∧ i ≤ v (M + 1) (647 + 112 * m + 3) - 1) := by omega
      simp only [hp, hp', wE_I, wE_V, wE_F, wE_A, wE_N, wE_1, wE_2, wE_D, wE_B, wE_If, wE_C, wE_CV, wE_SL, wE_SA, wA_0, wA_1, wC_B, wC_E, wC_And, wC_Or, wC_Not, wS_Skip, wS_Brk, wS_Cnt, wS_RetV, wS_Ret, wS_Seq, wS_Set, wS_Inc, wS_Do, wS_Put, wS_PutC, wS_Arr, wS_ArrC, wS_If, wS_Sw, wS_F0, wS_F1, wM_q, lu_ap, aL_ap, ct_0, ct_1, ct_2, ct_3, ct_4, ct_5, headD_1, List.mem_cons, List.not_mem_nil, or_false, false_or, or_true, true_or, true_and, and_true, false_and, and_false, not_true_eq_false, not_false_eq_true, if_true, if_false, nr_20, nr_24, nr_40, nr_41, nr_44, pt_lt, pt_ge, pt_eq, pt_ne, pt_gt, pt_le, pt_E, pt_N, pt_F, ite_10, ite_11, ne_eq, and_self, or_self, decide_true, decide_false, Bool.not_true, Bool.not_false, Bool.false_eq_true, Nat.reduceEqDiff, Nat.reduceAdd, Int.reduceEq, Int.reduceLT, Int.reduceLE, Int.reduceNeg, Int.reduceAdd, Int.reduceSub, Int.reduceMul, reduceCtorEq]
  · simp only [mX12_told, sX12_told, wE_I, wE_V, wE_F, wE_A, wE_N, wE_1, wE_2, wE_D, wE_B, wE_If, wE_C, wE_CV, wE_SL, wE_SA, wA_0, wA_1, wC_B, wC_E, wC_And, wC_Or, wC_Not, wS_Skip, wS_Brk, wS_Cnt, wS_RetV, wS_Ret, wS_Seq, wS_Set, wS_Inc, wS_Do, wS_Put, wS_PutC, wS_Arr, wS_ArrC, wS_If, wS_Sw, wS_F0, wS_F1, wM_q, lu_ap, aL_ap, ct_0, ct_1, ct_2, ct_3, ct_4, ct_5, headD_1, List.mem_cons, List.not_mem_nil, or_false, false_or, or_true, true_or, true_and, and_true, false_and, and_false, not_true_eq_false, not_false_eq_true, if_true, if_false, nr_20, nr_24, nr_40, nr_41, nr_44, pt_lt, pt_ge, pt_eq, pt_ne, pt_gt, pt_le, pt_E, pt_N, pt_F, ite_10, ite_11, ne_eq, and_self, or_self, decide_true, decide_false, Bool.not_true, Bool.not_false, Bool.false_eq_true, Nat.reduceEqDiff, Nat.reduceAdd, Int.reduceEq, Int.reduceLT, Int.reduceLE, Int.reduceNeg, Int.reduceAdd, Int.reduceSub, Int.reduceMul, reduceCtorEq, iA, iS, iM, iD, iR, iN, lA, lS, lM, lD, lR, h.1.k, wM_of (m_isF h), hm]
theorem m_odd (h : RM S v M B) {m n : Int} [Decidable (mF v M B m)] (hr : mF v M B m → RP v M m) : mX12_odd [M, m, n] S v = some (if mF v M B m ∧ 1 ≤ n ∧ n ≤ 30 then nP (od (v (M + 1) (647 + 112 * m + 3)) (mOd v M m) 0) n.toNat else -2147483648, v) := by
  apply wM_eq
  by_cases hm : mF v M B m
  · have hn := h.2.2.2.2.1
    have hm1 := hm.1
    have hk := (hr hm).1
    have hod := (hr hm).2.2.2.2
    have hm4 : 0 ≤ m ∧ m < 4 := by omega
    by_cases hN : 1 ≤ n ∧ n ≤ 30
    · simp only [mX12_odd, sX12_odd, wE_I, wE_V, wE_F, wE_A, wE_N, wE_1, wE_2, wE_D, wE_B, wE_If, wE_C, wE_CV, wE_SL, wE_SA, wA_0, wA_1, wC_B, wC_E, wC_And, wC_Or, wC_Not, wS_Skip, wS_Brk, wS_Cnt, wS_RetV, wS_Ret, wS_Seq, wS_Set, wS_Inc, wS_Do, wS_Put, wS_PutC, wS_Arr, wS_ArrC, wS_If, wS_Sw, wS_F0, wS_F1, wM_q, lu_ap, aL_ap, ct_0, ct_1, ct_2, ct_3, ct_4, ct_5, headD_1, List.mem_cons, List.not_mem_nil, or_false, false_or, or_true, true_or, true_and, and_true, false_and, and_false, not_true_eq_false, not_false_eq_true, if_true, if_false, nr_20, nr_24, nr_40, nr_41, nr_44, pt_lt, pt_ge, pt_eq, pt_ne, pt_gt, pt_le, pt_E, pt_N, pt_F, ite_10, ite_11, ne_eq, and_self, or_self, decide_true, decide_false, Bool.not_true, Bool.not_false, Bool.false_eq_true, Nat.reduceEqDiff, Nat.reduceAdd, Int.reduceEq, Int.reduceLT, Int.reduceLE, Int.reduceNeg, Int.reduceAdd, Int.reduceSub, Int.reduceMul, reduceCtorEq, iA, iS, iM, iD, iR, iN, lA, lS, lM, lD, lR, h.1.k, wM_of (m_isF h), hm, wM_of m_isIn, hN]
      have o1 : 0 ≤ 647 + 112 * m + 3 ∧ 647 + 112 * m + 3 < 1095 := by omega
      generalize hκ : v (M + 1) (647 + 112 * m + 3) = κ at *
      generalize hNN : (if n ≤ κ then n else κ).toNat = N
      have hN' : (N : Int) = (if n ≤ κ then n else κ) := by rw [← hNN]; split <;> omega
      have hNb : (N : Int) ≤ n ∧ (N : Int) ≤ κ := by rw [hN']; split <;> omega
      refine wS_For N (fun j L w => (L 0 = M ∧ L 1 = m ∧ L 2 = n ∧ L 3 = nP (od κ (mOd v M m) 0) j ∧ L 4 = j) ∧ v = w) (by omega) ?_ ?_ ?_
      · simp [lu_ap, aL_ap, ct_0, ct_2, nP]
      · rintro j L w hj ⟨⟨m0, m1, m2, m3, m4⟩, rfl⟩
        have hl : (j : Int) < n := by omega
        have hl2 : (j : Int) < κ := by omega
        have e2 : w32 (82 + (j : Int)) = 82 + j := w32_e (by omega)
        have o2 : 0 ≤ 647 + 112 * m + (82 + (j : Int)) ∧ 647 + 112 * m + (82 + (j : Int)) < 1095 := by clear e2; omega
        have b := nP_b (od κ (mOd v M m) 0) j
        have hz := hod j (by clear e2; omega) hl2
        have hm82 : mX12_atForecast [m, 82 + (j : Int)] S v = some (647 + 112 * m + (82 + (j : Int)), v) := m_atForecast hm4 (by clear e2; omega)
        simp only [cX12_odd_1, bX12_odd_1, uX12_odd_1, wE_I, wE_V, wE_F, wE_A, wE_N, wE_1, wE_2, wE_D, wE_B, wE_If, wE_C, wE_CV, wE_SL, wE_SA, wA_0, wA_1, wC_B, wC_E, wC_And, wC_Or, wC_Not, wS_Skip, wS_Brk, wS_Cnt, wS_RetV, wS_Ret, wS_Seq, wS_Set, wS_Inc, wS_Do, wS_Put, wS_PutC, wS_Arr, wS_ArrC, wS_If, wS_Sw, wS_F0, wS_F1, wM_q, lu_ap, aL_ap, ct_0, ct_1, ct_2, ct_3, ct_4, ct_5, headD_1, List.mem_cons, List.not_mem_nil, or_false, false_or, or_true, true_or, true_and, and_true, false_and, and_false, not_true_eq_false, not_false_eq_true, if_true, if_false, nr_20, nr_24, nr_40, nr_41, nr_44, pt_lt, pt_ge, pt_eq, pt_ne, pt_gt, pt_le, pt_E, pt_N, pt_F, ite_10, ite_11, ne_eq, and_self, or_self, decide_true, decide_false, Bool.not_true, Bool.not_false, Bool.false_eq_true, Nat.reduceEqDiff, Nat.reduceAdd, Int.reduceEq, Int.reduceLT, Int.reduceLE, Int.reduceNeg, Int.reduceAdd, Int.reduceSub, Int.reduceMul, reduceCtorEq, iA, iS, iM, iD, iR, iN, lA, lS, lM, lD, lR, h.1.k, h.1.p0, h.1.a1, h.1.n1, m0, m1, m2, m3, m4, hl, wM_of (m_atForecast hm4 (show 0 ≤ (3 : Int) ∧ (3 : Int) < 112 by decide)), o1, hκ, hl2, e2, wM_of hm82, o2, w32_s (show j < 1000 by clear e2; omega)]
        clear e2
        rcases hz with hz | hz
        · have ho : ¬ od κ (mOd v M m) 0 j = true := by unfold od; rw [Int.zero_add]; simp [mOd, hz]
          rw [hz, nP_0 ho]
          generalize nP (od κ (mOd v M m) 0) j = z at b ⊢
          rw [w32_e (z := 0) (by decide)]
          rw [w32_e (by omega)]
          omega
        · have ho : od κ (mOd v M m) 0 j = true := by unfold od; rw [Int.zero_add]; simp [mOd, hz, hl2]
          rw [hz, nP_1 ho]
          generalize nP (od κ (mOd v M m) 0) j = z at b ⊢
          rw [w32_e (z := 1) (by decide)]
          rw [w32_e (by omega)]
      · rintro L w ⟨⟨m0, m1, m2, m3, m4⟩, rfl⟩
        have ht := nP_tail (p := od κ (mOd v M m) 0) (k := N) n.toNat (by omega) (fun q g1 g2 => by
          have h3 : ¬ q < κ := by split at hN' <;> omega
          unfold od
          rw [Int.zero_add]
          simp [h3])
        simp only [cX12_odd_1, wE_I, wE_V, wE_F, wE_A, wE_N, wE_1, wE_2, wE_D, wE_B, wE_If, wE_C, wE_CV, wE_SL, wE_SA, wA_0, wA_1, wC_B, wC_E, wC_And, wC_Or, wC_Not, wS_Skip, wS_Brk, wS_Cnt, wS_RetV, wS_Ret, wS_Seq, wS_Set, wS_Inc, wS_Do, wS_Put, wS_PutC, wS_Arr, wS_ArrC, wS_If, wS_Sw, wS_F0, wS_F1, wM_q, lu_ap, aL_ap, ct_0, ct_1, ct_2, ct_3, ct_4, ct_5, headD_1, List.mem_cons, List.not_mem_nil, or_false, false_or, or_true, true_or, true_and, and_true, false_and, and_false, not_true_eq_false, not_false_eq_true, if_true, if_false, nr_20, nr_24, nr_40, nr_41, nr_44, pt_lt, pt_ge, pt_eq, pt_ne, pt_gt, pt_le, pt_E, pt_N, pt_F, ite_10, ite_11, ne_eq, and_self, or_self, decide_true, decide_false, Bool.not_true, Bool.not_false, Bool.false_eq_true, Nat.reduceEqDiff, Nat.reduceAdd, Int.reduceEq, Int.reduceLT, Int.reduceLE, Int.reduceNeg, Int.reduceAdd, Int.reduceSub, Int.reduceMul, reduceCtorEq, iA, iS, iM, iD, iR, iN, lA, lS, lM, lD, lR, h.1.k, h.1.p0, h.1.a1, h.1.n1, m0, m1, m2, m3, m4, wM_of (m_atForecast hm4 (show 0 ≤ (3 : Int) ∧ (3 : Int) < 112 by decide)), o1, hκ, ht]
        by_cases hl : (N : Int) < n
        · have hl2 : ¬ (N : Int) < κ := by split at hN' <;> omega
          simp [hl2]
        · simp [hl]
    · simp only [mX12_odd, sX12_odd, wE_I, wE_V, wE_F, wE_A, wE_N, wE_1, wE_2, wE_D, wE_B, wE_If, wE_C, wE_CV, wE_SL, wE_SA, wA_0, wA_1, wC_B, wC_E, wC_And, wC_Or, wC_Not, wS_Skip, wS_Brk, wS_Cnt, wS_RetV, wS_Ret, wS_Seq, wS_Set, wS_Inc, wS_Do, wS_Put, wS_PutC, wS_Arr, wS_ArrC, wS_If, wS_Sw, wS_F0, wS_F1, wM_q, lu_ap, aL_ap, ct_0, ct_1, ct_2, ct_3, ct_4, ct_5, headD_1, List.mem_cons, List.not_mem_nil, or_false, false_or, or_true, true_or, true_and, and_true, false_and, and_false, not_true_eq_false, not_false_eq_true, if_true, if_false, nr_20, nr_24, nr_40, nr_41, nr_44, pt_lt, pt_ge, pt_eq, pt_ne, pt_gt, pt_le, pt_E, pt_N, pt_F, ite_10, ite_11, ne_eq, and_self, or_self, decide_true, decide_false, Bool.not_true, Bool.not_false, Bool.false_eq_true, Nat.reduceEqDiff, Nat.reduceAdd, Int.reduceEq, Int.reduceLT, Int.reduceLE, Int.reduceNeg, Int.reduceAdd, Int.reduceSub, Int.reduceMul, reduceCtorEq, iA, iS, iM, iD, iR, iN, lA, lS, lM, lD, lR, h.1.k, wM_of (m_isF h), hm, wM_of m_isIn, hN]
  · simp only [mX12_odd, sX12_odd, wE_I, wE_V, wE_F, wE_A, wE_N, wE_1, wE_2, wE_D, wE_B, wE_If, wE_C, wE_CV, wE_SL, wE_SA, wA_0, wA_1, wC_B, wC_E, wC_And, wC_Or, wC_Not, wS_Skip, wS_Brk, wS_Cnt, wS_RetV, wS_Ret, wS_Seq, wS_Set, wS_Inc, wS_Do, wS_Put, wS_PutC, wS_Arr, wS_ArrC, wS_If, wS_Sw, wS_F0, wS_F1, wM_q, lu_ap, aL_ap, ct_0, ct_1, ct_2, ct_3, ct_4, ct_5, headD_1, List.mem_cons, List.not_mem_nil, or_false, false_or, or_true, true_or, true_and, and_true, false_and, and_false, not_true_eq_false, not_false_eq_true, if_true, if_false, nr_20, nr_24, nr_40, nr_41, nr_44, pt_lt, pt_ge, pt_eq, pt_ne, pt_gt, pt_le, pt_E, pt_N, pt_F, ite_10, ite_11, ne_eq, and_self, or_self, decide_true, decide_false, Bool.not_true, Bool.not_false, Bool.false_eq_true, Nat.reduceEqDiff, Nat.reduceAdd, Int.reduceEq, Int.reduceLT, Int.reduceLE, Int.reduceNeg, Int.reduceAdd, Int.reduceSub, Int.reduceMul, reduceCtorEq, iA, iS, iM, iD, iR, iN, lA, lS, lM, lD, lR, h.1.k, wM_of (m_isF h), hm]
theorem m_oddFrom (h : RM S v M B) {m i n : Int} (hm4 : 0 ≤ m ∧ m < 4) (hr : RP v M m) (hi : 0 ≤ i) (hn : 0 ≤ n ∧ i + n ≤ v (M + 1) (647 + 112 * m + 3)) : mX12_oddFrom [M, m, i, n] S v = some (nP (od (v (M + 1) (647 + 112 * m + 3)) (mOd v M m) i) n.toNat, v) := by
  apply wM_eq
  have hk := hr.1
  have hod := hr.2.2.2.2
  generalize hκ : v (M + 1) (647 + 112 * m + 3) = κ at *
  have en : w32 (i + n) = i + n := w32_e (by omega)
  simp only [mX12_oddFrom, sX12_oddFrom, wE_I, wE_V, wE_F, wE_A, wE_N, wE_1, wE_2, wE_D, wE_B, wE_If, wE_C, wE_CV, wE_SL, wE_SA, wA_0, wA_1, wC_B, wC_E, wC_And, wC_Or, wC_Not, wS_Skip, wS_Brk, wS_Cnt, wS_RetV, wS_Ret, wS_Seq, wS_Set, wS_Inc, wS_Do, wS_Put, wS_PutC, wS_Arr, wS_ArrC, wS_If, wS_Sw, wS_F0, wS_F1, wM_q, lu_ap, aL_ap, ct_0, ct_1, ct_2, ct_3, ct_4, ct_5, headD_1, List.mem_cons, List.not_mem_nil, or_false, false_or, or_true, true_or, true_and, and_true, false_and, and_false, not_true_eq_false, not_false_eq_true, if_true, if_false, nr_20, nr_24, nr_40, nr_41, nr_44, pt_lt, pt_ge, pt_eq, pt_ne, pt_gt, pt_le, pt_E, pt_N, pt_F, ite_10, ite_11, ne_eq, and_self, or_self, decide_true, decide_false, Bool.not_true, Bool.not_false, Bool.false_eq_true, Nat.reduceEqDiff, Nat.reduceAdd, Int.reduceEq, Int.reduceLT, Int.reduceLE, Int.reduceNeg, Int.reduceAdd, Int.reduceSub, Int.reduceMul, reduceCtorEq, iA, iS, iM, iD, iR, iN, lA, lS, lM, lD, lR]
  refine wS_For n.toNat (fun j L w => (L 0 = M ∧ L 1 = m ∧ L 2 = i ∧ L 3 = n ∧ L 4 = nP (od κ (mOd v M m) i) j ∧ L 5 = i + j) ∧ v = w) (by clear en; omega) ?_ ?_ ?_
  · simp [lu_ap, aL_ap, ct_0, ct_2, nP]
  · rintro j L w hj ⟨⟨m0, m1, m2, m3, m4, m5⟩, rfl⟩
    have hl : i + (j : Int) < i + n := by clear en; omega
    have hl2 : i + (j : Int) < κ := by clear en; omega
    have e2 : w32 (82 + (i + (j : Int))) = 82 + (i + j) := by clear en; exact w32_e (by omega)
    have ej : w32 (i + (j : Int) + 1) = i + ((j + 1 : Nat) : Int) := by clear en e2; rw [w32_e (by omega)]; omega
    have o2 : 0 ≤ 647 + 112 * m + (82 + (i + (j : Int))) ∧ 647 + 112 * m + (82 + (i + (j : Int))) < 1095 := by clear en e2 ej; omega
    have b := nP_b (od κ (mOd v M m) i) j
    have hz := hod (i + j) (by clear en e2 ej; omega) hl2
    have hm82 : mX12_atForecast [m, 82 + (i + (j : Int))] S v = some (647 + 112 * m + (82 + (i + (j : Int))), v) := m_atForecast hm4 (by clear en e2 ej; omega)
    simp only [cX12_oddFrom_1, bX12_oddFrom_1, uX12_oddFrom_1, wE_I, wE_V, wE_F, wE_A, wE_N, wE_1, wE_2, wE_D, wE_B, wE_If, wE_C, wE_CV, wE_SL, wE_SA, wA_0, wA_1, wC_B, wC_E, wC_And, wC_Or, wC_Not, wS_Skip, wS_Brk, wS_Cnt, wS_RetV, wS_Ret, wS_Seq, wS_Set, wS_Inc, wS_Do, wS_Put, wS_PutC, wS_Arr, wS_ArrC, wS_If, wS_Sw, wS_F0, wS_F1, wM_q, lu_ap, aL_ap, ct_0, ct_1, ct_2, ct_3, ct_4, ct_5, headD_1, List.mem_cons, List.not_mem_nil, or_false, false_or, or_true, true_or, true_and, and_true, false_and, and_false, not_true_eq_false, not_false_eq_true, if_true, if_false, nr_20, nr_24, nr_40, nr_41, nr_44, pt_lt, pt_ge, pt_eq, pt_ne, pt_gt, pt_le, pt_E, pt_N, pt_F, ite_10, ite_11, ne_eq, and_self, or_self, decide_true, decide_false, Bool.not_true, Bool.not_false, Bool.false_eq_true, Nat.reduceEqDiff, Nat.reduceAdd, Int.reduceEq, Int.reduceLT, Int.reduceLE, Int.reduceNeg, Int.reduceAdd, Int.reduceSub, Int.reduceMul, reduceCtorEq, iA, iS, iM, iD, iR, iN, lA, lS, lM, lD, lR, h.1.k, h.1.p0, h.1.a1, h.1.n1, m0, m1, m2, m3, m4, m5, en, hl, e2, wM_of hm82, o2, ej]
    clear en e2 ej
    rcases hz with hz | hz
    · have ho : ¬ od κ (mOd v M m) i j = true := by unfold od; simp [mOd, hz]
      rw [hz, nP_0 ho]
      generalize nP (od κ (mOd v M m) i) j = z at b ⊢
      rw [w32_e (z := 0) (by decide)]
      rw [w32_e (by omega)]
      omega
    · have ho : od κ (mOd v M m) i j = true := by unfold od; simp [mOd, hz, hl2]
      rw [hz, nP_1 ho]
      generalize nP (od κ (mOd v M m) i) j = z at b ⊢
      rw [w32_e (z := 1) (by decide)]
      rw [w32_e (by omega)]
  · rintro L w ⟨⟨m0, m1, m2, m3, m4, m5⟩, rfl⟩
    have hl : ¬ i + (n.toNat : Int) < i + n := by clear en; omega
    simp only [cX12_oddFrom_1, wE_I, wE_V, wE_F, wE_A, wE_N, wE_1, wE_2, wE_D, wE_B, wE_If, wE_C, wE_CV, wE_SL, wE_SA, wA_0, wA_1, wC_B, wC_E, wC_And, wC_Or, wC_Not, wS_Skip, wS_Brk, wS_Cnt, wS_RetV, wS_Ret, wS_Seq, wS_Set, wS_Inc, wS_Do, wS_Put, wS_PutC, wS_Arr, wS_ArrC, wS_If, wS_Sw, wS_F0, wS_F1, wM_q, lu_ap, aL_ap, ct_0, ct_1, ct_2, ct_3, ct_4, ct_5, headD_1, List.mem_cons, List.not_mem_nil, or_false, false_or, or_true, true_or, true_and, and_true, false_and, and_false, not_true_eq_false, not_false_eq_true, if_true, if_false, nr_20, nr_24, nr_40, nr_41, nr_44, pt_lt, pt_ge, pt_eq, pt_ne, pt_gt, pt_le, pt_E, pt_N, pt_F, ite_10, ite_11, ne_eq, and_self, or_self, decide_true, decide_false, Bool.not_true, Bool.not_false, Bool.false_eq_true, Nat.reduceEqDiff, Nat.reduceAdd, Int.reduceEq, Int.reduceLT, Int.reduceLE, Int.reduceNeg, Int.reduceAdd, Int.reduceSub, Int.reduceMul, reduceCtorEq, iA, iS, iM, iD, iR, iN, lA, lS, lM, lD, lR, h.1.k, m0, m1, m2, m3, m4, m5, en, hl]
theorem m_alarms (h : RM S v M B) {m n k : Int} [Decidable (mF v M B m)] (hr : mF v M B m → RP v M m) : mX12_alarms [M, m, n, k] S v = some (if mF v M B m ∧ (1 ≤ n ∧ n ≤ 30) ∧ 0 ≤ k ∧ k ≤ 30 then nP (fun i => decide (k ≤ nP (od (v (M + 1) (647 + 112 * m + 3)) (mOd v M m) i) n.toNat)) (v (M + 1) (647 + 112 * m + 3) - n + 1).toNat else -2147483648, v) := by
  apply wM_eq
  by_cases hm : mF v M B m
  · have hn := h.2.2.2.2.1
    have hm1 := hm.1
    have hr' := hr hm
    have hk := hr'.1
    have hm4 : 0 ≤ m ∧ m < 4 := by omega
    by_cases hN : 1 ≤ n ∧ n ≤ 30
    · by_cases hK : 0 ≤ k ∧ k ≤ 30
      · simp only [mX12_alarms, sX12_alarms, wE_I, wE_V, wE_F, wE_A, wE_N, wE_1, wE_2, wE_D, wE_B, wE_If, wE_C, wE_CV, wE_SL, wE_SA, wA_0, wA_1, wC_B, wC_E, wC_And, wC_Or, wC_Not, wS_Skip, wS_Brk, wS_Cnt, wS_RetV, wS_Ret, wS_Seq, wS_Set, wS_Inc, wS_Do, wS_Put, wS_PutC, wS_Arr, wS_ArrC, wS_If, wS_Sw, wS_F0, wS_F1, wM_q, lu_ap, aL_ap, ct_0, ct_1, ct_2, ct_3, ct_4, ct_5, headD_1, List.mem_cons, List.not_mem_nil, or_false, false_or, or_true, true_or, true_and, and_true, false_and, and_false, not_true_eq_false, not_false_eq_true, if_true, if_false, nr_20, nr_24, nr_40, nr_41, nr_44, pt_lt, pt_ge, pt_eq, pt_ne, pt_gt, pt_le, pt_E, pt_N, pt_F, ite_10, ite_11, ne_eq, and_self, or_self, decide_true, decide_false, Bool.not_true, Bool.not_false, Bool.false_eq_true, Nat.reduceEqDiff, Nat.reduceAdd, Int.reduceEq, Int.reduceLT, Int.reduceLE, Int.reduceNeg, Int.reduceAdd, Int.reduceSub, Int.reduceMul, reduceCtorEq, iA, iS, iM, iD, iR, iN, lA, lS, lM, lD, lR, h.1.k, wM_of (m_isF h), hm, wM_of m_isIn, hN, hK]
        have o1 : 0 ≤ 647 + 112 * m + 3 ∧ 647 + 112 * m + 3 < 1095 := by omega
        generalize hκ : v (M + 1) (647 + 112 * m + 3) = κ at *
        refine wS_For (κ - n + 1).toNat (fun j L w => (L 0 = M ∧ L 1 = m ∧ L 2 = n ∧ L 3 = k ∧ L 4 = nP (fun i => decide (k ≤ nP (od κ (mOd v M m) i) n.toNat)) j ∧ L 5 = j) ∧ v = w) (by omega) ?_ ?_ ?_
        · simp [lu_ap, aL_ap, ct_0, ct_2, nP]
        · rintro j L w hj ⟨⟨m0, m1, m2, m3, m4, m5⟩, rfl⟩
          have ej : w32 ((j : Int) + n) = j + n := w32_e (by omega)
          have hl : (j : Int) + n ≤ κ := by clear ej; omega
          have hof := m_oddFrom h (i := j) (n := n) hm4 hr' (by clear ej; omega) (by rw [hκ]; clear ej; omega)
          rw [hκ] at hof
          have b := nP_b (fun i => decide (k ≤ nP (od κ (mOd v M m) i) n.toNat)) j
          simp only [cX12_alarms_1, bX12_alarms_1, uX12_alarms_1, wE_I, wE_V, wE_F, wE_A, wE_N, wE_1, wE_2, wE_D, wE_B, wE_If, wE_C, wE_CV, wE_SL, wE_SA, wA_0, wA_1, wC_B, wC_E, wC_And, wC_Or, wC_Not, wS_Skip, wS_Brk, wS_Cnt, wS_RetV, wS_Ret, wS_Seq, wS_Set, wS_Inc, wS_Do, wS_Put, wS_PutC, wS_Arr, wS_ArrC, wS_If, wS_Sw, wS_F0, wS_F1, wM_q, lu_ap, aL_ap, ct_0, ct_1, ct_2, ct_3, ct_4, ct_5, headD_1, List.mem_cons, List.not_mem_nil, or_false, false_or, or_true, true_or, true_and, and_true, false_and, and_false, not_true_eq_false, not_false_eq_true, if_true, if_false, nr_20, nr_24, nr_40, nr_41, nr_44, pt_lt, pt_ge, pt_eq, pt_ne, pt_gt, pt_le, pt_E, pt_N, pt_F, ite_10, ite_11, ne_eq, and_self, or_self, decide_true, decide_false, Bool.not_true, Bool.not_false, Bool.false_eq_true, Nat.reduceEqDiff, Nat.reduceAdd, Int.reduceEq, Int.reduceLT, Int.reduceLE, Int.reduceNeg, Int.reduceAdd, Int.reduceSub, Int.reduceMul, reduceCtorEq, iA, iS, iM, iD, iR, iN, lA, lS, lM, lD, lR, h.1.k, h.1.p0, h.1.a1, h.1.n1, m0, m1, m2, m3, m4, m5, ej, hl, hκ, o1, wM_of (m_atForecast hm4 (show 0 ≤ (3 : Int) ∧ (3 : Int) < 112 by decide)), wM_of hof, w32_s (show j < 1000 by clear ej; omega)]
          clear ej
          by_cases h1 : k ≤ nP (od κ (mOd v M m) j) n.toNat
          · rw [nP_1 (p := fun i => decide (k ≤ nP (od κ (mOd v M m) i) n.toNat)) (by simp [h1])]
            simp only [h1, if_true]
            generalize nP (fun i => decide (k ≤ nP (od κ (mOd v M m) i) n.toNat)) j = z at b ⊢
            exact w32_e (by omega)
          · rw [nP_0 (p := fun i => decide (k ≤ nP (od κ (mOd v M m) i) n.toNat)) (by simp [h1])]
            simp only [h1, if_false]
            generalize nP (fun i => decide (k ≤ nP (od κ (mOd v M m) i) n.toNat)) j = z at b ⊢
            rw [w32_e (by omega)]
            omega
        · rintro L w ⟨⟨m0, m1, m2, m3, m4, m5⟩, rfl⟩
          have ej : w32 (((κ - n + 1).toNat : Int) + n) = (κ - n + 1).toNat + n := w32_e (by omega)
          have hl : ¬ ((κ - n + 1).toNat : Int) + n ≤ κ := by clear ej; omega
          simp only [cX12_alarms_1, wE_I, wE_V, wE_F, wE_A, wE_N, wE_1, wE_2, wE_D, wE_B, wE_If, wE_C, wE_CV, wE_SL, wE_SA, wA_0, wA_1, wC_B, wC_E, wC_And, wC_Or, wC_Not, wS_Skip, wS_Brk, wS_Cnt, wS_RetV, wS_Ret, wS_Seq, wS_Set, wS_Inc, wS_Do, wS_Put, wS_PutC, wS_Arr, wS_ArrC, wS_If, wS_Sw, wS_F0, wS_F1, wM_q, lu_ap, aL_ap, ct_0, ct_1, ct_2, ct_3, ct_4, ct_5, headD_1, List.mem_cons, List.not_mem_nil, or_false, false_or, or_true, true_or, true_and, and_true, false_and, and_false, not_true_eq_false, not_false_eq_true, if_true, if_false, nr_20, nr_24, nr_40, nr_41, nr_44, pt_lt, pt_ge, pt_eq, pt_ne, pt_gt, pt_le, pt_E, pt_N, pt_F, ite_10, ite_11, ne_eq, and_self, or_self, decide_true, decide_false, Bool.not_true, Bool.not_false, Bool.false_eq_true, Nat.reduceEqDiff, Nat.reduceAdd, Int.reduceEq, Int.reduceLT, Int.reduceLE, Int.reduceNeg, Int.reduceAdd, Int.reduceSub, Int.reduceMul, reduceCtorEq, iA, iS, iM, iD, iR, iN, lA, lS, lM, lD, lR, h.1.k, h.1.p0, h.1.a1, h.1.n1, m0, m1, m2, m3, m4, m5, ej, hl, hκ, o1, wM_of (m_atForecast hm4 (show 0 ≤ (3 : Int) ∧ (3 : Int) < 112 by decide))]
      · simp only [mX12_alarms, sX12_alarms, wE_I, wE_V, wE_F, wE_A, wE_N, wE_1, wE_2, wE_D, wE_B, wE_If, wE_C, wE_CV, wE_SL, wE_SA, wA_0, wA_1, wC_B, wC_E, wC_And, wC_Or, wC_Not, wS_Skip, wS_Brk, wS_Cnt, wS_RetV, wS_Ret, wS_Seq, wS_Set, wS_Inc, wS_Do, wS_Put, wS_PutC, wS_Arr, wS_ArrC, wS_If, wS_Sw, wS_F0, wS_F1, wM_q, lu_ap, aL_ap, ct_0, ct_1, ct_2, ct_3, ct_4, ct_5, headD_1, List.mem_cons, List.not_mem_nil, or_false, false_or, or_true, true_or, true_and, and_true, false_and, and_false, not_true_eq_false, not_false_eq_true, if_true, if_false, nr_20, nr_24, nr_40, nr_41, nr_44, pt_lt, pt_ge, pt_eq, pt_ne, pt_gt, pt_le, pt_E, pt_N, pt_F, ite_10, ite_11, ne_eq, and_self, or_self, decide_true, decide_false, Bool.not_true, Bool.not_false, Bool.false_eq_true, Nat.reduceEqDiff, Nat.reduceAdd, Int.reduceEq, Int.reduceLT, Int.reduceLE, Int.reduceNeg, Int.reduceAdd, Int.reduceSub, Int.reduceMul, reduceCtorEq, iA, iS, iM, iD, iR, iN, lA, lS, lM, lD, lR, h.1.k, wM_of (m_isF h), hm, wM_of m_isIn, hN, hK]
    · simp only [mX12_alarms, sX12_alarms, wE_I, wE_V, wE_F, wE_A, wE_N, wE_1, wE_2, wE_D, wE_B, wE_If, wE_C, wE_CV, wE_SL, wE_SA, wA_0, wA_1, wC_B, wC_E, wC_And, wC_Or, wC_Not, wS_Skip, wS_Brk, wS_Cnt, wS_RetV, wS_Ret, wS_Seq, wS_Set, wS_Inc, wS_Do, wS_Put, wS_PutC, wS_Arr, wS_ArrC, wS_If, wS_Sw, wS_F0, wS_F1, wM_q, lu_ap, aL_ap, ct_0, ct_1, ct_2, ct_3, ct_4, ct_5, headD_1, List.mem_cons, List.not_mem_nil, or_false, false_or, or_true, true_or, true_and, and_true, false_and, and_false, not_true_eq_false, not_false_eq_true, if_true, if_false, nr_20, nr_24, nr_40, nr_41, nr_44, pt_lt, pt_ge, pt_eq, pt_ne, pt_gt, pt_le, pt_E, pt_N, pt_F, ite_10, ite_11, ne_eq, and_self, or_self, decide_true, decide_false, Bool.not_true, Bool.not_false, Bool.false_eq_true, Nat.reduceEqDiff, Nat.reduceAdd, Int.reduceEq, Int.reduceLT, Int.reduceLE, Int.reduceNeg, Int.reduceAdd, Int.reduceSub, Int.reduceMul, reduceCtorEq, iA, iS, iM, iD, iR, iN, lA, lS, lM, lD, lR, h.1.k, wM_of (m_isF h), hm, wM_of m_isIn, hN]
  · simp only [mX12_alarms, sX12_alarms, wE_I, wE_V, wE_F, wE_A, wE_N, wE_1, wE_2, wE_D, wE_B, wE_If, wE_C, wE_CV, wE_SL, wE_SA, wA_0, wA_1, wC_B, wC_E, wC_And, wC_Or, wC_Not, wS_Skip, wS_Brk, wS_Cnt, wS_RetV, wS_Ret, wS_Seq, wS_Set, wS_Inc, wS_Do, wS_Put, wS_PutC, wS_Arr, wS_ArrC, wS_If, wS_Sw, wS_F0, wS_F1, wM_q, lu_ap, aL_ap, ct_0, ct_1, ct_2, ct_3, ct_4, ct_5, headD_1, List.mem_cons, List.not_mem_nil, or_false, false_or, or_true, true_or, true_and, and_true, false_and, and_false, not_true_eq_false, not_false_eq_true, if_true, if_false, nr_20, nr_24, nr_40, nr_41, nr_44, pt_lt, pt_ge, pt_eq, pt_ne, pt_gt, pt_le, pt_E, pt_N, pt_F, ite_10, ite_11, ne_eq, and_self, or_self, decide_true, decide_false, Bool.not_true, Bool.not_false, Bool.false_eq_true, Nat.reduceEqDiff, Nat.reduceAdd, Int.reduceEq, Int.reduceLT, Int.reduceLE, Int.reduceNeg, Int.reduceAdd, Int.reduceSub, Int.reduceMul, reduceCtorEq, iA, iS, iM, iD, iR, iN, lA, lS, lM, lD, lR, h.1.k, wM_of (m_isF h), hm]
theorem m_ahead (h : RM S v M B) {m n : Int} [Decidable (mF v M B m)] (hs : mF v M B m → 2 ≤ v (M + 19) (4 * B + m) ∧ v (M + 19) (4 * B + m) ≤ 24) (hr : mF v M B m → RP v M m) : mX12_ahead [M, m, n] S v = some (if mF v M B m ∧ (1 ≤ n ∧ n ≤ 48) ∧ ¬ v (M + 1) (647 + 112 * m + 2) = 0 then hd (ahL (v (M + 1) (647 + 112 * m + 0)) (v (M + 1) (647 + 112 * m + 1)) (n.toNat - 1) + v (M + 1) (647 + 112 * m + 1) + v (M + 1) (647 + 112 * m + (4 + (v (M + 1) 1 + n - 1) % v (M + 19) (4 * B + m)))) else -2147483648, v) := by
  apply wM_eq
  by_cases hm : mF v M B m
  · have hnn := h.2.2.2.2.1
    have hB := h.B2
    have hm1 := hm.1
    have hs' := hs hm
    obtain ⟨r1, r2, r3, r4, -⟩ := hr hm
    have hS := mS_b h
    have hT := h.2.2.2.2.2.2.2.1
    have hm4 : 0 ≤ m ∧ m < 4 := by omega
    have oB : 0 ≤ 4 * B + m ∧ 4 * B + m < 8 := by omega
    have of_ : ∀ x : Int, 0 ≤ x → x < 112 → (0 ≤ 647 + 112 * m + x ∧ 647 + 112 * m + x < 1095) := fun x g1 g2 => by omega
    have f0 := fun u => m_atForecast (S := S) (v := u) hm4 (show 0 ≤ (0 : Int) ∧ (0 : Int) < 112 by decide)
    have f1 := fun u => m_atForecast (S := S) (v := u) hm4 (show 0 ≤ (1 : Int) ∧ (1 : Int) < 112 by decide)
    have f2 := fun u => m_atForecast (S := S) (v := u) hm4 (show 0 ≤ (2 : Int) ∧ (2 : Int) < 112 by decide)
    have o0 := of_ 0 (by decide) (by decide)
    have o1 := of_ 1 (by decide) (by decide)
    have o2 := of_ 2 (by decide) (by decide)
    by_cases h2 : v (M + 1) (647 + 112 * m + 2) = 0
    · simp only [mX12_ahead, sX12_ahead, wE_I, wE_V, wE_F, wE_A, wE_N, wE_1, wE_2, wE_D, wE_B, wE_If, wE_C, wE_CV, wE_SL, wE_SA, wA_0, wA_1, wC_B, wC_E, wC_And, wC_Or, wC_Not, wS_Skip, wS_Brk, wS_Cnt, wS_RetV, wS_Ret, wS_Seq, wS_Set, wS_Inc, wS_Do, wS_Put, wS_PutC, wS_Arr, wS_ArrC, wS_If, wS_Sw, wS_F0, wS_F1, wM_q, lu_ap, aL_ap, ct_0, ct_1, ct_2, ct_3, ct_4, ct_5, headD_1, List.mem_cons, List.not_mem_nil, or_false, false_or, or_true, true_or, true_and, and_true, false_and, and_false, not_true_eq_false, not_false_eq_true, if_true, if_false, nr_20, nr_24, nr_40, nr_41, nr_44, pt_lt, pt_ge, pt_eq, pt_ne, pt_gt, pt_le, pt_E, pt_N, pt_F, ite_10, ite_11, ne_eq, and_self, or_self, decide_true, decide_false, Bool.not_true, Bool.not_false, Bool.false_eq_true, Nat.reduceEqDiff, Nat.reduceAdd, Int.reduceEq, Int.reduceLT, Int.reduceLE, Int.reduceNeg, Int.reduceAdd, Int.reduceSub, Int.reduceMul, reduceCtorEq, iA, iS, iM, iD, iR, iN, lA, lS, lM, lD, lR, h.1.k, h.1.p0, h.1.a1, h.1.n1, wM_of (m_isF h), hm, wM_of (f2 _), o2, h2]
    · by_cases hN : 1 ≤ n ∧ n ≤ 48
      · simp only [mX12_ahead, sX12_ahead, wE_I, wE_V, wE_F, wE_A, wE_N, wE_1, wE_2, wE_D, wE_B, wE_If, wE_C, wE_CV, wE_SL, wE_SA, wA_0, wA_1, wC_B, wC_E, wC_And, wC_Or, wC_Not, wS_Skip, wS_Brk, wS_Cnt, wS_RetV, wS_Ret, wS_Seq, wS_Set, wS_Inc, wS_Do, wS_Put, wS_PutC, wS_Arr, wS_ArrC, wS_If, wS_Sw, wS_F0, wS_F1, wM_q, lu_ap, aL_ap, ct_0, ct_1, ct_2, ct_3, ct_4, ct_5, headD_1, List.mem_cons, List.not_mem_nil, or_false, false_or, or_true, true_or, true_and, and_true, false_and, and_false, not_true_eq_false, not_false_eq_true, if_true, if_false, nr_20, nr_24, nr_40, nr_41, nr_44, pt_lt, pt_ge, pt_eq, pt_ne, pt_gt, pt_le, pt_E, pt_N, pt_F, ite_10, ite_11, ne_eq, and_self, or_self, decide_true, decide_false, Bool.not_true, Bool.not_false, Bool.false_eq_true, Nat.reduceEqDiff, Nat.reduceAdd, Int.reduceEq, Int.reduceLT, Int.reduceLE, Int.reduceNeg, Int.reduceAdd, Int.reduceSub, Int.reduceMul, reduceCtorEq, iA, iS, iM, iD, iR, iN, lA, lS, lM, lD, lR, h.1.k, h.1.p0, h.1.a1, h.1.n1, wM_of (m_isF h), hm, wM_of (f0 _), wM_of (f1 _), wM_of (f2 _), o0, o1, o2, h2, wM_of m_isIn, hN]
        generalize hl : v (M + 1) (647 + 112 * m + 0) = l at *
        generalize ht : v (M + 1) (647 + 112 * m + 1) = t at *
        have bl := fun k => ahL_b (t := t) r2 k
        refine wS_For (n.toNat - 1) (fun j L w => (L 0 = M ∧ L 1 = m ∧ L 2 = n ∧ L 3 = ahL l t j ∧ L 5 = t ∧ L 7 = 1 + j) ∧ v = w) (by omega) ?_ ?_ ?_
        · simp [lu_ap, aL_ap, ct_0, ct_2, ahL]
        · rintro j L w hj ⟨⟨m0, m1, m2, m3, m5, m7⟩, rfl⟩
          have hl1 : 1 + (j : Int) < n := by omega
          have b3 := bl j
          have e1 : w64 (ahL l t j + t) = ahL l t j + t := by
            generalize ahL l t j = z at b3 ⊢
            exact w64_e (by omega)
          have ej : w32 (1 + (j : Int) + 1) = 1 + ((j + 1 : Nat) : Int) := by clear e1 b3; rw [w32_e (by omega)]; omega
          simp only [cX12_ahead_1, bX12_ahead_1, uX12_ahead_1, wE_I, wE_V, wE_F, wE_A, wE_N, wE_1, wE_2, wE_D, wE_B, wE_If, wE_C, wE_CV, wE_SL, wE_SA, wA_0, wA_1, wC_B, wC_E, wC_And, wC_Or, wC_Not, wS_Skip, wS_Brk, wS_Cnt, wS_RetV, wS_Ret, wS_Seq, wS_Set, wS_Inc, wS_Do, wS_Put, wS_PutC, wS_Arr, wS_ArrC, wS_If, wS_Sw, wS_F0, wS_F1, wM_q, lu_ap, aL_ap, ct_0, ct_1, ct_2, ct_3, ct_4, ct_5, headD_1, List.mem_cons, List.not_mem_nil, or_false, false_or, or_true, true_or, true_and, and_true, false_and, and_false, not_true_eq_false, not_false_eq_true, if_true, if_false, nr_20, nr_24, nr_40, nr_41, nr_44, pt_lt, pt_ge, pt_eq, pt_ne, pt_gt, pt_le, pt_E, pt_N, pt_F, ite_10, ite_11, ne_eq, and_self, or_self, decide_true, decide_false, Bool.not_true, Bool.not_false, Bool.false_eq_true, Nat.reduceEqDiff, Nat.reduceAdd, Int.reduceEq, Int.reduceLT, Int.reduceLE, Int.reduceNeg, Int.reduceAdd, Int.reduceSub, Int.reduceMul, reduceCtorEq, iA, iS, iM, iD, iR, iN, lA, lS, lM, lD, lR, m0, m1, m2, m3, m5, m7, hl1, e1, wM_of m_held, ej, ahL]
        · rintro L w ⟨⟨m0, m1, m2, m3, m5, m7⟩, rfl⟩
          have hl1 : ¬ 1 + ((n.toNat - 1 : Nat) : Int) < n := by omega
          have b3 := bl (n.toNat - 1)
          have en : w32 (n - 1) = n - 1 := w32_e (by omega)
          have eS : w64 (v (M + 1) 1 + (n - 1)) = v (M + 1) 1 + n - 1 := by clear en; rw [w64_e (by omega)]; omega
          have hSn : 0 ≤ v (M + 1) 1 + n - 1 := by clear en eS; omega
          have hp : 0 ≤ (v (M + 1) 1 + n - 1) % v (M + 19) (4 * B + m) ∧ (v (M + 1) 1 + n - 1) % v (M + 19) (4 * B + m) < 24 := by
            clear en eS
            exact ⟨Int.emod_nonneg _ (by omega), by have := Int.emod_lt_of_pos (v (M + 1) 1 + n - 1) (show 0 < v (M + 19) (4 * B + m) by omega); omega⟩
          have hne : ¬ v (M + 19) (4 * B + m) = 0 := by clear en eS; omega
          have ep : w32 (w64 ((v (M + 1) 1 + n - 1) % v (M + 19) (4 * B + m))) = (v (M + 1) 1 + n - 1) % v (M + 19) (4 * B + m) := by
            clear en eS
            generalize (v (M + 1) 1 + n - 1) % v (M + 19) (4 * B + m) = z at hp ⊢
            rw [w64_e (by omega)]
            exact w32_e (by omega)
          have hq := r4 _ hp.1 hp.2
          have hpl : mX12_placeNow [M, m, n - 1] S v = some ((v (M + 1) 1 + n - 1) % v (M + 19) (4 * B + m), v) := by
            apply wM_eq
            simp only [mX12_placeNow, sX12_placeNow, wE_I, wE_V, wE_F, wE_A, wE_N, wE_1, wE_2, wE_D, wE_B, wE_If, wE_C, wE_CV, wE_SL, wE_SA, wA_0, wA_1, wC_B, wC_E, wC_And, wC_Or, wC_Not, wS_Skip, wS_Brk, wS_Cnt, wS_RetV, wS_Ret, wS_Seq, wS_Set, wS_Inc, wS_Do, wS_Put, wS_PutC, wS_Arr, wS_ArrC, wS_If, wS_Sw, wS_F0, wS_F1, wM_q, lu_ap, aL_ap, ct_0, ct_1, ct_2, ct_3, ct_4, ct_5, headD_1, List.mem_cons, List.not_mem_nil, or_false, false_or, or_true, true_or, true_and, and_true, false_and, and_false, not_true_eq_false, not_false_eq_true, if_true, if_false, nr_20, nr_24, nr_40, nr_41, nr_44, pt_lt, pt_ge, pt_eq, pt_ne, pt_gt, pt_le, pt_E, pt_N, pt_F, ite_10, ite_11, ne_eq, and_self, or_self, decide_true, decide_false, Bool.not_true, Bool.not_false, Bool.false_eq_true, Nat.reduceEqDiff, Nat.reduceAdd, Int.reduceEq, Int.reduceLT, Int.reduceLE, Int.reduceNeg, Int.reduceAdd, Int.reduceSub, Int.reduceMul, reduceCtorEq, iA, iS, iM, iD, iR, iN, lA, lS, lM, lD, lR, h.1.k, h.1.p0, h.1.a1, h.1.n1, h.1.p18, h.1.a19, h.1.n19, h.2.1, wM_of (m_own h.2.2.1 (show 0 ≤ m ∧ m ≤ 1000 by clear en eS ep; omega)), oB, eS, tmod_n hSn, hne, ep]
          have o4 := of_ (4 + (v (M + 1) 1 + n - 1) % v (M + 19) (4 * B + m)) (by clear en eS ep; omega) (by clear en eS ep; omega)
          have f4 : ∀ u, mX12_atForecast [m, 4 + (v (M + 1) 1 + n - 1) % v (M + 19) (4 * B + m)] S u = _ := fun u => m_atForecast (S := S) (v := u) (x := 4 + (v (M + 1) 1 + n - 1) % v (M + 19) (4 * B + m)) hm4 (by clear en eS ep; omega)
          clear eS ep
          generalize (v (M + 1) 1 + n - 1) % v (M + 19) (4 * B + m) = p at *
          have e4 : w32 (4 + p) = 4 + p := by clear en; exact w32_e (by omega)
          have e1 : w64 (ahL l t (n.toNat - 1) + t) = ahL l t (n.toNat - 1) + t := by
            clear en e4
            generalize ahL l t (n.toNat - 1) = z at b3 ⊢
            exact w64_e (by omega)
          have e2 : w64 (ahL l t (n.toNat - 1) + t + v (M + 1) (647 + 112 * m + (4 + p))) = ahL l t (n.toNat - 1) + t + v (M + 1) (647 + 112 * m + (4 + p)) := by
            clear en e4 e1
            generalize ahL l t (n.toNat - 1) = z at b3 ⊢
            exact w64_e (by omega)
          have e3 : w32 (hd (ahL l t (n.toNat - 1) + t + v (M + 1) (647 + 112 * m + (4 + p)))) = hd (ahL l t (n.toNat - 1) + t + v (M + 1) (647 + 112 * m + (4 + p))) := by
            clear en e4 e1 e2
            have := hd_b (ahL l t (n.toNat - 1) + t + v (M + 1) (647 + 112 * m + (4 + p)))
            generalize hd (ahL l t (n.toNat - 1) + t + v (M + 1) (647 + 112 * m + (4 + p))) = z at this ⊢
            exact w32_e (by omega)
          simp only [cX12_ahead_1, wE_I, wE_V, wE_F, wE_A, wE_N, wE_1, wE_2, wE_D, wE_B, wE_If, wE_C, wE_CV, wE_SL, wE_SA, wA_0, wA_1, wC_B, wC_E, wC_And, wC_Or, wC_Not, wS_Skip, wS_Brk, wS_Cnt, wS_RetV, wS_Ret, wS_Seq, wS_Set, wS_Inc, wS_Do, wS_Put, wS_PutC, wS_Arr, wS_ArrC, wS_If, wS_Sw, wS_F0, wS_F1, wM_q, lu_ap, aL_ap, ct_0, ct_1, ct_2, ct_3, ct_4, ct_5, headD_1, List.mem_cons, List.not_mem_nil, or_false, false_or, or_true, true_or, true_and, and_true, false_and, and_false, not_true_eq_false, not_false_eq_true, if_true, if_false, nr_20, nr_24, nr_40, nr_41, nr_44, pt_lt, pt_ge, pt_eq, pt_ne, pt_gt, pt_le, pt_E, pt_N, pt_F, ite_10, ite_11, ne_eq, and_self, or_self, decide_true, decide_false, Bool.not_true, Bool.not_false, Bool.false_eq_true, Nat.reduceEqDiff, Nat.reduceAdd, Int.reduceEq, Int.reduceLT, Int.reduceLE, Int.reduceNeg, Int.reduceAdd, Int.reduceSub, Int.reduceMul, reduceCtorEq, iA, iS, iM, iD, iR, iN, lA, lS, lM, lD, lR, h.1.k, h.1.p0, h.1.a1, h.1.n1, m0, m1, m2, m3, m5, m7, hl1, en, wM_of hpl, e4, wM_of (f4 _), o4, e1, e2, wM_of m_held, e3]
      · simp only [mX12_ahead, sX12_ahead, wE_I, wE_V, wE_F, wE_A, wE_N, wE_1, wE_2, wE_D, wE_B, wE_If, wE_C, wE_CV, wE_SL, wE_SA, wA_0, wA_1, wC_B, wC_E, wC_And, wC_Or, wC_Not, wS_Skip, wS_Brk, wS_Cnt, wS_RetV, wS_Ret, wS_Seq, wS_Set, wS_Inc, wS_Do, wS_Put, wS_PutC, wS_Arr, wS_ArrC, wS_If, wS_Sw, wS_F0, wS_F1, wM_q, lu_ap, aL_ap, ct_0, ct_1, ct_2, ct_3, ct_4, ct_5, headD_1, List.mem_cons, List.not_mem_nil, or_false, false_or, or_true, true_or, true_and, and_true, false_and, and_false, not_true_eq_false, not_false_eq_true, if_true, if_false, nr_20, nr_24, nr_40, nr_41, nr_44, pt_lt, pt_ge, pt_eq, pt_ne, pt_gt, pt_le, pt_E, pt_N, pt_F, ite_10, ite_11, ne_eq, and_self, or_self, decide_true, decide_false, Bool.not_true, Bool.not_false, Bool.false_eq_true, Nat.reduceEqDiff, Nat.reduceAdd, Int.reduceEq, Int.reduceLT, Int.reduceLE, Int.reduceNeg, Int.reduceAdd, Int.reduceSub, Int.reduceMul, reduceCtorEq, iA, iS, iM, iD, iR, iN, lA, lS, lM, lD, lR, h.1.k, h.1.p0, h.1.a1, h.1.n1, wM_of (m_isF h), hm, wM_of (f2 _), o2, h2, wM_of m_isIn, hN]
  · simp only [mX12_ahead, sX12_ahead, wE_I, wE_V, wE_F, wE_A, wE_N, wE_1, wE_2, wE_D, wE_B, wE_If, wE_C, wE_CV, wE_SL, wE_SA, wA_0, wA_1, wC_B, wC_E, wC_And, wC_Or, wC_Not, wS_Skip, wS_Brk, wS_Cnt, wS_RetV, wS_Ret, wS_Seq, wS_Set, wS_Inc, wS_Do, wS_Put, wS_PutC, wS_Arr, wS_ArrC, wS_If, wS_Sw, wS_F0, wS_F1, wM_q, lu_ap, aL_ap, ct_0, ct_1, ct_2, ct_3, ct_4, ct_5, headD_1, List.mem_cons, List.not_mem_nil, or_false, false_or, or_true, true_or, true_and, and_true, false_and, and_false, not_true_eq_false, not_false_eq_true, if_true, if_false, nr_20, nr_24, nr_40, nr_41, nr_44, pt_lt, pt_ge, pt_eq, pt_ne, pt_gt, pt_le, pt_E, pt_N, pt_F, ite_10, ite_11, ne_eq, and_self, or_self, decide_true, decide_false, Bool.not_true, Bool.not_false, Bool.false_eq_true, Nat.reduceEqDiff, Nat.reduceAdd, Int.reduceEq, Int.reduceLT, Int.reduceLE, Int.reduceNeg, Int.reduceAdd, Int.reduceSub, Int.reduceMul, reduceCtorEq, iA, iS, iM, iD, iR, iN, lA, lS, lM, lD, lR, h.1.k, wM_of (m_isF h), hm]
theorem m_measure (h : RM S v M B) {m x : Int} : mX12_measure [M, m, x] S v = some (if 0 ≤ m ∧ m < v (M + 3) B then (if x = 0 ∨ x = 1 ∨ x = 2 then w32 (v (M + 1) (3 + 12 * m + x)) else if x = 3 then v (M + 8) (4 * B + m) else if x = 4 then w32 (v (M + 1) (3 + 12 * m + 7)) else if x = 5 then w32 (v (M + 1) (3 + 12 * m + 3)) else -1) else -1, v) := by
  apply wM_eq
  by_cases hm : 0 ≤ m ∧ m < v (M + 3) B
  · have hn := h.2.2.2.2.1
    have hB := h.B2
    have hm4 : 0 ≤ m ∧ m < 4 := by omega
    have o1 : 0 ≤ 4 * B + m ∧ 4 * B + m < 8 := by omega
    have of_ : ∀ x : Int, 0 ≤ x → x < 12 → (0 ≤ 3 + 12 * m + x ∧ 3 + 12 * m + x < 1095) := fun x g1 g2 => by omega
    simp only [mX12_measure, sX12_measure, wE_I, wE_V, wE_F, wE_A, wE_N, wE_1, wE_2, wE_D, wE_B, wE_If, wE_C, wE_CV, wE_SL, wE_SA, wA_0, wA_1, wC_B, wC_E, wC_And, wC_Or, wC_Not, wS_Skip, wS_Brk, wS_Cnt, wS_RetV, wS_Ret, wS_Seq, wS_Set, wS_Inc, wS_Do, wS_Put, wS_PutC, wS_Arr, wS_ArrC, wS_If, wS_Sw, wS_F0, wS_F1, wM_q, lu_ap, aL_ap, ct_0, ct_1, ct_2, ct_3, ct_4, ct_5, headD_1, List.mem_cons, List.not_mem_nil, or_false, false_or, or_true, true_or, true_and, and_true, false_and, and_false, not_true_eq_false, not_false_eq_true, if_true, if_false, nr_20, nr_24, nr_40, nr_41, nr_44, pt_lt, pt_ge, pt_eq, pt_ne, pt_gt, pt_le, pt_E, pt_N, pt_F, ite_10, ite_11, ne_eq, and_self, or_self, decide_true, decide_false, Bool.not_true, Bool.not_false, Bool.false_eq_true, Nat.reduceEqDiff, Nat.reduceAdd, Int.reduceEq, Int.reduceLT, Int.reduceLE, Int.reduceNeg, Int.reduceAdd, Int.reduceSub, Int.reduceMul, reduceCtorEq, iA, iS, iM, iD, iR, iN, lA, lS, lM, lD, lR, h.1.k, h.1.p0, h.1.a1, h.1.n1, h.1.p7, h.1.a8, h.1.n8, h.2.1, wM_of (m_isMeasure h), hm, wM_of (m_own h.2.2.1 (show 0 ≤ m ∧ m ≤ 1000 by omega)), o1, wM_of (m_atMeasure hm4 (show 0 ≤ (3 : Int) ∧ (3 : Int) < 12 by decide)), wM_of (m_atMeasure hm4 (show 0 ≤ (7 : Int) ∧ (7 : Int) < 12 by decide)), of_ 3 (by decide) (by decide), of_ 7 (by decide) (by decide)]
    by_cases x0 : x = 0 ∨ x = 1 ∨ x = 2
    · have hx : 0 ≤ x ∧ x < 12 := by omega
      simp only [x0, wE_I, wE_V, wE_F, wE_A, wE_N, wE_1, wE_2, wE_D, wE_B, wE_If, wE_C, wE_CV, wE_SL, wE_SA, wA_0, wA_1, wC_B, wC_E, wC_And, wC_Or, wC_Not, wS_Skip, wS_Brk, wS_Cnt, wS_RetV, wS_Ret, wS_Seq, wS_Set, wS_Inc, wS_Do, wS_Put, wS_PutC, wS_Arr, wS_ArrC, wS_If, wS_Sw, wS_F0, wS_F1, wM_q, lu_ap, aL_ap, ct_0, ct_1, ct_2, ct_3, ct_4, ct_5, headD_1, List.mem_cons, List.not_mem_nil, or_false, false_or, or_true, true_or, true_and, and_true, false_and, and_false, not_true_eq_false, not_false_eq_true, if_true, if_false, nr_20, nr_24, nr_40, nr_41, nr_44, pt_lt, pt_ge, pt_eq, pt_ne, pt_gt, pt_le, pt_E, pt_N, pt_F, ite_10, ite_11, ne_eq, and_self, or_self, decide_true, decide_false, Bool.not_true, Bool.not_false, Bool.false_eq_true, Nat.reduceEqDiff, Nat.reduceAdd, Int.reduceEq, Int.reduceLT, Int.reduceLE, Int.reduceNeg, Int.reduceAdd, Int.reduceSub, Int.reduceMul, reduceCtorEq, wM_of (m_atMeasure hm4 hx), of_ x hx.1 hx.2]
    · have x0' : ¬ x = 0 := by omega
      have x1' : ¬ x = 1 := by omega
      have x2' : ¬ x = 2 := by omega
      by_cases x3 : x = 3
      · simp [x3]
      by_cases x4 : x = 4
      · simp [x4]
      by_cases x5 : x = 5
      · simp [x5]
      simp [x0', x1', x2', x3, x4, x5]
  · simp only [mX12_measure, sX12_measure, wE_I, wE_V, wE_F, wE_A, wE_N, wE_1, wE_2, wE_D, wE_B, wE_If, wE_C, wE_CV, wE_SL, wE_SA, wA_0, wA_1, wC_B, wC_E, wC_And, wC_Or, wC_Not, wS_Skip, wS_Brk, wS_Cnt, wS_RetV, wS_Ret, wS_Seq, wS_Set, wS_Inc, wS_Do, wS_Put, wS_PutC, wS_Arr, wS_ArrC, wS_If, wS_Sw, wS_F0, wS_F1, wM_q, lu_ap, aL_ap, ct_0, ct_1, ct_2, ct_3, ct_4, ct_5, headD_1, List.mem_cons, List.not_mem_nil, or_false, false_or, or_true, true_or, true_and, and_true, false_and, and_false, not_true_eq_false, not_false_eq_true, if_true, if_false, nr_20, nr_24, nr_40, nr_41, nr_44, pt_lt, pt_ge, pt_eq, pt_ne, pt_gt, pt_le, pt_E, pt_N, pt_F, ite_10, ite_11, ne_eq, and_self, or_self, decide_true, decide_false, Bool.not_true, Bool.not_false, Bool.false_eq_true, Nat.reduceEqDiff, Nat.reduceAdd, Int.reduceEq, Int.reduceLT, Int.reduceLE, Int.reduceNeg, Int.reduceAdd, Int.reduceSub, Int.reduceMul, reduceCtorEq, iA, iS, iM, iD, iR, iN, lA, lS, lM, lD, lR, h.1.k, wM_of (m_isMeasure h), hm]
theorem m_rate (h : RM S v M B) {m : Int} : mX12_rate [M, m] S v = some (if 0 ≤ m ∧ m < v (M + 3) B then w32 (v (M + 1) (3 + 12 * m + 4)) else -2147483648, v) := by
  apply wM_eq
  by_cases hm : 0 ≤ m ∧ m < v (M + 3) B
  · have hn := h.2.2.2.2.1
    have hm4 : 0 ≤ m ∧ m < 4 := by omega
    have o1 : 0 ≤ 3 + 12 * m + 4 ∧ 3 + 12 * m + 4 < 1095 := by omega
    simp only [mX12_rate, sX12_rate, wE_I, wE_V, wE_F, wE_A, wE_N, wE_1, wE_2, wE_D, wE_B, wE_If, wE_C, wE_CV, wE_SL, wE_SA, wA_0, wA_1, wC_B, wC_E, wC_And, wC_Or, wC_Not, wS_Skip, wS_Brk, wS_Cnt, wS_RetV, wS_Ret, wS_Seq, wS_Set, wS_Inc, wS_Do, wS_Put, wS_PutC, wS_Arr, wS_ArrC, wS_If, wS_Sw, wS_F0, wS_F1, wM_q, lu_ap, aL_ap, ct_0, ct_1, ct_2, ct_3, ct_4, ct_5, headD_1, List.mem_cons, List.not_mem_nil, or_false, false_or, or_true, true_or, true_and, and_true, false_and, and_false, not_true_eq_false, not_false_eq_true, if_true, if_false, nr_20, nr_24, nr_40, nr_41, nr_44, pt_lt, pt_ge, pt_eq, pt_ne, pt_gt, pt_le, pt_E, pt_N, pt_F, ite_10, ite_11, ne_eq, and_self, or_self, decide_true, decide_false, Bool.not_true, Bool.not_false, Bool.false_eq_true, Nat.reduceEqDiff, Nat.reduceAdd, Int.reduceEq, Int.reduceLT, Int.reduceLE, Int.reduceNeg, Int.reduceAdd, Int.reduceSub, Int.reduceMul, reduceCtorEq, iA, iS, iM, iD, iR, iN, lA, lS, lM, lD, lR, h.1.k, h.1.p0, h.1.a1, h.1.n1, wM_of (m_isMeasure h), hm, wM_of (m_atMeasure hm4 (show 0 ≤ (4 : Int) ∧ (4 : Int) < 12 by decide)), o1]
  · simp only [mX12_rate, sX12_rate, wE_I, wE_V, wE_F, wE_A, wE_N, wE_1, wE_2, wE_D, wE_B, wE_If, wE_C, wE_CV, wE_SL, wE_SA, wA_0, wA_1, wC_B, wC_E, wC_And, wC_Or, wC_Not, wS_Skip, wS_Brk, wS_Cnt, wS_RetV, wS_Ret, wS_Seq, wS_Set, wS_Inc, wS_Do, wS_Put, wS_PutC, wS_Arr, wS_ArrC, wS_If, wS_Sw, wS_F0, wS_F1, wM_q, lu_ap, aL_ap, ct_0, ct_1, ct_2, ct_3, ct_4, ct_5, headD_1, List.mem_cons, List.not_mem_nil, or_false, false_or, or_true, true_or, true_and, and_true, false_and, and_false, not_true_eq_false, not_false_eq_true, if_true, if_false, nr_20, nr_24, nr_40, nr_41, nr_44, pt_lt, pt_ge, pt_eq, pt_ne, pt_gt, pt_le, pt_E, pt_N, pt_F, ite_10, ite_11, ne_eq, and_self, or_self, decide_true, decide_false, Bool.not_true, Bool.not_false, Bool.false_eq_true, Nat.reduceEqDiff, Nat.reduceAdd, Int.reduceEq, Int.reduceLT, Int.reduceLE, Int.reduceNeg, Int.reduceAdd, Int.reduceSub, Int.reduceMul, reduceCtorEq, iA, iS, iM, iD, iR, iN, lA, lS, lM, lD, lR, h.1.k, wM_of (m_isMeasure h), hm]
theorem m_value (h : RM S v M B) {m : Int} : mX12_value [M, m] S v = some (if 0 ≤ m ∧ m < v (M + 3) B then w32 (v (M + 1) (3 + 12 * m + 5)) else -2147483648, v) := by
  apply wM_eq
  by_cases hm : 0 ≤ m ∧ m < v (M + 3) B
  · have hn := h.2.2.2.2.1
    have hm4 : 0 ≤ m ∧ m < 4 := by omega
    have o1 : 0 ≤ 3 + 12 * m + 5 ∧ 3 + 12 * m + 5 < 1095 := by omega
    simp only [mX12_value, sX12_value, wE_I, wE_V, wE_F, wE_A, wE_N, wE_1, wE_2, wE_D, wE_B, wE_If, wE_C, wE_CV, wE_SL, wE_SA, wA_0, wA_1, wC_B, wC_E, wC_And, wC_Or, wC_Not, wS_Skip, wS_Brk, wS_Cnt, wS_RetV, wS_Ret, wS_Seq, wS_Set, wS_Inc, wS_Do, wS_Put, wS_PutC, wS_Arr, wS_ArrC, wS_If, wS_Sw, wS_F0, wS_F1, wM_q, lu_ap, aL_ap, ct_0, ct_1, ct_2, ct_3, ct_4, ct_5, headD_1, List.mem_cons, List.not_mem_nil, or_false, false_or, or_true, true_or, true_and, and_true, false_and, and_false, not_true_eq_false, not_false_eq_true, if_true, if_false, nr_20, nr_24, nr_40, nr_41, nr_44, pt_lt, pt_ge, pt_eq, pt_ne, pt_gt, pt_le, pt_E, pt_N, pt_F, ite_10, ite_11, ne_eq, and_self, or_self, decide_true, decide_false, Bool.not_true, Bool.not_false, Bool.false_eq_true, Nat.reduceEqDiff, Nat.reduceAdd, Int.reduceEq, Int.reduceLT, Int.reduceLE, Int.reduceNeg, Int.reduceAdd, Int.reduceSub, Int.reduceMul, reduceCtorEq, iA, iS, iM, iD, iR, iN, lA, lS, lM, lD, lR, h.1.k, h.1.p0, h.1.a1, h.1.n1, wM_of (m_isMeasure h), hm, wM_of (m_atMeasure hm4 (show 0 ≤ (5 : Int) ∧ (5 : Int) < 12 by decide)), o1]
  · simp only [mX12_value, sX12_value, wE_I, wE_V, wE_F, wE_A, wE_N, wE_1, wE_2, wE_D, wE_B, wE_If, wE_C, wE_CV, wE_SL, wE_SA, wA_0, wA_1, wC_B, wC_E, wC_And, wC_Or, wC_Not, wS_Skip, wS_Brk, wS_Cnt, wS_RetV, wS_Ret, wS_Seq, wS_Set, wS_Inc, wS_Do, wS_Put, wS_PutC, wS_Arr, wS_ArrC, wS_If, wS_Sw, wS_F0, wS_F1, wM_q, lu_ap, aL_ap, ct_0, ct_1, ct_2, ct_3, ct_4, ct_5, headD_1, List.mem_cons, List.not_mem_nil, or_false, false_or, or_true, true_or, true_and, and_true, false_and, and_false, not_true_eq_false, not_false_eq_true, if_true, if_false, nr_20, nr_24, nr_40, nr_41, nr_44, pt_lt, pt_ge, pt_eq, pt_ne, pt_gt, pt_le, pt_E, pt_N, pt_F, ite_10, ite_11, ne_eq, and_self, or_self, decide_true, decide_false, Bool.not_true, Bool.not_false, Bool.false_eq_true, Nat.reduceEqDiff, Nat.reduceAdd, Int.reduceEq, Int.reduceLT, Int.reduceLE, Int.reduceNeg, Int.reduceAdd, Int.reduceSub, Int.reduceMul, reduceCtorEq, iA, iS, iM, iD, iR, iN, lA, lS, lM, lD, lR, h.1.k, wM_of (m_isMeasure h), hm]
theorem m_fault (h : RM S v M B) {x : Int} : mX12_fault [M, x] S v = some (if x = 0 then v M 39 else if x = 1 then v M 40 else -1, v) := by
  apply wM_eq
  simp only [mX12_fault, sX12_fault, wE_I, wE_V, wE_F, wE_A, wE_N, wE_1, wE_2, wE_D, wE_B, wE_If, wE_C, wE_CV, wE_SL, wE_SA, wA_0, wA_1, wC_B, wC_E, wC_And, wC_Or, wC_Not, wS_Skip, wS_Brk, wS_Cnt, wS_RetV, wS_Ret, wS_Seq, wS_Set, wS_Inc, wS_Do, wS_Put, wS_PutC, wS_Arr, wS_ArrC, wS_If, wS_Sw, wS_F0, wS_F1, wM_q, lu_ap, aL_ap, ct_0, ct_1, ct_2, ct_3, ct_4, ct_5, headD_1, List.mem_cons, List.not_mem_nil, or_false, false_or, or_true, true_or, true_and, and_true, false_and, and_false, not_true_eq_false, not_false_eq_true, if_true, if_false, nr_20, nr_24, nr_40, nr_41, nr_44, pt_lt, pt_ge, pt_eq, pt_ne, pt_gt, pt_le, pt_E, pt_N, pt_F, ite_10, ite_11, ne_eq, and_self, or_self, decide_true, decide_false, Bool.not_true, Bool.not_false, Bool.false_eq_true, Nat.reduceEqDiff, Nat.reduceAdd, Int.reduceEq, Int.reduceLT, Int.reduceLE, Int.reduceNeg, Int.reduceAdd, Int.reduceSub, Int.reduceMul, reduceCtorEq, iA, iS, iM, iD, iR, iN, lA, lS, lM, lD, lR, h.1.k]
  by_cases x0 : x = 0
  · simp [x0]
  by_cases x1 : x = 1
  · simp [x1]
  simp [x0, x1]
theorem m_end (h : RM S v M B) {n : Int} : mX12_end [M, n] S v = some (if 0 ≤ n ∧ n ≤ v M 30 then (n, vu v M 30 n) else (-1, v)) := by
  by_cases h1 : 0 ≤ n ∧ n ≤ v M 30
  · rw [if_pos h1]
    apply wM_eq
    have e1 : ¬ n < 0 := by omega
    have e2 : ¬ v M 30 < n := by omega
    simp only [mX12_end, sX12_end, wE_I, wE_V, wE_F, wE_A, wE_N, wE_1, wE_2, wE_D, wE_B, wE_If, wE_C, wE_CV, wE_SL, wE_SA, wA_0, wA_1, wC_B, wC_E, wC_And, wC_Or, wC_Not, wS_Skip, wS_Brk, wS_Cnt, wS_RetV, wS_Ret, wS_Seq, wS_Set, wS_Inc, wS_Do, wS_Put, wS_PutC, wS_Arr, wS_ArrC, wS_If, wS_Sw, wS_F0, wS_F1, wM_q, lu_ap, aL_ap, ct_0, ct_1, ct_2, ct_3, ct_4, ct_5, headD_1, List.mem_cons, List.not_mem_nil, or_false, false_or, or_true, true_or, true_and, and_true, false_and, and_false, not_true_eq_false, not_false_eq_true, if_true, if_false, nr_20, nr_24, nr_40, nr_41, nr_44, pt_lt, pt_ge, pt_eq, pt_ne, pt_gt, pt_le, pt_E, pt_N, pt_F, ite_10, ite_11, ne_eq, and_self, or_self, decide_true, decide_false, Bool.not_true, Bool.not_false, Bool.false_eq_true, Nat.reduceEqDiff, Nat.reduceAdd, Int.reduceEq, Int.reduceLT, Int.reduceLE, Int.reduceNeg, Int.reduceAdd, Int.reduceSub, Int.reduceMul, reduceCtorEq, iA, iS, iM, iD, iR, iN, lA, lS, lM, lD, lR, h.1.k, e1, e2]
  · rw [if_neg h1]
    apply wM_eq
    simp only [mX12_end, sX12_end, wE_I, wE_V, wE_F, wE_A, wE_N, wE_1, wE_2, wE_D, wE_B, wE_If, wE_C, wE_CV, wE_SL, wE_SA, wA_0, wA_1, wC_B, wC_E, wC_And, wC_Or, wC_Not, wS_Skip, wS_Brk, wS_Cnt, wS_RetV, wS_Ret, wS_Seq, wS_Set, wS_Inc, wS_Do, wS_Put, wS_PutC, wS_Arr, wS_ArrC, wS_If, wS_Sw, wS_F0, wS_F1, wM_q, lu_ap, aL_ap, ct_0, ct_1, ct_2, ct_3, ct_4, ct_5, headD_1, List.mem_cons, List.not_mem_nil, or_false, false_or, or_true, true_or, true_and, and_true, false_and, and_false, not_true_eq_false, not_false_eq_true, if_true, if_false, nr_20, nr_24, nr_40, nr_41, nr_44, pt_lt, pt_ge, pt_eq, pt_ne, pt_gt, pt_le, pt_E, pt_N, pt_F, ite_10, ite_11, ne_eq, and_self, or_self, decide_true, decide_false, Bool.not_true, Bool.not_false, Bool.false_eq_true, Nat.reduceEqDiff, Nat.reduceAdd, Int.reduceEq, Int.reduceLT, Int.reduceLE, Int.reduceNeg, Int.reduceAdd, Int.reduceSub, Int.reduceMul, reduceCtorEq, iA, iS, iM, iD, iR, iN, lA, lS, lM, lD, lR, h.1.k]
    by_cases e1 : n < 0
    · simp [e1]
    · have e2 : v M 30 < n := by omega
      simp [e1, e2]
theorem m_followed (h : RM S v M B) (hc : ∀ m, Decidable (mF v M B m)) : mX12_followed [M] S v = some (fbs (fun m => decide (mF v M B m)) (v (M + 3) B).toNat, v) := by
  have hn := h.2.2.2.2.1
  apply wM_eq
  simp only [mX12_followed, sX12_followed, wE_I, wE_V, wE_F, wE_A, wE_N, wE_1, wE_2, wE_D, wE_B, wE_If, wE_C, wE_CV, wE_SL, wE_SA, wA_0, wA_1, wC_B, wC_E, wC_And, wC_Or, wC_Not, wS_Skip, wS_Brk, wS_Cnt, wS_RetV, wS_Ret, wS_Seq, wS_Set, wS_Inc, wS_Do, wS_Put, wS_PutC, wS_Arr, wS_ArrC, wS_If, wS_Sw, wS_F0, wS_F1, wM_q, lu_ap, aL_ap, ct_0, ct_1, ct_2, ct_3, ct_4, ct_5, headD_1, List.mem_cons, List.not_mem_nil, or_false, false_or, or_true, true_or, true_and, and_true, false_and, and_false, not_true_eq_false, not_false_eq_true, if_true, if_false, nr_20, nr_24, nr_40, nr_41, nr_44, pt_lt, pt_ge, pt_eq, pt_ne, pt_gt, pt_le, pt_E, pt_N, pt_F, ite_10, ite_11, ne_eq, and_self, or_self, decide_true, decide_false, Bool.not_true, Bool.not_false, Bool.false_eq_true, Nat.reduceEqDiff, Nat.reduceAdd, Int.reduceEq, Int.reduceLT, Int.reduceLE, Int.reduceNeg, Int.reduceAdd, Int.reduceSub, Int.reduceMul, reduceCtorEq, iA, iS, iM, iD, iR, iN, lA, lS, lM, lD, lR]
  refine wS_For (v (M + 3) B).toNat (fun j L w => (L 0 = M ∧ L 1 = fbs (fun m => decide (mF v M B m)) j ∧ L 2 = j) ∧ v = w) (by omega) ?_ ?_ ?_
  · simp [lu_ap, aL_ap, ct_0, ct_2, fbs]
  · rintro j L w hj ⟨⟨m0, m1, m2⟩, rfl⟩
    have hj1 : (j : Int) < v (M + 3) B := by omega
    simp only [cX12_followed_1, bX12_followed_1, uX12_followed_1, wE_I, wE_V, wE_F, wE_A, wE_N, wE_1, wE_2, wE_D, wE_B, wE_If, wE_C, wE_CV, wE_SL, wE_SA, wA_0, wA_1, wC_B, wC_E, wC_And, wC_Or, wC_Not, wS_Skip, wS_Brk, wS_Cnt, wS_RetV, wS_Ret, wS_Seq, wS_Set, wS_Inc, wS_Do, wS_Put, wS_PutC, wS_Arr, wS_ArrC, wS_If, wS_Sw, wS_F0, wS_F1, wM_q, lu_ap, aL_ap, ct_0, ct_1, ct_2, ct_3, ct_4, ct_5, headD_1, List.mem_cons, List.not_mem_nil, or_false, false_or, or_true, true_or, true_and, and_true, false_and, and_false, not_true_eq_false, not_false_eq_true, if_true, if_false, nr_20, nr_24, nr_40, nr_41, nr_44, pt_lt, pt_ge, pt_eq, pt_ne, pt_gt, pt_le, pt_E, pt_N, pt_F, ite_10, ite_11, ne_eq, and_self, or_self, decide_true, decide_false, Bool.not_true, Bool.not_false, Bool.false_eq_true, Nat.reduceEqDiff, Nat.reduceAdd, Int.reduceEq, Int.reduceLT, Int.reduceLE, Int.reduceNeg, Int.reduceAdd, Int.reduceSub, Int.reduceMul, reduceCtorEq, iA, iS, iM, iD, iR, iN, lA, lS, lM, lD, lR, h.1.k, m0, m1, m2, hj1, wM_of (m_many h), wM_of (m_isF h), w32_s (show j < 1000 by omega), fbs]
    by_cases h1 : mF v M B j <;> simp [h1]
  · rintro L w ⟨⟨m0, m1, m2⟩, rfl⟩
    have hl : ¬ ((v (M + 3) B).toNat : Int) < v (M + 3) B := by omega
    simp only [cX12_followed_1, wE_I, wE_V, wE_F, wE_A, wE_N, wE_1, wE_2, wE_D, wE_B, wE_If, wE_C, wE_CV, wE_SL, wE_SA, wA_0, wA_1, wC_B, wC_E, wC_And, wC_Or, wC_Not, wS_Skip, wS_Brk, wS_Cnt, wS_RetV, wS_Ret, wS_Seq, wS_Set, wS_Inc, wS_Do, wS_Put, wS_PutC, wS_Arr, wS_ArrC, wS_If, wS_Sw, wS_F0, wS_F1, wM_q, lu_ap, aL_ap, ct_0, ct_1, ct_2, ct_3, ct_4, ct_5, headD_1, List.mem_cons, List.not_mem_nil, or_false, false_or, or_true, true_or, true_and, and_true, false_and, and_false, not_true_eq_false, not_false_eq_true, if_true, if_false, nr_20, nr_24, nr_40, nr_41, nr_44, pt_lt, pt_ge, pt_eq, pt_ne, pt_gt, pt_le, pt_E, pt_N, pt_F, ite_10, ite_11, ne_eq, and_self, or_self, decide_true, decide_false, Bool.not_true, Bool.not_false, Bool.false_eq_true, Nat.reduceEqDiff, Nat.reduceAdd, Int.reduceEq, Int.reduceLT, Int.reduceLE, Int.reduceNeg, Int.reduceAdd, Int.reduceSub, Int.reduceMul, reduceCtorEq, iA, iS, iM, iD, iR, iN, lA, lS, lM, lD, lR, h.1.k, m0, m1, m2, wM_of (m_many h), hl]
theorem m_about (h : RM S v M B) (hc : ∀ m, Decidable (mF v M B m)) {x : Int} : mX12_about [M, x] S v = some (if x = 0 then v (M + 2) B else if x = 1 then v (M + 3) B else if x = 2 then v (M + 4) B else if x = 3 then v (M + 5) B else if x = 4 then fbs (fun m => decide (mF v M B m)) (v (M + 3) B).toNat else if x = 5 then w32 (v (M + 1) 0) else if x = 6 then w32 (v (M + 1) 1) else if x = 7 then w32 (v (M + 1) 2) else if x = 8 then v (M + 6) B else if x = 9 then v M 58 else if x = 10 then v M 59 else if x = 11 then v M 30 else -1, v) := by
  have hB := h.B2
  apply wM_eq
  simp only [mX12_about, sX12_about, wE_I, wE_V, wE_F, wE_A, wE_N, wE_1, wE_2, wE_D, wE_B, wE_If, wE_C, wE_CV, wE_SL, wE_SA, wA_0, wA_1, wC_B, wC_E, wC_And, wC_Or, wC_Not, wS_Skip, wS_Brk, wS_Cnt, wS_RetV, wS_Ret, wS_Seq, wS_Set, wS_Inc, wS_Do, wS_Put, wS_PutC, wS_Arr, wS_ArrC, wS_If, wS_Sw, wS_F0, wS_F1, wM_q, lu_ap, aL_ap, ct_0, ct_1, ct_2, ct_3, ct_4, ct_5, headD_1, List.mem_cons, List.not_mem_nil, or_false, false_or, or_true, true_or, true_and, and_true, false_and, and_false, not_true_eq_false, not_false_eq_true, if_true, if_false, nr_20, nr_24, nr_40, nr_41, nr_44, pt_lt, pt_ge, pt_eq, pt_ne, pt_gt, pt_le, pt_E, pt_N, pt_F, ite_10, ite_11, ne_eq, and_self, or_self, decide_true, decide_false, Bool.not_true, Bool.not_false, Bool.false_eq_true, Nat.reduceEqDiff, Nat.reduceAdd, Int.reduceEq, Int.reduceLT, Int.reduceLE, Int.reduceNeg, Int.reduceAdd, Int.reduceSub, Int.reduceMul, reduceCtorEq, iA, iS, iM, iD, iR, iN, lA, lS, lM, lD, lR, h.1.k, h.1.p0, h.1.a1, h.1.n1, h.1.p1, h.1.a2, h.1.n2, h.1.p4, h.1.a5, h.1.n5, h.1.p5, h.1.a6, h.1.n6, h.2.1, hB, wM_of (m_followed h hc), wM_of (m_many h), wM_of (m_archivesNow h)]
  by_cases x0 : x = 0
  · simp [x0]
  by_cases x1 : x = 1
  · simp [x1]
  by_cases x2 : x = 2
  · simp [x2]
  by_cases x3 : x = 3
  · simp [x3]
  by_cases x4 : x = 4
  · simp [x4]
  by_cases x5 : x = 5
  · simp [x5]
  by_cases x6 : x = 6
  · simp [x6]
  by_cases x7 : x = 7
  · simp [x7]
  by_cases x8 : x = 8
  · simp [x8]
  by_cases x9 : x = 9
  · simp [x9]
  by_cases x10 : x = 10
  · simp [x10]
  by_cases x11 : x = 11
  · simp [x11]
  simp [x0, x1, x2, x3, x4, x5, x6, x7, x8, x9, x10, x11]
end MF
