/-! THE REFERENCE'S QUESTIONS: show, shows -/
def mCo (v : QV) (M B k : Int) : Int := v (M + 24) (100 * B + k)
def mEn (v : QV) (M B s : Int) : Int := v (M + 25) (4 * B + s)
def Sm (M : Int) (v w : QV) : Prop := ∀ a k, a ≠ M + 33 → a ≠ M + 34 → w a k = v a k
section MZ
variable {S : QS} {v w : QV} {M B : Int}
theorem Sm.rf {M : Int} {v : QV} : Sm M v v := fun _ _ _ _ => rfl
theorem Sm.q (h : Sm M v w) : Qm M v w := fun a k _ _ h3 h4 _ => h a k h3 h4
theorem m_madeOf {c l r : Int} (hc : 10020 ≤ c ∧ c ≤ 10024) (hl : vv l) (hr : vv r) : mX12_madeOf [c, l, r] S v = some (jn c l r, v) := by
  apply wM_eq
  have hc' : c = 10020 ∨ c = 10021 ∨ c = 10022 ∨ c = 10023 ∨ c = 10024 := by omega
  by_cases h1 : l = -2147483648
  · rcases hc' with rfl | rfl | rfl | rfl | rfl <;> simp only [mX12_madeOf, sX12_madeOf, wE_I, wE_V, wE_F, wE_A, wE_N, wE_1, wE_2, wE_D, wE_B, wE_If, wE_C, wE_CV, wE_SL, wE_SA, wA_0, wA_1, wC_B, wC_E, wC_And, wC_Or, wC_Not, wS_Skip, wS_Brk, wS_Cnt, wS_RetV, wS_Ret, wS_Seq, wS_Set, wS_Inc, wS_Do, wS_Put, wS_PutC, wS_Arr, wS_ArrC, wS_If, wS_Sw, wS_F0, wS_F1, wM_q, lu_ap, aL_ap, ct_0, ct_1, ct_2, ct_3, ct_4, ct_5, headD_1, List.mem_cons, List.not_mem_nil, or_false, false_or, or_true, true_or, true_and, and_true, false_and, and_false, not_true_eq_false, not_false_eq_true, if_true, if_false, nr_20, nr_24, nr_40, nr_41, nr_44, pt_lt, pt_ge, pt_eq, pt_ne, pt_gt, pt_le, pt_E, pt_N, pt_F, ite_10, ite_11, ne_eq, and_self, or_self, decide_true, decide_false, Bool.not_true, Bool.not_false, Bool.false_eq_true, Nat.reduceEqDiff, Nat.reduceAdd, Int.reduceEq, Int.reduceLT, Int.reduceLE, Int.reduceNeg, Int.reduceAdd, Int.reduceSub, Int.reduceMul, reduceCtorEq, iA, iS, iM, iD, iR, iN, lA, lS, lM, lD, lR, h1, jn]
  · by_cases h2 : r = -2147483648
    · rcases hc' with rfl | rfl | rfl | rfl | rfl <;> simp only [mX12_madeOf, sX12_madeOf, wE_I, wE_V, wE_F, wE_A, wE_N, wE_1, wE_2, wE_D, wE_B, wE_If, wE_C, wE_CV, wE_SL, wE_SA, wA_0, wA_1, wC_B, wC_E, wC_And, wC_Or, wC_Not, wS_Skip, wS_Brk, wS_Cnt, wS_RetV, wS_Ret, wS_Seq, wS_Set, wS_Inc, wS_Do, wS_Put, wS_PutC, wS_Arr, wS_ArrC, wS_If, wS_Sw, wS_F0, wS_F1, wM_q, lu_ap, aL_ap, ct_0, ct_1, ct_2, ct_3, ct_4, ct_5, headD_1, List.mem_cons, List.not_mem_nil, or_false, false_or, or_true, true_or, true_and, and_true, false_and, and_false, not_true_eq_false, not_false_eq_true, if_true, if_false, nr_20, nr_24, nr_40, nr_41, nr_44, pt_lt, pt_ge, pt_eq, pt_ne, pt_gt, pt_le, pt_E, pt_N, pt_F, ite_10, ite_11, ne_eq, and_self, or_self, decide_true, decide_false, Bool.not_true, Bool.not_false, Bool.false_eq_true, Nat.reduceEqDiff, Nat.reduceAdd, Int.reduceEq, Int.reduceLT, Int.reduceLE, Int.reduceNeg, Int.reduceAdd, Int.reduceSub, Int.reduceMul, reduceCtorEq, iA, iS, iM, iD, iR, iN, lA, lS, lM, lD, lR, h1, h2, jn]
    · have l1 : -2000000000 ≤ l ∧ l ≤ 2000000000 := by unfold vv at hl; omega
      have r1 : -2000000000 ≤ r ∧ r ≤ 2000000000 := by unfold vv at hr; omega
      rcases hc' with rfl | rfl | rfl | rfl | rfl
      · simp only [mX12_madeOf, sX12_madeOf, wE_I, wE_V, wE_F, wE_A, wE_N, wE_1, wE_2, wE_D, wE_B, wE_If, wE_C, wE_CV, wE_SL, wE_SA, wA_0, wA_1, wC_B, wC_E, wC_And, wC_Or, wC_Not, wS_Skip, wS_Brk, wS_Cnt, wS_RetV, wS_Ret, wS_Seq, wS_Set, wS_Inc, wS_Do, wS_Put, wS_PutC, wS_Arr, wS_ArrC, wS_If, wS_Sw, wS_F0, wS_F1, wM_q, lu_ap, aL_ap, ct_0, ct_1, ct_2, ct_3, ct_4, ct_5, headD_1, List.mem_cons, List.not_mem_nil, or_false, false_or, or_true, true_or, true_and, and_true, false_and, and_false, not_true_eq_false, not_false_eq_true, if_true, if_false, nr_20, nr_24, nr_40, nr_41, nr_44, pt_lt, pt_ge, pt_eq, pt_ne, pt_gt, pt_le, pt_E, pt_N, pt_F, ite_10, ite_11, ne_eq, and_self, or_self, decide_true, decide_false, Bool.not_true, Bool.not_false, Bool.false_eq_true, Nat.reduceEqDiff, Nat.reduceAdd, Int.reduceEq, Int.reduceLT, Int.reduceLE, Int.reduceNeg, Int.reduceAdd, Int.reduceSub, Int.reduceMul, reduceCtorEq, iA, iS, iM, iD, iR, iN, lA, lS, lM, lD, lR, h1, h2, jn]
      · have e1 : w64 (l + r) = l + r := w64_e (by omega)
        simp only [mX12_madeOf, sX12_madeOf, wE_I, wE_V, wE_F, wE_A, wE_N, wE_1, wE_2, wE_D, wE_B, wE_If, wE_C, wE_CV, wE_SL, wE_SA, wA_0, wA_1, wC_B, wC_E, wC_And, wC_Or, wC_Not, wS_Skip, wS_Brk, wS_Cnt, wS_RetV, wS_Ret, wS_Seq, wS_Set, wS_Inc, wS_Do, wS_Put, wS_PutC, wS_Arr, wS_ArrC, wS_If, wS_Sw, wS_F0, wS_F1, wM_q, lu_ap, aL_ap, ct_0, ct_1, ct_2, ct_3, ct_4, ct_5, headD_1, List.mem_cons, List.not_mem_nil, or_false, false_or, or_true, true_or, true_and, and_true, false_and, and_false, not_true_eq_false, not_false_eq_true, if_true, if_false, nr_20, nr_24, nr_40, nr_41, nr_44, pt_lt, pt_ge, pt_eq, pt_ne, pt_gt, pt_le, pt_E, pt_N, pt_F, ite_10, ite_11, ne_eq, and_self, or_self, decide_true, decide_false, Bool.not_true, Bool.not_false, Bool.false_eq_true, Nat.reduceEqDiff, Nat.reduceAdd, Int.reduceEq, Int.reduceLT, Int.reduceLE, Int.reduceNeg, Int.reduceAdd, Int.reduceSub, Int.reduceMul, reduceCtorEq, iA, iS, iM, iD, iR, iN, lA, lS, lM, lD, lR, h1, h2, jn, e1, wM_of m_held]
      · have e1 : w64 (l - r) = l - r := w64_e (by omega)
        simp only [mX12_madeOf, sX12_madeOf, wE_I, wE_V, wE_F, wE_A, wE_N, wE_1, wE_2, wE_D, wE_B, wE_If, wE_C, wE_CV, wE_SL, wE_SA, wA_0, wA_1, wC_B, wC_E, wC_And, wC_Or, wC_Not, wS_Skip, wS_Brk, wS_Cnt, wS_RetV, wS_Ret, wS_Seq, wS_Set, wS_Inc, wS_Do, wS_Put, wS_PutC, wS_Arr, wS_ArrC, wS_If, wS_Sw, wS_F0, wS_F1, wM_q, lu_ap, aL_ap, ct_0, ct_1, ct_2, ct_3, ct_4, ct_5, headD_1, List.mem_cons, List.not_mem_nil, or_false, false_or, or_true, true_or, true_and, and_true, false_and, and_false, not_true_eq_false, not_false_eq_true, if_true, if_false, nr_20, nr_24, nr_40, nr_41, nr_44, pt_lt, pt_ge, pt_eq, pt_ne, pt_gt, pt_le, pt_E, pt_N, pt_F, ite_10, ite_11, ne_eq, and_self, or_self, decide_true, decide_false, Bool.not_true, Bool.not_false, Bool.false_eq_true, Nat.reduceEqDiff, Nat.reduceAdd, Int.reduceEq, Int.reduceLT, Int.reduceLE, Int.reduceNeg, Int.reduceAdd, Int.reduceSub, Int.reduceMul, reduceCtorEq, iA, iS, iM, iD, iR, iN, lA, lS, lM, lD, lR, h1, h2, jn, e1, wM_of m_held]
      · have hm := mul_abs l1 r1
        have e1 : w64 (l * r) = l * r := w64_e (by omega)
        have ht := tdiv_abs (z := l * r) (d := 1000) (B := 4000000000000000000) hm (by decide)
        have e2 : w64 ((l * r).tdiv 1000) = (l * r).tdiv 1000 := by clear e1; exact w64_e (by omega)
        simp only [mX12_madeOf, sX12_madeOf, wE_I, wE_V, wE_F, wE_A, wE_N, wE_1, wE_2, wE_D, wE_B, wE_If, wE_C, wE_CV, wE_SL, wE_SA, wA_0, wA_1, wC_B, wC_E, wC_And, wC_Or, wC_Not, wS_Skip, wS_Brk, wS_Cnt, wS_RetV, wS_Ret, wS_Seq, wS_Set, wS_Inc, wS_Do, wS_Put, wS_PutC, wS_Arr, wS_ArrC, wS_If, wS_Sw, wS_F0, wS_F1, wM_q, lu_ap, aL_ap, ct_0, ct_1, ct_2, ct_3, ct_4, ct_5, headD_1, List.mem_cons, List.not_mem_nil, or_false, false_or, or_true, true_or, true_and, and_true, false_and, and_false, not_true_eq_false, not_false_eq_true, if_true, if_false, nr_20, nr_24, nr_40, nr_41, nr_44, pt_lt, pt_ge, pt_eq, pt_ne, pt_gt, pt_le, pt_E, pt_N, pt_F, ite_10, ite_11, ne_eq, and_self, or_self, decide_true, decide_false, Bool.not_true, Bool.not_false, Bool.false_eq_true, Nat.reduceEqDiff, Nat.reduceAdd, Int.reduceEq, Int.reduceLT, Int.reduceLE, Int.reduceNeg, Int.reduceAdd, Int.reduceSub, Int.reduceMul, reduceCtorEq, iA, iS, iM, iD, iR, iN, lA, lS, lM, lD, lR, h1, h2, jn, e1, e2, wM_of m_held]
      · have e1 : w64 (1000 * l) = 1000 * l := w64_e (by omega)
        by_cases h3 : r = 0
        · simp only [mX12_madeOf, sX12_madeOf, wE_I, wE_V, wE_F, wE_A, wE_N, wE_1, wE_2, wE_D, wE_B, wE_If, wE_C, wE_CV, wE_SL, wE_SA, wA_0, wA_1, wC_B, wC_E, wC_And, wC_Or, wC_Not, wS_Skip, wS_Brk, wS_Cnt, wS_RetV, wS_Ret, wS_Seq, wS_Set, wS_Inc, wS_Do, wS_Put, wS_PutC, wS_Arr, wS_ArrC, wS_If, wS_Sw, wS_F0, wS_F1, wM_q, lu_ap, aL_ap, ct_0, ct_1, ct_2, ct_3, ct_4, ct_5, headD_1, List.mem_cons, List.not_mem_nil, or_false, false_or, or_true, true_or, true_and, and_true, false_and, and_false, not_true_eq_false, not_false_eq_true, if_true, if_false, nr_20, nr_24, nr_40, nr_41, nr_44, pt_lt, pt_ge, pt_eq, pt_ne, pt_gt, pt_le, pt_E, pt_N, pt_F, ite_10, ite_11, ne_eq, and_self, or_self, decide_true, decide_false, Bool.not_true, Bool.not_false, Bool.false_eq_true, Nat.reduceEqDiff, Nat.reduceAdd, Int.reduceEq, Int.reduceLT, Int.reduceLE, Int.reduceNeg, Int.reduceAdd, Int.reduceSub, Int.reduceMul, reduceCtorEq, iA, iS, iM, iD, iR, iN, lA, lS, lM, lD, lR, h1, h2, jn, h3]
        · have ht := tdiv_abs (z := 1000 * l) (d := r) (B := 2000000000000) (by clear e1; omega) h3
          have e2 : w64 ((1000 * l).tdiv r) = (1000 * l).tdiv r := by clear e1; exact w64_e (by omega)
          simp only [mX12_madeOf, sX12_madeOf, wE_I, wE_V, wE_F, wE_A, wE_N, wE_1, wE_2, wE_D, wE_B, wE_If, wE_C, wE_CV, wE_SL, wE_SA, wA_0, wA_1, wC_B, wC_E, wC_And, wC_Or, wC_Not, wS_Skip, wS_Brk, wS_Cnt, wS_RetV, wS_Ret, wS_Seq, wS_Set, wS_Inc, wS_Do, wS_Put, wS_PutC, wS_Arr, wS_ArrC, wS_If, wS_Sw, wS_F0, wS_F1, wM_q, lu_ap, aL_ap, ct_0, ct_1, ct_2, ct_3, ct_4, ct_5, headD_1, List.mem_cons, List.not_mem_nil, or_false, false_or, or_true, true_or, true_and, and_true, false_and, and_false, not_true_eq_false, not_false_eq_true, if_true, if_false, nr_20, nr_24, nr_40, nr_41, nr_44, pt_lt, pt_ge, pt_eq, pt_ne, pt_gt, pt_le, pt_E, pt_N, pt_F, ite_10, ite_11, ne_eq, and_self, or_self, decide_true, decide_false, Bool.not_true, Bool.not_false, Bool.false_eq_true, Nat.reduceEqDiff, Nat.reduceAdd, Int.reduceEq, Int.reduceLT, Int.reduceLE, Int.reduceNeg, Int.reduceAdd, Int.reduceSub, Int.reduceMul, reduceCtorEq, iA, iS, iM, iD, iR, iN, lA, lS, lM, lD, lR, h1, h2, jn, h3, e1, e2, wM_of m_held]
theorem m_unitAt (h : LMo S v M) {c a i : Int} {s : Nat} {nm : Int} (hs : s ≤ 4) (hnm : nm ≤ 4) (ha : 0 ≤ a ∧ a < 4) (hi : 0 ≤ i ∧ i < 30) (hc : (0 ≤ c ∧ c ≤ 9999) ∨ (10000 ≤ c ∧ c < 10000 + nm) ∨ (10010 ≤ c ∧ c < 10010 + s)) : mX12_unitAt [M, c, a, i] S v = some (un (fun k => v (M + 34) k) (fun m => mR v M a m i) c, v) := by
  apply wM_eq
  unfold un
  by_cases h1 : 10010 ≤ c
  · have e1 : w32 (c - 10010) = c - 10010 := w32_e (by omega)
    have o1 : 0 ≤ c - 10010 ∧ c - 10010 < 4 := by clear e1; omega
    simp only [mX12_unitAt, sX12_unitAt, wE_I, wE_V, wE_F, wE_A, wE_N, wE_1, wE_2, wE_D, wE_B, wE_If, wE_C, wE_CV, wE_SL, wE_SA, wA_0, wA_1, wC_B, wC_E, wC_And, wC_Or, wC_Not, wS_Skip, wS_Brk, wS_Cnt, wS_RetV, wS_Ret, wS_Seq, wS_Set, wS_Inc, wS_Do, wS_Put, wS_PutC, wS_Arr, wS_ArrC, wS_If, wS_Sw, wS_F0, wS_F1, wM_q, lu_ap, aL_ap, ct_0, ct_1, ct_2, ct_3, ct_4, ct_5, headD_1, List.mem_cons, List.not_mem_nil, or_false, false_or, or_true, true_or, true_and, and_true, false_and, and_false, not_true_eq_false, not_false_eq_true, if_true, if_false, nr_20, nr_24, nr_40, nr_41, nr_44, pt_lt, pt_ge, pt_eq, pt_ne, pt_gt, pt_le, pt_E, pt_N, pt_F, ite_10, ite_11, ne_eq, and_self, or_self, decide_true, decide_false, Bool.not_true, Bool.not_false, Bool.false_eq_true, Nat.reduceEqDiff, Nat.reduceAdd, Int.reduceEq, Int.reduceLT, Int.reduceLE, Int.reduceNeg, Int.reduceAdd, Int.reduceSub, Int.reduceMul, reduceCtorEq, iA, iS, iM, iD, iR, iN, lA, lS, lM, lD, lR, h1, h.k, h.p53, h.a34, h.n34, e1, o1]
  · by_cases h2 : 10000 ≤ c
    · have e1 : w32 (c - 10000) = c - 10000 := w32_e (by omega)
      have o1 : 0 ≤ c - 10000 ∧ c - 10000 < 4 := by clear e1; omega
      have o2 : 0 ≤ 167 + 30 * (4 * a + (c - 10000)) + i ∧ 167 + 30 * (4 * a + (c - 10000)) + i < 1095 := by clear e1; omega
      simp only [mX12_unitAt, sX12_unitAt, wE_I, wE_V, wE_F, wE_A, wE_N, wE_1, wE_2, wE_D, wE_B, wE_If, wE_C, wE_CV, wE_SL, wE_SA, wA_0, wA_1, wC_B, wC_E, wC_And, wC_Or, wC_Not, wS_Skip, wS_Brk, wS_Cnt, wS_RetV, wS_Ret, wS_Seq, wS_Set, wS_Inc, wS_Do, wS_Put, wS_PutC, wS_Arr, wS_ArrC, wS_If, wS_Sw, wS_F0, wS_F1, wM_q, lu_ap, aL_ap, ct_0, ct_1, ct_2, ct_3, ct_4, ct_5, headD_1, List.mem_cons, List.not_mem_nil, or_false, false_or, or_true, true_or, true_and, and_true, false_and, and_false, not_true_eq_false, not_false_eq_true, if_true, if_false, nr_20, nr_24, nr_40, nr_41, nr_44, pt_lt, pt_ge, pt_eq, pt_ne, pt_gt, pt_le, pt_E, pt_N, pt_F, ite_10, ite_11, ne_eq, and_self, or_self, decide_true, decide_false, Bool.not_true, Bool.not_false, Bool.false_eq_true, Nat.reduceEqDiff, Nat.reduceAdd, Int.reduceEq, Int.reduceLT, Int.reduceLE, Int.reduceNeg, Int.reduceAdd, Int.reduceSub, Int.reduceMul, reduceCtorEq, iA, iS, iM, iD, iR, iN, lA, lS, lM, lD, lR, h1, h2, h.k, h.p0, h.a1, h.n1, e1, wM_of (m_atRow ha o1 hi), o2]
      rfl
    · have e1 : w64 (1000 * c) = 1000 * c := w64_e (by omega)
      simp only [mX12_unitAt, sX12_unitAt, wE_I, wE_V, wE_F, wE_A, wE_N, wE_1, wE_2, wE_D, wE_B, wE_If, wE_C, wE_CV, wE_SL, wE_SA, wA_0, wA_1, wC_B, wC_E, wC_And, wC_Or, wC_Not, wS_Skip, wS_Brk, wS_Cnt, wS_RetV, wS_Ret, wS_Seq, wS_Set, wS_Inc, wS_Do, wS_Put, wS_PutC, wS_Arr, wS_ArrC, wS_If, wS_Sw, wS_F0, wS_F1, wM_q, lu_ap, aL_ap, ct_0, ct_1, ct_2, ct_3, ct_4, ct_5, headD_1, List.mem_cons, List.not_mem_nil, or_false, false_or, or_true, true_or, true_and, and_true, false_and, and_false, not_true_eq_false, not_false_eq_true, if_true, if_false, nr_20, nr_24, nr_40, nr_41, nr_44, pt_lt, pt_ge, pt_eq, pt_ne, pt_gt, pt_le, pt_E, pt_N, pt_F, ite_10, ite_11, ne_eq, and_self, or_self, decide_true, decide_false, Bool.not_true, Bool.not_false, Bool.false_eq_true, Nat.reduceEqDiff, Nat.reduceAdd, Int.reduceEq, Int.reduceLT, Int.reduceLE, Int.reduceNeg, Int.reduceAdd, Int.reduceSub, Int.reduceMul, reduceCtorEq, iA, iS, iM, iD, iR, iN, lA, lS, lM, lD, lR, h1, h2, e1]
theorem rs_mu {c e μ μ' : Int → Int} (h : ∀ m, μ m = μ' m) : rs c e μ = rs c e μ' := by
  have : μ = μ' := funext h
  rw [this]
theorem m_showOf (h : LMo S v M) (hB : v M 28 = B) (hB2 : B = 0 ∨ B = 1) {nm : Int} {ns : Nat} {x a i : Int} (hns : ns ≤ 4) (hnm : nm ≤ 4) (ha : 0 ≤ a ∧ a < 4) (hi : 0 ≤ i ∧ i < 30) (hx : 0 ≤ x ∧ x < ns) (hW : WF (mCo v M B) (mEn v M B) nm ns) (hv : ∀ k : Int, 0 ≤ k → k < nm → vv (mR v M a k i)) :
    wM mX12_showOf [M, x, a, i] S v (fun z w => z = sv (mCo v M B) (mEn v M B) (mR v M a) x i ∧ Sm M v w) := by
  simp only [mX12_showOf, sX12_showOf, wE_I, wE_V, wE_F, wE_A, wE_N, wE_1, wE_2, wE_D, wE_B, wE_If, wE_C, wE_CV, wE_SL, wE_SA, wA_0, wA_1, wC_B, wC_E, wC_And, wC_Or, wC_Not, wS_Skip, wS_Brk, wS_Cnt, wS_RetV, wS_Ret, wS_Seq, wS_Set, wS_Inc, wS_Do, wS_Put, wS_PutC, wS_Arr, wS_ArrC, wS_If, wS_Sw, wS_F0, wS_F1, wM_q, lu_ap, aL_ap, ct_0, ct_1, ct_2, ct_3, ct_4, ct_5, headD_1, List.mem_cons, List.not_mem_nil, or_false, false_or, or_true, true_or, true_and, and_true, false_and, and_false, not_true_eq_false, not_false_eq_true, if_true, if_false, nr_20, nr_24, nr_40, nr_41, nr_44, pt_lt, pt_ge, pt_eq, pt_ne, pt_gt, pt_le, pt_E, pt_N, pt_F, ite_10, ite_11, ne_eq, and_self, or_self, decide_true, decide_false, Bool.not_true, Bool.not_false, Bool.false_eq_true, Nat.reduceEqDiff, Nat.reduceAdd, Int.reduceEq, Int.reduceLT, Int.reduceLE, Int.reduceNeg, Int.reduceAdd, Int.reduceSub, Int.reduceMul, reduceCtorEq, iA, iS, iM, iD, iR, iN, lA, lS, lM, lD, lR]
  refine wS_For (x.toNat + 1) (fun s L w => (L 0 = M ∧ L 1 = x ∧ L 2 = a ∧ L 3 = i ∧ L 4 = ss (mEn v M B) s ∧ L 5 = s) ∧ Sm M v w ∧ ∀ k : Int, 0 ≤ k → k < s → w (M + 34) k = rs (mCo v M B) (mEn v M B) (fun m => mR v M a m i) s k) (by omega) ?_ ?_ ?_
  · refine ⟨?_, Sm.rf, fun k h0 h1 => by omega⟩
    simp [lu_ap, aL_ap, ct_0, ct_2, ss]
  · rintro s L w hs ⟨⟨m0, m1, m2, m3, m4, m5⟩, hq, hrs⟩
    have hsx : (s : Int) ≤ x := by omega
    have hsn : s < ns := by omega
    obtain ⟨⟨w1, w2, w3⟩, w4, w5⟩ := hW s hsn
    have hw := h.keep (RM.kp h hq.q)
    simp only [cX12_showOf_1, bX12_showOf_1, uX12_showOf_1, wE_I, wE_V, wE_F, wE_A, wE_N, wE_1, wE_2, wE_D, wE_B, wE_If, wE_C, wE_CV, wE_SL, wE_SA, wA_0, wA_1, wC_B, wC_E, wC_And, wC_Or, wC_Not, wS_Skip, wS_Brk, wS_Cnt, wS_RetV, wS_Ret, wS_Seq, wS_Set, wS_Inc, wS_Do, wS_Put, wS_PutC, wS_Arr, wS_ArrC, wS_If, wS_Sw, wS_F0, wS_F1, wM_q, lu_ap, aL_ap, ct_0, ct_1, ct_2, ct_3, ct_4, ct_5, headD_1, List.mem_cons, List.not_mem_nil, or_false, false_or, or_true, true_or, true_and, and_true, false_and, and_false, not_true_eq_false, not_false_eq_true, if_true, if_false, nr_20, nr_24, nr_40, nr_41, nr_44, pt_lt, pt_ge, pt_eq, pt_ne, pt_gt, pt_le, pt_E, pt_N, pt_F, ite_10, ite_11, ne_eq, and_self, or_self, decide_true, decide_false, Bool.not_true, Bool.not_false, Bool.false_eq_true, Nat.reduceEqDiff, Nat.reduceAdd, Int.reduceEq, Int.reduceLT, Int.reduceLE, Int.reduceNeg, Int.reduceAdd, Int.reduceSub, Int.reduceMul, reduceCtorEq, iA, iS, iM, iD, iR, iN, lA, lS, lM, lD, lR, m0, m1, m2, m3, m4, m5, hsx]
    have hst := stk_vv (c := mCo v M B) (a := ss (mEn v M B) s) (s := s) (μ := fun m => mR v M a m i) hnm (by omega) (rs_vv hnm hns hW hv s (by omega)) hv
    refine wS_For (mEn v M B s - ss (mEn v M B) s).toNat (fun j L w => (L 0 = M ∧ L 1 = x ∧ L 2 = a ∧ L 3 = i ∧ L 4 = ss (mEn v M B) s + j ∧ L 5 = s ∧ L 6 = dp (mCo v M B) (ss (mEn v M B) s) j) ∧ Sm M v w ∧ (∀ k : Int, 0 ≤ k → k < s → w (M + 34) k = rs (mCo v M B) (mEn v M B) (fun m => mR v M a m i) s k) ∧ ∀ q : Int, 0 ≤ q → q < dp (mCo v M B) (ss (mEn v M B) s) j → w (M + 33) q = stk (mCo v M B) (rs (mCo v M B) (mEn v M B) (fun m => mR v M a m i) s) (fun m => mR v M a m i) (ss (mEn v M B) s) j q) (by omega) ?_ ?_ ?_
    · refine ⟨?_, hq, hrs, ?_⟩
      · simp [lu_ap, m0, m1, m2, m3, m4, m5, dp]
      · intro q h0 h1
        unfold dp at h1
        omega
    · rintro j L w hj ⟨⟨m0, m1, m2, m3, m4, m5, m6⟩, hq, hrs, hsk⟩
      have hw := h.keep (RM.kp h hq.q)
      have hwB : w M 28 = B := (hq _ _ (by omega) (by omega)).trans hB
      have g1 : w (M + 25) (4 * B + s) = mEn v M B s := hq _ _ (by omega) (by omega)
      have g3 : w (M + 24) (100 * B + (ss (mEn v M B) s + j)) = mCo v M B (ss (mEn v M B) s + j) := hq _ _ (by omega) (by omega)
      have g6 : 0 ≤ 100 * B + (ss (mEn v M B) s + (j : Int)) ∧ 100 * B + (ss (mEn v M B) s + (j : Int)) < 200 := by omega
      have g5 : 0 ≤ 4 * B + (s : Int) ∧ 4 * B + (s : Int) < 8 := by omega
      have g7 : ss (mEn v M B) s + (j : Int) < mEn v M B s := by omega
      have e1 : w32 (w32 (100 * B) + (ss (mEn v M B) s + (j : Int))) = 100 * B + (ss (mEn v M B) s + j) := by
        rw [w32_e (z := 100 * B) (by omega)]
        exact w32_e (by omega)
      have ej : w32 (ss (mEn v M B) s + (j : Int) + 1) = ss (mEn v M B) s + ((j + 1 : Nat) : Int) := by
        clear e1
        rw [w32_e (by omega)]; omega
      have hwc := w4 j (by clear e1 ej; omega)
      simp only [cX12_showOf_2, bX12_showOf_2, uX12_showOf_2, wE_I, wE_V, wE_F, wE_A, wE_N, wE_1, wE_2, wE_D, wE_B, wE_If, wE_C, wE_CV, wE_SL, wE_SA, wA_0, wA_1, wC_B, wC_E, wC_And, wC_Or, wC_Not, wS_Skip, wS_Brk, wS_Cnt, wS_RetV, wS_Ret, wS_Seq, wS_Set, wS_Inc, wS_Do, wS_Put, wS_PutC, wS_Arr, wS_ArrC, wS_If, wS_Sw, wS_F0, wS_F1, wM_q, lu_ap, aL_ap, ct_0, ct_1, ct_2, ct_3, ct_4, ct_5, headD_1, List.mem_cons, List.not_mem_nil, or_false, false_or, or_true, true_or, true_and, and_true, false_and, and_false, not_true_eq_false, not_false_eq_true, if_true, if_false, nr_20, nr_24, nr_40, nr_41, nr_44, pt_lt, pt_ge, pt_eq, pt_ne, pt_gt, pt_le, pt_E, pt_N, pt_F, ite_10, ite_11, ne_eq, and_self, or_self, decide_true, decide_false, Bool.not_true, Bool.not_false, Bool.false_eq_true, Nat.reduceEqDiff, Nat.reduceAdd, Int.reduceEq, Int.reduceLT, Int.reduceLE, Int.reduceNeg, Int.reduceAdd, Int.reduceSub, Int.reduceMul, reduceCtorEq, iA, iS, iM, iD, iR, iN, lA, lS, lM, lD, lR, m0, m1, m2, m3, m4, m5, m6, hw.k, hw.p24, hw.a25, hw.n25, hw.p23, hw.a24, hw.n24, hwB, wM_of (m_own hB2 (show 0 ≤ (s : Int) ∧ (s : Int) ≤ 1000 by clear e1 ej; omega)), g1, g3, g5, g6, g7, e1, ej]
      clear e1 ej
      have hvv := hst j (fun i hi => w4 i (by omega))
      generalize hc : mCo v M B (ss (mEn v M B) s + (j : Int)) = c at *
      generalize hd : dp (mCo v M B) (ss (mEn v M B) s) j = d at *
      have hM : ¬ M + 34 = M + 33 := by omega
      rcases hwc with ⟨u1, u2, u3, u4⟩ | ⟨u1, u2, u3⟩
      · rw [hc] at u1 u2
        rw [hd] at u3 u4
        have e2 : w32 (d + -1) = d - 1 := by rw [w32_e (by omega)]; omega
        have e3 : w32 (d - 1 - 1) = d - 2 := by clear e2; rw [w32_e (by omega)]; omega
        have o2 : 0 ≤ d - 2 ∧ d - 2 < 64 := by clear e2 e3; omega
        have o1 : 0 ≤ d - 1 ∧ d - 1 < 64 := by clear e2 e3; omega
        have k1 := hsk (d - 1) (by clear e2 e3; omega) (by clear e2 e3; omega)
        have k2 := hsk (d - 2) (by clear e2 e3; omega) (by clear e2 e3; omega)
        have v1 := hvv (d - 1) (by clear e2 e3; omega) (by clear e2 e3; omega)
        have v2 := hvv (d - 2) (by clear e2 e3; omega) (by clear e2 e3; omega)
        simp only [u1, wE_I, wE_V, wE_F, wE_A, wE_N, wE_1, wE_2, wE_D, wE_B, wE_If, wE_C, wE_CV, wE_SL, wE_SA, wA_0, wA_1, wC_B, wC_E, wC_And, wC_Or, wC_Not, wS_Skip, wS_Brk, wS_Cnt, wS_RetV, wS_Ret, wS_Seq, wS_Set, wS_Inc, wS_Do, wS_Put, wS_PutC, wS_Arr, wS_ArrC, wS_If, wS_Sw, wS_F0, wS_F1, wM_q, lu_ap, aL_ap, ct_0, ct_1, ct_2, ct_3, ct_4, ct_5, headD_1, List.mem_cons, List.not_mem_nil, or_false, false_or, or_true, true_or, true_and, and_true, false_and, and_false, not_true_eq_false, not_false_eq_true, if_true, if_false, nr_20, nr_24, nr_40, nr_41, nr_44, pt_lt, pt_ge, pt_eq, pt_ne, pt_gt, pt_le, pt_E, pt_N, pt_F, ite_10, ite_11, ne_eq, and_self, or_self, decide_true, decide_false, Bool.not_true, Bool.not_false, Bool.false_eq_true, Nat.reduceEqDiff, Nat.reduceAdd, Int.reduceEq, Int.reduceLT, Int.reduceLE, Int.reduceNeg, Int.reduceAdd, Int.reduceSub, Int.reduceMul, reduceCtorEq, e2, e3, hw.k, hw.p52, hw.a33, hw.n33, o1, o2, k1, k2, wM_of (m_madeOf ⟨u1, u2⟩ v2 v1)]
        clear e2 e3
        refine ⟨?_, ?_, ?_, ?_⟩
        · rw [dp, hc, if_pos u1, hd]
        · intro b k h1 h2
          rw [vu_ne (fun q => h1 q.1)]
          exact hq b k h1 h2
        · intro k h0 h1
          rw [vu_ne (by omega)]
          exact hrs k h0 h1
        · intro q h0 h1
          rw [dp, hc, if_pos u1, hd] at h1
          rw [stk, hc, if_pos u1, hd, vu_ap]
          by_cases hq2 : q = d - 2
          · simp only [hq2, and_self, if_true]
          · simp only [hq2, and_false, if_false]
            exact hsk q h0 (by omega)
      · rw [hc] at u3
        rw [hd] at u1 u2
        have hc2 : ¬ 10020 ≤ c := by omega
        have o1 : 0 ≤ d ∧ d < 64 := by omega
        have e2 : w32 (d + 1) = d + 1 := w32_e (by omega)
        have hun := m_unitAt (v := w) (a := a) (i := i) (c := c) (s := s) (nm := nm) hw (by clear e2; omega) hnm ha hi u3
        have eun : un (fun k => w (M + 34) k) (fun m => mR w M a m i) c = un (rs (mCo v M B) (mEn v M B) (fun m => mR v M a m i) s) (fun m => mR v M a m i) c := by
          clear e2
          unfold un
          by_cases q1 : 10010 ≤ c
          · rw [if_pos q1, if_pos q1]
            exact hrs _ (by omega) (by omega)
          · rw [if_neg q1, if_neg q1]
            by_cases q2 : 10000 ≤ c
            · rw [if_pos q2, if_pos q2]
              exact hq _ _ (by omega) (by omega)
            · rw [if_neg q2, if_neg q2]
        rw [eun] at hun
        simp only [hc2, wE_I, wE_V, wE_F, wE_A, wE_N, wE_1, wE_2, wE_D, wE_B, wE_If, wE_C, wE_CV, wE_SL, wE_SA, wA_0, wA_1, wC_B, wC_E, wC_And, wC_Or, wC_Not, wS_Skip, wS_Brk, wS_Cnt, wS_RetV, wS_Ret, wS_Seq, wS_Set, wS_Inc, wS_Do, wS_Put, wS_PutC, wS_Arr, wS_ArrC, wS_If, wS_Sw, wS_F0, wS_F1, wM_q, lu_ap, aL_ap, ct_0, ct_1, ct_2, ct_3, ct_4, ct_5, headD_1, List.mem_cons, List.not_mem_nil, or_false, false_or, or_true, true_or, true_and, and_true, false_and, and_false, not_true_eq_false, not_false_eq_true, if_true, if_false, nr_20, nr_24, nr_40, nr_41, nr_44, pt_lt, pt_ge, pt_eq, pt_ne, pt_gt, pt_le, pt_E, pt_N, pt_F, ite_10, ite_11, ne_eq, and_self, or_self, decide_true, decide_false, Bool.not_true, Bool.not_false, Bool.false_eq_true, Nat.reduceEqDiff, Nat.reduceAdd, Int.reduceEq, Int.reduceLT, Int.reduceLE, Int.reduceNeg, Int.reduceAdd, Int.reduceSub, Int.reduceMul, reduceCtorEq, e2, hw.k, hw.p52, hw.a33, hw.n33, o1, wM_of hun]
        clear e2
        refine ⟨?_, ?_, ?_, ?_⟩
        · rw [dp, hc, if_neg hc2, hd]
        · intro b k h1 h2
          rw [vu_ne (fun q => h1 q.1)]
          exact hq b k h1 h2
        · intro k h0 h1
          rw [vu_ne (by omega)]
          exact hrs k h0 h1
        · intro q h0 h1
          rw [dp, hc, if_neg hc2, hd] at h1
          rw [stk, hc, if_neg hc2, hd, vu_ap]
          by_cases hq2 : q = d
          · simp only [hq2, and_self, if_true]
          · simp only [hq2, and_false, if_false]
            exact hsk q h0 (by omega)
    · rintro L w ⟨⟨m0, m1, m2, m3, m4, m5, m6⟩, hq, hrs, hsk⟩
      have hw := h.keep (RM.kp h hq.q)
      have hwB : w M 28 = B := (hq _ _ (by omega) (by omega)).trans hB
      have g1 : w (M + 25) (4 * B + s) = mEn v M B s := hq _ _ (by omega) (by omega)
      have g5 : 0 ≤ 4 * B + (s : Int) ∧ 4 * B + (s : Int) < 8 := by omega
      have g7 : ¬ ss (mEn v M B) s + ((mEn v M B s - ss (mEn v M B) s).toNat : Int) < mEn v M B s := by omega
      have g8 : 0 ≤ (s : Int) ∧ (s : Int) < 4 := by omega
      have k0 := hsk 0 (Int.le_refl 0) (by rw [w5]; decide)
      simp only [cX12_showOf_2, wE_I, wE_V, wE_F, wE_A, wE_N, wE_1, wE_2, wE_D, wE_B, wE_If, wE_C, wE_CV, wE_SL, wE_SA, wA_0, wA_1, wC_B, wC_E, wC_And, wC_Or, wC_Not, wS_Skip, wS_Brk, wS_Cnt, wS_RetV, wS_Ret, wS_Seq, wS_Set, wS_Inc, wS_Do, wS_Put, wS_PutC, wS_Arr, wS_ArrC, wS_If, wS_Sw, wS_F0, wS_F1, wM_q, lu_ap, aL_ap, ct_0, ct_1, ct_2, ct_3, ct_4, ct_5, headD_1, List.mem_cons, List.not_mem_nil, or_false, false_or, or_true, true_or, true_and, and_true, false_and, and_false, not_true_eq_false, not_false_eq_true, if_true, if_false, nr_20, nr_24, nr_40, nr_41, nr_44, pt_lt, pt_ge, pt_eq, pt_ne, pt_gt, pt_le, pt_E, pt_N, pt_F, ite_10, ite_11, ne_eq, and_self, or_self, decide_true, decide_false, Bool.not_true, Bool.not_false, Bool.false_eq_true, Nat.reduceEqDiff, Nat.reduceAdd, Int.reduceEq, Int.reduceLT, Int.reduceLE, Int.reduceNeg, Int.reduceAdd, Int.reduceSub, Int.reduceMul, reduceCtorEq, iA, iS, iM, iD, iR, iN, lA, lS, lM, lD, lR, m0, m1, m2, m3, m4, m5, hw.k, hw.p24, hw.a25, hw.n25, hw.p52, hw.a33, hw.n33, hw.p53, hw.a34, hw.n34, hwB, wM_of (m_own hB2 (show 0 ≤ (s : Int) ∧ (s : Int) ≤ 1000 by omega)), g1, g5, g7, g8, k0]
      refine ⟨⟨?_, w32_s (by omega)⟩, ?_, ?_⟩
      · rw [ss_s]; omega
      · intro b k h1 h2
        rw [vu_ne (fun q => h2 q.1)]
        exact hq b k h1 h2
      · intro k h0 h1
        rw [vu_ap]
        unfold rs
        by_cases hk : k = s
        · simp only [hk, and_self, if_true]
        · simp only [hk, and_false, if_false]
          exact hrs k h0 (by omega)
  · rintro L w ⟨⟨m0, m1, m2, m3, m4, m5⟩, hq, hrs⟩
    have hw := h.keep (RM.kp h hq.q)
    have hl : ¬ ((x.toNat + 1 : Nat) : Int) ≤ x := by omega
    have g5 : 0 ≤ x ∧ x < 4 := by omega
    simp only [cX12_showOf_1, wE_I, wE_V, wE_F, wE_A, wE_N, wE_1, wE_2, wE_D, wE_B, wE_If, wE_C, wE_CV, wE_SL, wE_SA, wA_0, wA_1, wC_B, wC_E, wC_And, wC_Or, wC_Not, wS_Skip, wS_Brk, wS_Cnt, wS_RetV, wS_Ret, wS_Seq, wS_Set, wS_Inc, wS_Do, wS_Put, wS_PutC, wS_Arr, wS_ArrC, wS_If, wS_Sw, wS_F0, wS_F1, wM_q, lu_ap, aL_ap, ct_0, ct_1, ct_2, ct_3, ct_4, ct_5, headD_1, List.mem_cons, List.not_mem_nil, or_false, false_or, or_true, true_or, true_and, and_true, false_and, and_false, not_true_eq_false, not_false_eq_true, if_true, if_false, nr_20, nr_24, nr_40, nr_41, nr_44, pt_lt, pt_ge, pt_eq, pt_ne, pt_gt, pt_le, pt_E, pt_N, pt_F, ite_10, ite_11, ne_eq, and_self, or_self, decide_true, decide_false, Bool.not_true, Bool.not_false, Bool.false_eq_true, Nat.reduceEqDiff, Nat.reduceAdd, Int.reduceEq, Int.reduceLT, Int.reduceLE, Int.reduceNeg, Int.reduceAdd, Int.reduceSub, Int.reduceMul, reduceCtorEq, iA, iS, iM, iD, iR, iN, lA, lS, lM, lD, lR, m0, m1, m5, hl, hw.k, hw.p53, hw.a34, hw.n34, g5]
    exact ⟨hrs x hx.1 (by omega), hq⟩
theorem m_isShow (h : RM S v M B) {x : Int} (hn : 0 ≤ v (M + 5) B ∧ v (M + 5) B ≤ 4) : mX12_isShow [M, x] S v = some (if 0 ≤ x ∧ x < v (M + 5) B then 1 else 0, v) := by
  apply wM_eq
  have hB := h.B2
  have e1 : w32 (v (M + 5) B - 1) = v (M + 5) B - 1 := w32_e (by omega)
  simp only [mX12_isShow, sX12_isShow, wE_I, wE_V, wE_F, wE_A, wE_N, wE_1, wE_2, wE_D, wE_B, wE_If, wE_C, wE_CV, wE_SL, wE_SA, wA_0, wA_1, wC_B, wC_E, wC_And, wC_Or, wC_Not, wS_Skip, wS_Brk, wS_Cnt, wS_RetV, wS_Ret, wS_Seq, wS_Set, wS_Inc, wS_Do, wS_Put, wS_PutC, wS_Arr, wS_ArrC, wS_If, wS_Sw, wS_F0, wS_F1, wM_q, lu_ap, aL_ap, ct_0, ct_1, ct_2, ct_3, ct_4, ct_5, headD_1, List.mem_cons, List.not_mem_nil, or_false, false_or, or_true, true_or, true_and, and_true, false_and, and_false, not_true_eq_false, not_false_eq_true, if_true, if_false, nr_20, nr_24, nr_40, nr_41, nr_44, pt_lt, pt_ge, pt_eq, pt_ne, pt_gt, pt_le, pt_E, pt_N, pt_F, ite_10, ite_11, ne_eq, and_self, or_self, decide_true, decide_false, Bool.not_true, Bool.not_false, Bool.false_eq_true, Nat.reduceEqDiff, Nat.reduceAdd, Int.reduceEq, Int.reduceLT, Int.reduceLE, Int.reduceNeg, Int.reduceAdd, Int.reduceSub, Int.reduceMul, reduceCtorEq, iA, iS, iM, iD, iR, iN, lA, lS, lM, lD, lR, h.1.k, h.1.p4, h.1.a5, h.1.n5, h.2.1, hB, e1, wM_of m_isIn]
  clear e1
  exact ite_c (by omega)
/-- the shows are sound -/
def MC_ (v : QV) (M B : Int) : Prop := (0 ≤ v (M + 5) B ∧ v (M + 5) B ≤ 4) ∧ WF (mCo v M B) (mEn v M B) (v (M + 3) B) (v (M + 5) B).toNat
theorem m_show (h : RM S v M B) (hC : MC_ v M B) {x a i : Int} (hr : ∀ a m i, 0 ≤ a → a < v (M + 4) B → 0 ≤ m → m < v (M + 3) B → 0 ≤ i → i < mK v M a → tv (mR v M a m i)) :
    wM mX12_show [M, x, a, i] S v (fun z w => z = (if (0 ≤ x ∧ x < v (M + 5) B) ∧ (0 ≤ a ∧ a < v (M + 4) B) ∧ 0 ≤ i ∧ i < mK v M a then w32 (sv (mCo v M B) (mEn v M B) (mR v M a) x i) else -2147483648) ∧ Qm M v w) := by
  by_cases hx : 0 ≤ x ∧ x < v (M + 5) B
  · by_cases ha : 0 ≤ a ∧ a < v (M + 4) B
    · have hk := mK_b h ha
      have hn := h.2.2.2.2.1
      have hna := h.2.2.2.2.2.1
      have e1 : w32 (mK v M a - 1) = mK v M a - 1 := w32_e (by omega)
      simp only [mX12_show, sX12_show, wE_I, wE_V, wE_F, wE_A, wE_N, wE_1, wE_2, wE_D, wE_B, wE_If, wE_C, wE_CV, wE_SL, wE_SA, wA_0, wA_1, wC_B, wC_E, wC_And, wC_Or, wC_Not, wS_Skip, wS_Brk, wS_Cnt, wS_RetV, wS_Ret, wS_Seq, wS_Set, wS_Inc, wS_Do, wS_Put, wS_PutC, wS_Arr, wS_ArrC, wS_If, wS_Sw, wS_F0, wS_F1, wM_q, lu_ap, aL_ap, ct_0, ct_1, ct_2, ct_3, ct_4, ct_5, headD_1, List.mem_cons, List.not_mem_nil, or_false, false_or, or_true, true_or, true_and, and_true, false_and, and_false, not_true_eq_false, not_false_eq_true, if_true, if_false, nr_20, nr_24, nr_40, nr_41, nr_44, pt_lt, pt_ge, pt_eq, pt_ne, pt_gt, pt_le, pt_E, pt_N, pt_F, ite_10, ite_11, ne_eq, and_self, or_self, decide_true, decide_false, Bool.not_true, Bool.not_false, Bool.false_eq_true, Nat.reduceEqDiff, Nat.reduceAdd, Int.reduceEq, Int.reduceLT, Int.reduceLE, Int.reduceNeg, Int.reduceAdd, Int.reduceSub, Int.reduceMul, reduceCtorEq, iA, iS, iM, iD, iR, iN, lA, lS, lM, lD, lR, h.1.k, wM_of (m_isShow h hC.1), wM_of (m_isArchive h), hx, ha, wM_of (m_rowsKept h ha), e1, wM_of m_isIn]
      clear e1
      by_cases hi : 0 ≤ i ∧ i < mK v M a
      · have hi' : 0 ≤ i ∧ i ≤ mK v M a - 1 := by omega
        simp only [hi, hi', wE_I, wE_V, wE_F, wE_A, wE_N, wE_1, wE_2, wE_D, wE_B, wE_If, wE_C, wE_CV, wE_SL, wE_SA, wA_0, wA_1, wC_B, wC_E, wC_And, wC_Or, wC_Not, wS_Skip, wS_Brk, wS_Cnt, wS_RetV, wS_Ret, wS_Seq, wS_Set, wS_Inc, wS_Do, wS_Put, wS_PutC, wS_Arr, wS_ArrC, wS_If, wS_Sw, wS_F0, wS_F1, wM_q, lu_ap, aL_ap, ct_0, ct_1, ct_2, ct_3, ct_4, ct_5, headD_1, List.mem_cons, List.not_mem_nil, or_false, false_or, or_true, true_or, true_and, and_true, false_and, and_false, not_true_eq_false, not_false_eq_true, if_true, if_false, nr_20, nr_24, nr_40, nr_41, nr_44, pt_lt, pt_ge, pt_eq, pt_ne, pt_gt, pt_le, pt_E, pt_N, pt_F, ite_10, ite_11, ne_eq, and_self, or_self, decide_true, decide_false, Bool.not_true, Bool.not_false, Bool.false_eq_true, Nat.reduceEqDiff, Nat.reduceAdd, Int.reduceEq, Int.reduceLT, Int.reduceLE, Int.reduceNeg, Int.reduceAdd, Int.reduceSub, Int.reduceMul, reduceCtorEq]
        have hc1 := hC.1
        refine wM_mono (m_showOf h.1 h.2.1 h.2.2.1 (by omega) hn.2 (by omega) (by omega) (by omega) hC.2 (fun k g0 g1 => tv_vv (hr a k i ha.1 ha.2 g0 g1 hi.1 hi.2))) ?_
        rintro z w - ⟨rfl, hq⟩
        exact ⟨rfl, hq.q⟩
      · have hi' : ¬ (0 ≤ i ∧ i ≤ mK v M a - 1) := by omega
        simp only [hi, hi', wE_I, wE_V, wE_F, wE_A, wE_N, wE_1, wE_2, wE_D, wE_B, wE_If, wE_C, wE_CV, wE_SL, wE_SA, wA_0, wA_1, wC_B, wC_E, wC_And, wC_Or, wC_Not, wS_Skip, wS_Brk, wS_Cnt, wS_RetV, wS_Ret, wS_Seq, wS_Set, wS_Inc, wS_Do, wS_Put, wS_PutC, wS_Arr, wS_ArrC, wS_If, wS_Sw, wS_F0, wS_F1, wM_q, lu_ap, aL_ap, ct_0, ct_1, ct_2, ct_3, ct_4, ct_5, headD_1, List.mem_cons, List.not_mem_nil, or_false, false_or, or_true, true_or, true_and, and_true, false_and, and_false, not_true_eq_false, not_false_eq_true, if_true, if_false, nr_20, nr_24, nr_40, nr_41, nr_44, pt_lt, pt_ge, pt_eq, pt_ne, pt_gt, pt_le, pt_E, pt_N, pt_F, ite_10, ite_11, ne_eq, and_self, or_self, decide_true, decide_false, Bool.not_true, Bool.not_false, Bool.false_eq_true, Nat.reduceEqDiff, Nat.reduceAdd, Int.reduceEq, Int.reduceLT, Int.reduceLE, Int.reduceNeg, Int.reduceAdd, Int.reduceSub, Int.reduceMul, reduceCtorEq, Qm.rf]
    · simp only [mX12_show, sX12_show, wE_I, wE_V, wE_F, wE_A, wE_N, wE_1, wE_2, wE_D, wE_B, wE_If, wE_C, wE_CV, wE_SL, wE_SA, wA_0, wA_1, wC_B, wC_E, wC_And, wC_Or, wC_Not, wS_Skip, wS_Brk, wS_Cnt, wS_RetV, wS_Ret, wS_Seq, wS_Set, wS_Inc, wS_Do, wS_Put, wS_PutC, wS_Arr, wS_ArrC, wS_If, wS_Sw, wS_F0, wS_F1, wM_q, lu_ap, aL_ap, ct_0, ct_1, ct_2, ct_3, ct_4, ct_5, headD_1, List.mem_cons, List.not_mem_nil, or_false, false_or, or_true, true_or, true_and, and_true, false_and, and_false, not_true_eq_false, not_false_eq_true, if_true, if_false, nr_20, nr_24, nr_40, nr_41, nr_44, pt_lt, pt_ge, pt_eq, pt_ne, pt_gt, pt_le, pt_E, pt_N, pt_F, ite_10, ite_11, ne_eq, and_self, or_self, decide_true, decide_false, Bool.not_true, Bool.not_false, Bool.false_eq_true, Nat.reduceEqDiff, Nat.reduceAdd, Int.reduceEq, Int.reduceLT, Int.reduceLE, Int.reduceNeg, Int.reduceAdd, Int.reduceSub, Int.reduceMul, reduceCtorEq, iA, iS, iM, iD, iR, iN, lA, lS, lM, lD, lR, h.1.k, wM_of (m_isShow h hC.1), wM_of (m_isArchive h), hx, ha, Qm.rf]
  · simp only [mX12_show, sX12_show, wE_I, wE_V, wE_F, wE_A, wE_N, wE_1, wE_2, wE_D, wE_B, wE_If, wE_C, wE_CV, wE_SL, wE_SA, wA_0, wA_1, wC_B, wC_E, wC_And, wC_Or, wC_Not, wS_Skip, wS_Brk, wS_Cnt, wS_RetV, wS_Ret, wS_Seq, wS_Set, wS_Inc, wS_Do, wS_Put, wS_PutC, wS_Arr, wS_ArrC, wS_If, wS_Sw, wS_F0, wS_F1, wM_q, lu_ap, aL_ap, ct_0, ct_1, ct_2, ct_3, ct_4, ct_5, headD_1, List.mem_cons, List.not_mem_nil, or_false, false_or, or_true, true_or, true_and, and_true, false_and, and_false, not_true_eq_false, not_false_eq_true, if_true, if_false, nr_20, nr_24, nr_40, nr_41, nr_44, pt_lt, pt_ge, pt_eq, pt_ne, pt_gt, pt_le, pt_E, pt_N, pt_F, ite_10, ite_11, ne_eq, and_self, or_self, decide_true, decide_false, Bool.not_true, Bool.not_false, Bool.false_eq_true, Nat.reduceEqDiff, Nat.reduceAdd, Int.reduceEq, Int.reduceLT, Int.reduceLE, Int.reduceNeg, Int.reduceAdd, Int.reduceSub, Int.reduceMul, reduceCtorEq, iA, iS, iM, iD, iR, iN, lA, lS, lM, lD, lR, h.1.k, wM_of (m_isShow h hC.1), hx, Qm.rf]
theorem gl_v {p : Int → Bool} {ρ : Int → Int} : ∀ j : Nat, (∀ i : Int, 0 ≤ i → i < j → p i = true → -2000000000 ≤ ρ i ∧ ρ i ≤ 2000000000) → (nP p j = 0 ∧ gP p ρ j = -2147483648 ∧ lP p ρ j = -2147483648) ∨ (0 < nP p j ∧ (-2000000000 ≤ gP p ρ j ∧ gP p ρ j ≤ 2000000000) ∧ (-2000000000 ≤ lP p ρ j ∧ lP p ρ j ≤ 2000000000))
  | 0, _ => Or.inl ⟨rfl, rfl, rfl⟩
  | j + 1, h => by
    have h1 := gl_v j (fun i h0 h1 => h i h0 (by omega))
    have h2 := h j (by omega) (by omega)
    have h3 := nP_b p j
    unfold nP gP lP
    by_cases hp : p j = true
    · have := h2 hp
      simp only [hp, true_and, if_true]
      right
      refine ⟨by omega, ?_, ?_⟩
      · split <;> omega
      · split <;> omega
    · simp only [hp, false_and, if_false]
      simpa using h1
theorem m_shows (h : RM S v M B) (hC : MC_ v M B) {x a y : Int} (hr : ∀ a m i, 0 ≤ a → a < v (M + 4) B → 0 ≤ m → m < v (M + 3) B → 0 ≤ i → i < mK v M a → tv (mR v M a m i)) :
    wM mX12_shows [M, x, a, y] S v (fun z w => z = (if (0 ≤ x ∧ x < v (M + 5) B) ∧ (0 ≤ a ∧ a < v (M + 4) B) then fShows (sv (mCo v M B) (mEn v M B) (mR v M a) x) (mK v M a).toNat y else -2147483648) ∧ Qm M v w) := by
  by_cases hx : 0 ≤ x ∧ x < v (M + 5) B
  · by_cases ha : 0 ≤ a ∧ a < v (M + 4) B
    · by_cases hy : 0 ≤ y ∧ y ≤ 3
      · have hk := mK_b h ha
        have hn := h.2.2.2.2.1
        have hna := h.2.2.2.2.2.1
        have hc1 := hC.1
        simp only [mX12_shows, sX12_shows, wE_I, wE_V, wE_F, wE_A, wE_N, wE_1, wE_2, wE_D, wE_B, wE_If, wE_C, wE_CV, wE_SL, wE_SA, wA_0, wA_1, wC_B, wC_E, wC_And, wC_Or, wC_Not, wS_Skip, wS_Brk, wS_Cnt, wS_RetV, wS_Ret, wS_Seq, wS_Set, wS_Inc, wS_Do, wS_Put, wS_PutC, wS_Arr, wS_ArrC, wS_If, wS_Sw, wS_F0, wS_F1, wM_q, lu_ap, aL_ap, ct_0, ct_1, ct_2, ct_3, ct_4, ct_5, headD_1, List.mem_cons, List.not_mem_nil, or_false, false_or, or_true, true_or, true_and, and_true, false_and, and_false, not_true_eq_false, not_false_eq_true, if_true, if_false, nr_20, nr_24, nr_40, nr_41, nr_44, pt_lt, pt_ge, pt_eq, pt_ne, pt_gt, pt_le, pt_E, pt_N, pt_F, ite_10, ite_11, ne_eq, and_self, or_self, decide_true, decide_false, Bool.not_true, Bool.not_false, Bool.false_eq_true, Nat.reduceEqDiff, Nat.reduceAdd, Int.reduceEq, Int.reduceLT, Int.reduceLE, Int.reduceNeg, Int.reduceAdd, Int.reduceSub, Int.reduceMul, reduceCtorEq, iA, iS, iM, iD, iR, iN, lA, lS, lM, lD, lR, h.1.k, wM_of (m_isShow h hC.1), wM_of (m_isArchive h), wM_of m_isIn, hx, ha, hy]
        have hσv : ∀ i : Int, 0 ≤ i → i < mK v M a → vv (sv (mCo v M B) (mEn v M B) (mR v M a) x i) := fun i h0 h1 => sv_vv (by omega) hn.2 hC.2 (by omega) (fun m g0 g1 => hr a m i ha.1 ha.2 g0 g1 h0 h1)
        have hS : ∀ (w : QV), Sm M v w → ∀ i : Int, 0 ≤ i → i < mK v M a → wM mX12_showOf [M, x, a, i] S w (fun z w' => z = sv (mCo v M B) (mEn v M B) (mR v M a) x i ∧ Sm M v w') := by
          intro w hq i h0 h1
          have hw := h.1.keep (RM.kp h.1 hq.q)
          have e1 : mCo w M B = mCo v M B := funext fun k => hq _ _ (by omega) (by omega)
          have e2 : mEn w M B = mEn v M B := funext fun k => hq _ _ (by omega) (by omega)
          have e3 : mR w M a = mR v M a := funext fun m => funext fun i => hq _ _ (by omega) (by omega)
          have hwB : w M 28 = B := (hq _ _ (by omega) (by omega)).trans h.2.1
          refine wM_mono (m_showOf (nm := v (M + 3) B) (ns := (v (M + 5) B).toNat) hw hwB h.2.2.1 (by omega) hn.2 (by omega) (by omega) (by omega) (by rw [e1, e2]; exact hC.2) (fun k g0 g1 => by rw [e3]; exact tv_vv (hr a k i ha.1 ha.2 g0 g1 h0 h1))) ?_
          rintro z w' - ⟨hz, hq'⟩
          refine ⟨by rw [hz, e1, e2, e3], fun b k g1 g2 => (hq' b k g1 g2).trans (hq b k g1 g2)⟩
        generalize hσ : sv (mCo v M B) (mEn v M B) (mR v M a) x = σ at hσv hS ⊢
        generalize hK : mK v M a = K at *
        have hg : ∀ q : Int, 0 ≤ q → q < K → kn σ q = true → -2000000000 ≤ σ q ∧ σ q ≤ 2000000000 := by
          intro q h2 h3 h4
          have := hσv q h2 h3
          unfold kn at h4
          unfold vv at this
          simp at h4
          omega
        refine wS_For K.toNat (fun j L w => (L 0 = M ∧ L 1 = x ∧ L 2 = a ∧ L 3 = y ∧ L 4 = nP (kn σ) j ∧ L 5 = gP (kn σ) σ j ∧ L 7 = lP (kn σ) σ j ∧ L 9 = swh σ j ∧ L 10 = j) ∧ Sm M v w) (by omega) ?_ ?_ ?_
        · refine ⟨?_, Sm.rf⟩
          simp [lu_ap, aL_ap, ct_0, ct_2, nP, gP, lP, swh]
        · rintro j L w hj ⟨⟨m0, m1, m2, m3, m4, m5, m7, m9, m10⟩, hq⟩
          have hw := h.keep hq.q
          have haw : 0 ≤ a ∧ a < w (M + 4) B := by rw [hq _ _ (by omega) (by omega)]; exact ha
          have eK : mK w M a = K := (mK_keep hq.q).trans hK
          have hjK : 0 ≤ (j : Int) ∧ (j : Int) < K := by omega
          obtain ⟨z, w1, g1, g2, g3⟩ := hS w hq j hjK.1 hjK.2
          subst g2
          have b1 := nP_b (kn σ) j
          have b2 := gl_v (p := kn σ) (ρ := σ) j (fun i h0 h1 => hg i h0 (by omega))
          simp only [cX12_shows_1, bX12_shows_1, uX12_shows_1, wE_I, wE_V, wE_F, wE_A, wE_N, wE_1, wE_2, wE_D, wE_B, wE_If, wE_C, wE_CV, wE_SL, wE_SA, wA_0, wA_1, wC_B, wC_E, wC_And, wC_Or, wC_Not, wS_Skip, wS_Brk, wS_Cnt, wS_RetV, wS_Ret, wS_Seq, wS_Set, wS_Inc, wS_Do, wS_Put, wS_PutC, wS_Arr, wS_ArrC, wS_If, wS_Sw, wS_F0, wS_F1, wM_q, lu_ap, aL_ap, ct_0, ct_1, ct_2, ct_3, ct_4, ct_5, headD_1, List.mem_cons, List.not_mem_nil, or_false, false_or, or_true, true_or, true_and, and_true, false_and, and_false, not_true_eq_false, not_false_eq_true, if_true, if_false, nr_20, nr_24, nr_40, nr_41, nr_44, pt_lt, pt_ge, pt_eq, pt_ne, pt_gt, pt_le, pt_E, pt_N, pt_F, ite_10, ite_11, ne_eq, and_self, or_self, decide_true, decide_false, Bool.not_true, Bool.not_false, Bool.false_eq_true, Nat.reduceEqDiff, Nat.reduceAdd, Int.reduceEq, Int.reduceLT, Int.reduceLE, Int.reduceNeg, Int.reduceAdd, Int.reduceSub, Int.reduceMul, reduceCtorEq, iA, iS, iM, iD, iR, iN, lA, lS, lM, lD, lR, hw.1.k, m0, m1, m2, m3, m4, m5, m7, m9, m10, wM_of (m_rowsKept hw haw), eK, hjK, wM_of g1, w32_s (show j < 1000 by omega)]
          by_cases h1 : σ j = -2147483648
          · have hk1 : ¬ kn σ j = true := by simp [kn, h1]
            simp only [h1, wE_I, wE_V, wE_F, wE_A, wE_N, wE_1, wE_2, wE_D, wE_B, wE_If, wE_C, wE_CV, wE_SL, wE_SA, wA_0, wA_1, wC_B, wC_E, wC_And, wC_Or, wC_Not, wS_Skip, wS_Brk, wS_Cnt, wS_RetV, wS_Ret, wS_Seq, wS_Set, wS_Inc, wS_Do, wS_Put, wS_PutC, wS_Arr, wS_ArrC, wS_If, wS_Sw, wS_F0, wS_F1, wM_q, lu_ap, aL_ap, ct_0, ct_1, ct_2, ct_3, ct_4, ct_5, headD_1, List.mem_cons, List.not_mem_nil, or_false, false_or, or_true, true_or, true_and, and_true, false_and, and_false, not_true_eq_false, not_false_eq_true, if_true, if_false, nr_20, nr_24, nr_40, nr_41, nr_44, pt_lt, pt_ge, pt_eq, pt_ne, pt_gt, pt_le, pt_E, pt_N, pt_F, ite_10, ite_11, ne_eq, and_self, or_self, decide_true, decide_false, Bool.not_true, Bool.not_false, Bool.false_eq_true, Nat.reduceEqDiff, Nat.reduceAdd, Int.reduceEq, Int.reduceLT, Int.reduceLE, Int.reduceNeg, Int.reduceAdd, Int.reduceSub, Int.reduceMul, reduceCtorEq, nP_0 hk1, swh, gP, lP, hk1, g3]
          · have hk1 : kn σ j = true := by simp [kn, h1]
            have hgj := hg j hjK.1 hjK.2 hk1
            have e4 : w32 (nP (kn σ) j + 1) = nP (kn σ) j + 1 := by
              generalize nP (kn σ) j = z at b1 ⊢
              exact w32_e (by omega)
            by_cases h2 : nP (kn σ) j = 0
            · rw [h2] at e4
              have h3 : gP (kn σ) σ j < σ j := by clear e4; omega
              have h4 : lP (kn σ) σ j = -2147483648 := by clear e4; omega
              simp only [h1, wE_I, wE_V, wE_F, wE_A, wE_N, wE_1, wE_2, wE_D, wE_B, wE_If, wE_C, wE_CV, wE_SL, wE_SA, wA_0, wA_1, wC_B, wC_E, wC_And, wC_Or, wC_Not, wS_Skip, wS_Brk, wS_Cnt, wS_RetV, wS_Ret, wS_Seq, wS_Set, wS_Inc, wS_Do, wS_Put, wS_PutC, wS_Arr, wS_ArrC, wS_If, wS_Sw, wS_F0, wS_F1, wM_q, lu_ap, aL_ap, ct_0, ct_1, ct_2, ct_3, ct_4, ct_5, headD_1, List.mem_cons, List.not_mem_nil, or_false, false_or, or_true, true_or, true_and, and_true, false_and, and_false, not_true_eq_false, not_false_eq_true, if_true, if_false, nr_20, nr_24, nr_40, nr_41, nr_44, pt_lt, pt_ge, pt_eq, pt_ne, pt_gt, pt_le, pt_E, pt_N, pt_F, ite_10, ite_11, ne_eq, and_self, or_self, decide_true, decide_false, Bool.not_true, Bool.not_false, Bool.false_eq_true, Nat.reduceEqDiff, Nat.reduceAdd, Int.reduceEq, Int.reduceLT, Int.reduceLE, Int.reduceNeg, Int.reduceAdd, Int.reduceSub, Int.reduceMul, reduceCtorEq, nP_1 hk1, swh, gP, lP, hk1, g3, h2, h3, h4, e4]
              decide
            · have h4 : ¬ lP (kn σ) σ j = -2147483648 := by clear e4; omega
              by_cases h3 : gP (kn σ) σ j < σ j
              · by_cases h5 : σ j < lP (kn σ) σ j
                · simp only [h1, wE_I, wE_V, wE_F, wE_A, wE_N, wE_1, wE_2, wE_D, wE_B, wE_If, wE_C, wE_CV, wE_SL, wE_SA, wA_0, wA_1, wC_B, wC_E, wC_And, wC_Or, wC_Not, wS_Skip, wS_Brk, wS_Cnt, wS_RetV, wS_Ret, wS_Seq, wS_Set, wS_Inc, wS_Do, wS_Put, wS_PutC, wS_Arr, wS_ArrC, wS_If, wS_Sw, wS_F0, wS_F1, wM_q, lu_ap, aL_ap, ct_0, ct_1, ct_2, ct_3, ct_4, ct_5, headD_1, List.mem_cons, List.not_mem_nil, or_false, false_or, or_true, true_or, true_and, and_true, false_and, and_false, not_true_eq_false, not_false_eq_true, if_true, if_false, nr_20, nr_24, nr_40, nr_41, nr_44, pt_lt, pt_ge, pt_eq, pt_ne, pt_gt, pt_le, pt_E, pt_N, pt_F, ite_10, ite_11, ne_eq, and_self, or_self, decide_true, decide_false, Bool.not_true, Bool.not_false, Bool.false_eq_true, Nat.reduceEqDiff, Nat.reduceAdd, Int.reduceEq, Int.reduceLT, Int.reduceLE, Int.reduceNeg, Int.reduceAdd, Int.reduceSub, Int.reduceMul, reduceCtorEq, nP_1 hk1, swh, gP, lP, hk1, g3, h2, h3, h4, h5, e4]
                · simp only [h1, wE_I, wE_V, wE_F, wE_A, wE_N, wE_1, wE_2, wE_D, wE_B, wE_If, wE_C, wE_CV, wE_SL, wE_SA, wA_0, wA_1, wC_B, wC_E, wC_And, wC_Or, wC_Not, wS_Skip, wS_Brk, wS_Cnt, wS_RetV, wS_Ret, wS_Seq, wS_Set, wS_Inc, wS_Do, wS_Put, wS_PutC, wS_Arr, wS_ArrC, wS_If, wS_Sw, wS_F0, wS_F1, wM_q, lu_ap, aL_ap, ct_0, ct_1, ct_2, ct_3, ct_4, ct_5, headD_1, List.mem_cons, List.not_mem_nil, or_false, false_or, or_true, true_or, true_and, and_true, false_and, and_false, not_true_eq_false, not_false_eq_true, if_true, if_false, nr_20, nr_24, nr_40, nr_41, nr_44, pt_lt, pt_ge, pt_eq, pt_ne, pt_gt, pt_le, pt_E, pt_N, pt_F, ite_10, ite_11, ne_eq, and_self, or_self, decide_true, decide_false, Bool.not_true, Bool.not_false, Bool.false_eq_true, Nat.reduceEqDiff, Nat.reduceAdd, Int.reduceEq, Int.reduceLT, Int.reduceLE, Int.reduceNeg, Int.reduceAdd, Int.reduceSub, Int.reduceMul, reduceCtorEq, nP_1 hk1, swh, gP, lP, hk1, g3, h2, h3, h4, h5, e4]
              · by_cases h5 : σ j < lP (kn σ) σ j
                · simp only [h1, wE_I, wE_V, wE_F, wE_A, wE_N, wE_1, wE_2, wE_D, wE_B, wE_If, wE_C, wE_CV, wE_SL, wE_SA, wA_0, wA_1, wC_B, wC_E, wC_And, wC_Or, wC_Not, wS_Skip, wS_Brk, wS_Cnt, wS_RetV, wS_Ret, wS_Seq, wS_Set, wS_Inc, wS_Do, wS_Put, wS_PutC, wS_Arr, wS_ArrC, wS_If, wS_Sw, wS_F0, wS_F1, wM_q, lu_ap, aL_ap, ct_0, ct_1, ct_2, ct_3, ct_4, ct_5, headD_1, List.mem_cons, List.not_mem_nil, or_false, false_or, or_true, true_or, true_and, and_true, false_and, and_false, not_true_eq_false, not_false_eq_true, if_true, if_false, nr_20, nr_24, nr_40, nr_41, nr_44, pt_lt, pt_ge, pt_eq, pt_ne, pt_gt, pt_le, pt_E, pt_N, pt_F, ite_10, ite_11, ne_eq, and_self, or_self, decide_true, decide_false, Bool.not_true, Bool.not_false, Bool.false_eq_true, Nat.reduceEqDiff, Nat.reduceAdd, Int.reduceEq, Int.reduceLT, Int.reduceLE, Int.reduceNeg, Int.reduceAdd, Int.reduceSub, Int.reduceMul, reduceCtorEq, nP_1 hk1, swh, gP, lP, hk1, g3, h2, h3, h4, h5, e4]
                · simp only [h1, wE_I, wE_V, wE_F, wE_A, wE_N, wE_1, wE_2, wE_D, wE_B, wE_If, wE_C, wE_CV, wE_SL, wE_SA, wA_0, wA_1, wC_B, wC_E, wC_And, wC_Or, wC_Not, wS_Skip, wS_Brk, wS_Cnt, wS_RetV, wS_Ret, wS_Seq, wS_Set, wS_Inc, wS_Do, wS_Put, wS_PutC, wS_Arr, wS_ArrC, wS_If, wS_Sw, wS_F0, wS_F1, wM_q, lu_ap, aL_ap, ct_0, ct_1, ct_2, ct_3, ct_4, ct_5, headD_1, List.mem_cons, List.not_mem_nil, or_false, false_or, or_true, true_or, true_and, and_true, false_and, and_false, not_true_eq_false, not_false_eq_true, if_true, if_false, nr_20, nr_24, nr_40, nr_41, nr_44, pt_lt, pt_ge, pt_eq, pt_ne, pt_gt, pt_le, pt_E, pt_N, pt_F, ite_10, ite_11, ne_eq, and_self, or_self, decide_true, decide_false, Bool.not_true, Bool.not_false, Bool.false_eq_true, Nat.reduceEqDiff, Nat.reduceAdd, Int.reduceEq, Int.reduceLT, Int.reduceLE, Int.reduceNeg, Int.reduceAdd, Int.reduceSub, Int.reduceMul, reduceCtorEq, nP_1 hk1, swh, gP, lP, hk1, g3, h2, h3, h4, h5, e4]
        · rintro L w ⟨⟨m0, m1, m2, m3, m4, m5, m7, m9, m10⟩, hq⟩
          have hw := h.keep hq.q
          have haw : 0 ≤ a ∧ a < w (M + 4) B := by rw [hq _ _ (by omega) (by omega)]; exact ha
          have eK : mK w M a = K := (mK_keep hq.q).trans hK
          have hl : ¬ (K.toNat : Int) < K := by omega
          have b2 := gl_v (p := kn σ) (ρ := σ) K.toNat (fun i h0 h1 => hg i h0 (by omega))
          have e1 : w32 (gP (kn σ) σ K.toNat) = gP (kn σ) σ K.toNat := by
            generalize gP (kn σ) σ K.toNat = z at b2 ⊢
            exact w32_e (by omega)
          have e2 : w32 (lP (kn σ) σ K.toNat) = lP (kn σ) σ K.toNat := by
            clear e1
            generalize lP (kn σ) σ K.toNat = z at b2 ⊢
            exact w32_e (by omega)
          simp only [cX12_shows_1, wE_I, wE_V, wE_F, wE_A, wE_N, wE_1, wE_2, wE_D, wE_B, wE_If, wE_C, wE_CV, wE_SL, wE_SA, wA_0, wA_1, wC_B, wC_E, wC_And, wC_Or, wC_Not, wS_Skip, wS_Brk, wS_Cnt, wS_RetV, wS_Ret, wS_Seq, wS_Set, wS_Inc, wS_Do, wS_Put, wS_PutC, wS_Arr, wS_ArrC, wS_If, wS_Sw, wS_F0, wS_F1, wM_q, lu_ap, aL_ap, ct_0, ct_1, ct_2, ct_3, ct_4, ct_5, headD_1, List.mem_cons, List.not_mem_nil, or_false, false_or, or_true, true_or, true_and, and_true, false_and, and_false, not_true_eq_false, not_false_eq_true, if_true, if_false, nr_20, nr_24, nr_40, nr_41, nr_44, pt_lt, pt_ge, pt_eq, pt_ne, pt_gt, pt_le, pt_E, pt_N, pt_F, ite_10, ite_11, ne_eq, and_self, or_self, decide_true, decide_false, Bool.not_true, Bool.not_false, Bool.false_eq_true, Nat.reduceEqDiff, Nat.reduceAdd, Int.reduceEq, Int.reduceLT, Int.reduceLE, Int.reduceNeg, Int.reduceAdd, Int.reduceSub, Int.reduceMul, reduceCtorEq, iA, iS, iM, iD, iR, iN, lA, lS, lM, lD, lR, hw.1.k, m0, m2, m3, m4, m5, m7, m9, m10, wM_of (m_rowsKept hw haw), eK, hl, e1, e2, fShows]
          clear e1 e2
          have hq' := hq.q
          by_cases x0 : y = 0
          · simp [x0, hq']
          by_cases x1 : y = 1
          · simp [x1, hq']
          by_cases x2 : y = 2
          · simp [x2, hq']
          have x3 : y = 3 := by omega
          simp [x3, hq']
      · have y0 : ¬ y = 0 := by omega
        have y1 : ¬ y = 1 := by omega
        have y2 : ¬ y = 2 := by omega
        have y3 : ¬ y = 3 := by omega
        simp only [mX12_shows, sX12_shows, wE_I, wE_V, wE_F, wE_A, wE_N, wE_1, wE_2, wE_D, wE_B, wE_If, wE_C, wE_CV, wE_SL, wE_SA, wA_0, wA_1, wC_B, wC_E, wC_And, wC_Or, wC_Not, wS_Skip, wS_Brk, wS_Cnt, wS_RetV, wS_Ret, wS_Seq, wS_Set, wS_Inc, wS_Do, wS_Put, wS_PutC, wS_Arr, wS_ArrC, wS_If, wS_Sw, wS_F0, wS_F1, wM_q, lu_ap, aL_ap, ct_0, ct_1, ct_2, ct_3, ct_4, ct_5, headD_1, List.mem_cons, List.not_mem_nil, or_false, false_or, or_true, true_or, true_and, and_true, false_and, and_false, not_true_eq_false, not_false_eq_true, if_true, if_false, nr_20, nr_24, nr_40, nr_41, nr_44, pt_lt, pt_ge, pt_eq, pt_ne, pt_gt, pt_le, pt_E, pt_N, pt_F, ite_10, ite_11, ne_eq, and_self, or_self, decide_true, decide_false, Bool.not_true, Bool.not_false, Bool.false_eq_true, Nat.reduceEqDiff, Nat.reduceAdd, Int.reduceEq, Int.reduceLT, Int.reduceLE, Int.reduceNeg, Int.reduceAdd, Int.reduceSub, Int.reduceMul, reduceCtorEq, iA, iS, iM, iD, iR, iN, lA, lS, lM, lD, lR, h.1.k, wM_of (m_isShow h hC.1), wM_of (m_isArchive h), wM_of m_isIn, hx, ha, hy, Qm.rf, fShows, y0, y1, y2, y3]
    · simp only [mX12_shows, sX12_shows, wE_I, wE_V, wE_F, wE_A, wE_N, wE_1, wE_2, wE_D, wE_B, wE_If, wE_C, wE_CV, wE_SL, wE_SA, wA_0, wA_1, wC_B, wC_E, wC_And, wC_Or, wC_Not, wS_Skip, wS_Brk, wS_Cnt, wS_RetV, wS_Ret, wS_Seq, wS_Set, wS_Inc, wS_Do, wS_Put, wS_PutC, wS_Arr, wS_ArrC, wS_If, wS_Sw, wS_F0, wS_F1, wM_q, lu_ap, aL_ap, ct_0, ct_1, ct_2, ct_3, ct_4, ct_5, headD_1, List.mem_cons, List.not_mem_nil, or_false, false_or, or_true, true_or, true_and, and_true, false_and, and_false, not_true_eq_false, not_false_eq_true, if_true, if_false, nr_20, nr_24, nr_40, nr_41, nr_44, pt_lt, pt_ge, pt_eq, pt_ne, pt_gt, pt_le, pt_E, pt_N, pt_F, ite_10, ite_11, ne_eq, and_self, or_self, decide_true, decide_false, Bool.not_true, Bool.not_false, Bool.false_eq_true, Nat.reduceEqDiff, Nat.reduceAdd, Int.reduceEq, Int.reduceLT, Int.reduceLE, Int.reduceNeg, Int.reduceAdd, Int.reduceSub, Int.reduceMul, reduceCtorEq, iA, iS, iM, iD, iR, iN, lA, lS, lM, lD, lR, h.1.k, wM_of (m_isShow h hC.1), wM_of (m_isArchive h), hx, ha, Qm.rf]
  · simp only [mX12_shows, sX12_shows, wE_I, wE_V, wE_F, wE_A, wE_N, wE_1, wE_2, wE_D, wE_B, wE_If, wE_C, wE_CV, wE_SL, wE_SA, wA_0, wA_1, wC_B, wC_E, wC_And, wC_Or, wC_Not, wS_Skip, wS_Brk, wS_Cnt, wS_RetV, wS_Ret, wS_Seq, wS_Set, wS_Inc, wS_Do, wS_Put, wS_PutC, wS_Arr, wS_ArrC, wS_If, wS_Sw, wS_F0, wS_F1, wM_q, lu_ap, aL_ap, ct_0, ct_1, ct_2, ct_3, ct_4, ct_5, headD_1, List.mem_cons, List.not_mem_nil, or_false, false_or, or_true, true_or, true_and, and_true, false_and, and_false, not_true_eq_false, not_false_eq_true, if_true, if_false, nr_20, nr_24, nr_40, nr_41, nr_44, pt_lt, pt_ge, pt_eq, pt_ne, pt_gt, pt_le, pt_E, pt_N, pt_F, ite_10, ite_11, ne_eq, and_self, or_self, decide_true, decide_false, Bool.not_true, Bool.not_false, Bool.false_eq_true, Nat.reduceEqDiff, Nat.reduceAdd, Int.reduceEq, Int.reduceLT, Int.reduceLE, Int.reduceNeg, Int.reduceAdd, Int.reduceSub, Int.reduceMul, reduceCtorEq, iA, iS, iM, iD, iR, iN, lA, lS, lM, lD, lR, h.1.k, wM_of (m_isShow h hC.1), hx, Qm.rf]
end MZ
