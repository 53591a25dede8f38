/-! WOULD: the class's -/
section WC
variable {S : QS} {v w : QV} {b M P B s : Int} {f F : Int → Int}
theorem q_stepsBy (h : RC S v b P s) {l : Int} (hl : 1 ≤ l ∧ l ≤ 1000) (hx : 0 ≤ v s 0 ∧ v s 0 ≤ 100000) (hp : 1 ≤ v P 0 ∧ v P 0 ≤ 60) : mX11_stepsBy [b, l] S v = some (wdQ (v P 0) (v s 0) l, v) := by
  have e1 : w32 (v s 0 + l) = v s 0 + l := w32_e (by omega)
  have q0 := Int.ediv_nonneg hx.1 (show 0 ≤ v P 0 by omega)
  have q1 : v s 0 / v P 0 ≤ v s 0 := Int.ediv_le_self _ hx.1
  have q2 := Int.ediv_nonneg (show 0 ≤ v s 0 + l by clear e1; omega) (show 0 ≤ v P 0 by clear e1; omega)
  have q3 : (v s 0 + l) / v P 0 ≤ v s 0 + l := Int.ediv_le_self _ (by clear e1; omega)
  have e2 : w32 ((v s 0 + l) / v P 0 - v s 0 / v P 0) = (v s 0 + l) / v P 0 - v s 0 / v P 0 := by clear e1; exact w32_e (by omega)
  have hq := q_quo (S := S) (v := v) (x := v s 0 + l) (y := v P 0) (by clear e1 e2; omega) (by clear e1 e2; omega)
  unfold wdQ
  apply wM_eq
  simp only [mX11_stepsBy, sX11_stepsBy, wE_I, wE_V, wE_F, wE_A, wE_N, wE_1, wE_2, wE_D, wE_B, wE_If, wE_C, wE_CV, wE_SL, wE_SA, wA_0, wA_1, wC_B, wC_E, wC_And, wC_Or, wC_Not, wS_Skip, wS_Brk, wS_Cnt, wS_RetV, wS_Ret, wS_Seq, wS_Set, wS_Inc, wS_Do, wS_Put, wS_PutC, wS_Arr, wS_ArrC, wS_If, wS_Sw, wS_F0, wS_F1, wM_q, lu_ap, aL_ap, ct_0, ct_1, ct_2, ct_3, ct_4, ct_5, headD_1, List.mem_cons, List.not_mem_nil, or_false, false_or, or_true, true_or, true_and, and_true, false_and, and_false, not_true_eq_false, not_false_eq_true, if_true, if_false, nr_20, nr_24, nr_40, nr_41, nr_44, pt_lt, pt_ge, pt_eq, pt_ne, pt_gt, pt_le, pt_E, pt_N, pt_F, ite_10, ite_11, ne_eq, and_self, or_self, decide_true, decide_false, Bool.not_true, Bool.not_false, Bool.false_eq_true, Nat.reduceEqDiff, Nat.reduceAdd, Int.reduceEq, Int.reduceLT, Int.reduceLE, Int.reduceNeg, Int.reduceAdd, Int.reduceSub, Int.reduceMul, reduceCtorEq, iA, iS, iM, iD, iR, iN, lA, lS, lM, lD, lR, h.1.k, wM_of (q_now h), h.st.k, e1, h.2.1, h.pl.k, wM_of hq, wM_of (q_stepsOver h), e2]
theorem q_valueBy (h : RC S v b P s) {l m rt A : Int} {f : Int → Int} (hl : 1 ≤ l ∧ l ≤ 1000) (hx : 0 ≤ v s 0 ∧ v s 0 ≤ 100000) (hp : 1 ≤ v P 0 ∧ v P 0 ≤ 60) (hm : 0 ≤ m ∧ m < v P 1) (hrt : tv rt) (hM : HMm v (P + (9 + m)) (s + (4 + 6 * m)) f A (v s 0 % v P 0)) : mX11_valueBy [b, l, rt, m] S v = some (if wdQ (v P 0) (v s 0) l = 0 then f (A + 5) else if wdQ (v P 0) (v s 0) l = 1 then (if rt = -2147483648 then vlV (v P 0) (f (A + 6)) (f (A + 7)) else vlV (v P 0) (f (A + 6) + rt * (v P 0 - v s 0 % v P 0)) (f (A + 7) + (v P 0 - v s 0 % v P 0))) else rt, v) := by
  have hn4 := h.2.2.2.2.2.2.1
  have hm4 : 0 ≤ m ∧ m < 4 := by omega
  have hst := h.st
  have htm := hst.m m hm4.1 hm4.2
  obtain ⟨-, -, -, -, q5, q6, q7, -⟩ := hM
  have hsb := q_stepsBy h hl hx hp
  have hy0 := Int.emod_nonneg (v s 0) (show v P 0 ≠ 0 by omega)
  have hy1 := Int.emod_lt_of_pos (v s 0) (show 0 < v P 0 by omega)
  have hwq : 0 ≤ wdQ (v P 0) (v s 0) l := by
    unfold wdQ
    have := Int.ediv_le_ediv (show 0 < v P 0 by omega) (show v s 0 ≤ v s 0 + l by omega)
    omega
  have hrem := q_rem (S := S) (v := v) (x := v s 0) (y := v P 0) (by omega) (by omega)
  generalize hw : wdQ (v P 0) (v s 0) l = wq at *
  generalize hyy : v s 0 % v P 0 = y at *
  apply wM_eq
  by_cases c0 : wq = 0
  · simp only [mX11_valueBy, sX11_valueBy, wE_I, wE_V, wE_F, wE_A, wE_N, wE_1, wE_2, wE_D, wE_B, wE_If, wE_C, wE_CV, wE_SL, wE_SA, wA_0, wA_1, wC_B, wC_E, wC_And, wC_Or, wC_Not, wS_Skip, wS_Brk, wS_Cnt, wS_RetV, wS_Ret, wS_Seq, wS_Set, wS_Inc, wS_Do, wS_Put, wS_PutC, wS_Arr, wS_ArrC, wS_If, wS_Sw, wS_F0, wS_F1, wM_q, lu_ap, aL_ap, ct_0, ct_1, ct_2, ct_3, ct_4, ct_5, headD_1, List.mem_cons, List.not_mem_nil, or_false, false_or, or_true, true_or, true_and, and_true, false_and, and_false, not_true_eq_false, not_false_eq_true, if_true, if_false, nr_20, nr_24, nr_40, nr_41, nr_44, pt_lt, pt_ge, pt_eq, pt_ne, pt_gt, pt_le, pt_E, pt_N, pt_F, ite_10, ite_11, ne_eq, and_self, or_self, decide_true, decide_false, Bool.not_true, Bool.not_false, Bool.false_eq_true, Nat.reduceEqDiff, Nat.reduceAdd, Int.reduceEq, Int.reduceLT, Int.reduceLE, Int.reduceNeg, Int.reduceAdd, Int.reduceSub, Int.reduceMul, reduceCtorEq, iA, iS, iM, iD, iR, iN, lA, lS, lM, lD, lR, h.1.k, wM_of (q_now h), hst.k, hst.p2, hst.a1, hst.n1, hm4, hst.em m hm4.1 hm4.2, wM_of hsb, c0, htm, q5.1]
  · by_cases c1 : wq = 1
    · have n1 : ¬ 1 < wq := by omega
      by_cases cu : rt = -2147483648
      · have hv := q_valueOf (S := S) (v := v) (sm := v (s + (4 + 6 * m)) 7) (un := v (s + (4 + 6 * m)) 6) (stp := v P 0) (by omega) hp q7.2
        rw [q6.1, q7.1] at hv
        unfold vlV
        simp only [mX11_valueBy, sX11_valueBy, wE_I, wE_V, wE_F, wE_A, wE_N, wE_1, wE_2, wE_D, wE_B, wE_If, wE_C, wE_CV, wE_SL, wE_SA, wA_0, wA_1, wC_B, wC_E, wC_And, wC_Or, wC_Not, wS_Skip, wS_Brk, wS_Cnt, wS_RetV, wS_Ret, wS_Seq, wS_Set, wS_Inc, wS_Do, wS_Put, wS_PutC, wS_Arr, wS_ArrC, wS_If, wS_Sw, wS_F0, wS_F1, wM_q, lu_ap, aL_ap, ct_0, ct_1, ct_2, ct_3, ct_4, ct_5, headD_1, List.mem_cons, List.not_mem_nil, or_false, false_or, or_true, true_or, true_and, and_true, false_and, and_false, not_true_eq_false, not_false_eq_true, if_true, if_false, nr_20, nr_24, nr_40, nr_41, nr_44, pt_lt, pt_ge, pt_eq, pt_ne, pt_gt, pt_le, pt_E, pt_N, pt_F, ite_10, ite_11, ne_eq, and_self, or_self, decide_true, decide_false, Bool.not_true, Bool.not_false, Bool.false_eq_true, Nat.reduceEqDiff, Nat.reduceAdd, Int.reduceEq, Int.reduceLT, Int.reduceLE, Int.reduceNeg, Int.reduceAdd, Int.reduceSub, Int.reduceMul, reduceCtorEq, iA, iS, iM, iD, iR, iN, lA, lS, lM, lD, lR, h.1.k, wM_of (q_now h), hst.k, hst.p2, hst.a1, hst.n1, hm4, hst.em m hm4.1 hm4.2, wM_of hsb, c0, c1, n1, cu, htm, q6.1, q7.1, h.2.1, h.pl.k, wM_of hv]
      · have hrt2 : 0 ≤ rt ∧ rt ≤ 999999000 := by unfold tv at hrt; omega
        have b1 := Int.mul_le_mul_of_nonneg_right hrt2.2 (show 0 ≤ v P 0 - y by omega)
        have b2 := Int.mul_nonneg hrt2.1 (show 0 ≤ v P 0 - y by omega)
        have i1 : w32 (v P 0 - y) = v P 0 - y := w32_e (by omega)
        generalize hz : rt * (v P 0 - y) = z at *
        have i2 : w64 z = z := by clear i1; exact w64_e (by omega)
        have i3 : w64 (v (s + (4 + 6 * m)) 7 + z) = v (s + (4 + 6 * m)) 7 + z := by clear i1 i2; exact w64_e (by omega)
        have i4 : w32 (v (s + (4 + 6 * m)) 6 + (v P 0 - y)) = v (s + (4 + 6 * m)) 6 + (v P 0 - y) := by clear i1 i2 i3; exact w32_e (by omega)
        have hv := q_valueOf (S := S) (v := v) (sm := v (s + (4 + 6 * m)) 7 + z) (un := v (s + (4 + 6 * m)) 6 + (v P 0 - y)) (stp := v P 0) (by clear i1 i2 i3 i4; omega) hp (by clear i1 i2 i3 i4; omega)
        unfold vlV
        rw [← q6.1, ← q7.1]
        simp only [mX11_valueBy, sX11_valueBy, wE_I, wE_V, wE_F, wE_A, wE_N, wE_1, wE_2, wE_D, wE_B, wE_If, wE_C, wE_CV, wE_SL, wE_SA, wA_0, wA_1, wC_B, wC_E, wC_And, wC_Or, wC_Not, wS_Skip, wS_Brk, wS_Cnt, wS_RetV, wS_Ret, wS_Seq, wS_Set, wS_Inc, wS_Do, wS_Put, wS_PutC, wS_Arr, wS_ArrC, wS_If, wS_Sw, wS_F0, wS_F1, wM_q, lu_ap, aL_ap, ct_0, ct_1, ct_2, ct_3, ct_4, ct_5, headD_1, List.mem_cons, List.not_mem_nil, or_false, false_or, or_true, true_or, true_and, and_true, false_and, and_false, not_true_eq_false, not_false_eq_true, if_true, if_false, nr_20, nr_24, nr_40, nr_41, nr_44, pt_lt, pt_ge, pt_eq, pt_ne, pt_gt, pt_le, pt_E, pt_N, pt_F, ite_10, ite_11, ne_eq, and_self, or_self, decide_true, decide_false, Bool.not_true, Bool.not_false, Bool.false_eq_true, Nat.reduceEqDiff, Nat.reduceAdd, Int.reduceEq, Int.reduceLT, Int.reduceLE, Int.reduceNeg, Int.reduceAdd, Int.reduceSub, Int.reduceMul, reduceCtorEq, iA, iS, iM, iD, iR, iN, lA, lS, lM, lD, lR, h.1.k, wM_of (q_now h), hst.k, hst.p2, hst.a1, hst.n1, hm4, hst.em m hm4.1 hm4.2, wM_of hsb, c0, c1, n1, cu, htm, h.2.1, h.pl.k, wM_of hrem, i1, hz, i2, i3, i4, wM_of hv]
    · have n1 : 1 < wq := by omega
      simp only [mX11_valueBy, sX11_valueBy, wE_I, wE_V, wE_F, wE_A, wE_N, wE_1, wE_2, wE_D, wE_B, wE_If, wE_C, wE_CV, wE_SL, wE_SA, wA_0, wA_1, wC_B, wC_E, wC_And, wC_Or, wC_Not, wS_Skip, wS_Brk, wS_Cnt, wS_RetV, wS_Ret, wS_Seq, wS_Set, wS_Inc, wS_Do, wS_Put, wS_PutC, wS_Arr, wS_ArrC, wS_If, wS_Sw, wS_F0, wS_F1, wM_q, lu_ap, aL_ap, ct_0, ct_1, ct_2, ct_3, ct_4, ct_5, headD_1, List.mem_cons, List.not_mem_nil, or_false, false_or, or_true, true_or, true_and, and_true, false_and, and_false, not_true_eq_false, not_false_eq_true, if_true, if_false, nr_20, nr_24, nr_40, nr_41, nr_44, pt_lt, pt_ge, pt_eq, pt_ne, pt_gt, pt_le, pt_E, pt_N, pt_F, ite_10, ite_11, ne_eq, and_self, or_self, decide_true, decide_false, Bool.not_true, Bool.not_false, Bool.false_eq_true, Nat.reduceEqDiff, Nat.reduceAdd, Int.reduceEq, Int.reduceLT, Int.reduceLE, Int.reduceNeg, Int.reduceAdd, Int.reduceSub, Int.reduceMul, reduceCtorEq, iA, iS, iM, iD, iR, iN, lA, lS, lM, lD, lR, h.1.k, wM_of (q_now h), hst.k, hst.p2, hst.a1, hst.n1, hm4, hst.em m hm4.1 hm4.2, wM_of hsb, c0, c1, n1]
end WC
