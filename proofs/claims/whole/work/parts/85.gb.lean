/-! A ROW GATHERED: the reference's -/
def gathF (how per share g : Int) (f : Int → Int) : Int := if f (g + 5) = 0 ∨ share * per < 10 * f (g + 6) then -2147483648 else if how = 0 then f (g + 0) / f (g + 1) else if how = 1 then f (g + 2) else if how = 2 then f (g + 3) else f (g + 4)
section GB
variable {S : QS} {v w : QV} {b M P B s : Int} {f : Int → Int}
theorem m_gatheredBy (h : LMo S v M) (hB : v M 28 = B) (hB2 : B = 0 ∨ B = 1) {a m : Int} (ha : 0 ≤ a ∧ a < 4) (hm : 0 ≤ m ∧ m < 4) (hs : 0 ≤ v (M + 17) (4 * B + a) ∧ v (M + 17) (4 * B + a) ≤ 9) (hp : 1 ≤ v (M + 15) (4 * B + a) ∧ v (M + 15) (4 * B + a) ≤ 12) (hw0 : 0 ≤ v (M + 14) (4 * B + a) ∧ v (M + 14) (4 * B + a) ≤ 3)
    (h0 : 0 ≤ f (55 + 7 * (4 * a + m) + 0) ∧ f (55 + 7 * (4 * a + m) + 0) ≤ 1000000000000000) (h6 : 0 ≤ f (55 + 7 * (4 * a + m) + 6) ∧ f (55 + 7 * (4 * a + m) + 6) ≤ 1000) (h1 : ¬ f (55 + 7 * (4 * a + m) + 5) = 0 → 1 ≤ f (55 + 7 * (4 * a + m) + 1)) : mX12_gatheredBy [M, a, m] S (vf v (M + 1) f) = some (gathF (v (M + 14) (4 * B + a)) (v (M + 15) (4 * B + a)) (v (M + 17) (4 * B + a)) (55 + 7 * (4 * a + m)) f, vf v (M + 1) f) := by
  have hw := fun g => h.keep (Kp.vf h (f := g))
  have aG := fun j (q : 0 ≤ j ∧ j < 7) => m_atGather (S := S) (v := vf v (M + 1) f) ha hm q
  have qG := fun j (q : 0 ≤ j ∧ j < 7) => q_ga ha hm (j := j) q
  have hown := m_own (S := S) (v := vf v (M + 1) f) hB2 (show 0 ≤ a ∧ a ≤ 1000 by omega)
  have o1 : 0 ≤ 4 * B + a ∧ 4 * B + a < 8 := by omega
  have eB : vf v (M + 1) f M 28 = B := by rw [vf_ne (by omega)]; exact hB
  have e14 : vf v (M + 1) f (M + 14) (4 * B + a) = v (M + 14) (4 * B + a) := vf_ne (by omega)
  have e15 : vf v (M + 1) f (M + 15) (4 * B + a) = v (M + 15) (4 * B + a) := vf_ne (by omega)
  have e17 : vf v (M + 1) f (M + 17) (4 * B + a) = v (M + 17) (4 * B + a) := vf_ne (by omega)
  have r0 : 0 ≤ (0 : Int) ∧ (0 : Int) < 7 := by decide
  have r1 : 0 ≤ (1 : Int) ∧ (1 : Int) < 7 := by decide
  have r2 : 0 ≤ (2 : Int) ∧ (2 : Int) < 7 := by decide
  have r3 : 0 ≤ (3 : Int) ∧ (3 : Int) < 7 := by decide
  have r4 : 0 ≤ (4 : Int) ∧ (4 : Int) < 7 := by decide
  have r5 : 0 ≤ (5 : Int) ∧ (5 : Int) < 7 := by decide
  have r6 : 0 ≤ (6 : Int) ∧ (6 : Int) < 7 := by decide
  generalize hG : 55 + 7 * (4 * a + m) = g at *
  generalize v (M + 14) (4 * B + a) = how at *
  generalize v (M + 15) (4 * B + a) = per at *
  generalize v (M + 17) (4 * B + a) = share at *
  have b1 := Int.mul_le_mul hs.2 hp.2 (by omega) (by omega)
  have b2 : 0 ≤ share * per := Int.mul_nonneg hs.1 (by omega)
  have i1 : w64 (10 * f (g + 6)) = 10 * f (g + 6) := w64_e (by omega)
  have i2 : w32 (share * per) = share * per := by clear i1; exact w32_e (by omega)
  unfold gathF
  apply wM_eq
  by_cases c5 : f (g + 5) = 0
  · simp only [mX12_gatheredBy, sX12_gatheredBy, wE_I, wE_V, wE_F, wE_A, wE_N, wE_1, wE_2, wE_D, wE_B, wE_If, wE_C, wE_CV, wE_SL, wE_SA, wA_0, wA_1, wC_B, wC_E, wC_And, wC_Or, wC_Not, wS_Skip, wS_Brk, wS_Cnt, wS_RetV, wS_Ret, wS_Seq, wS_Set, wS_Inc, wS_Do, wS_Put, wS_PutC, wS_Arr, wS_ArrC, wS_If, wS_Sw, wS_F0, wS_F1, wM_q, lu_ap, aL_ap, ct_0, ct_1, ct_2, ct_3, ct_4, ct_5, headD_1, List.mem_cons, List.not_mem_nil, or_false, false_or, or_true, true_or, true_and, and_true, false_and, and_false, not_true_eq_false, not_false_eq_true, if_true, if_false, nr_20, nr_24, nr_40, nr_41, nr_44, pt_lt, pt_ge, pt_eq, pt_ne, pt_gt, pt_le, pt_E, pt_N, pt_F, ite_10, ite_11, ne_eq, and_self, or_self, decide_true, decide_false, Bool.not_true, Bool.not_false, Bool.false_eq_true, Nat.reduceEqDiff, Nat.reduceAdd, Int.reduceEq, Int.reduceLT, Int.reduceLE, Int.reduceNeg, Int.reduceAdd, Int.reduceSub, Int.reduceMul, reduceCtorEq, iA, iS, iM, iD, iR, iN, lA, lS, lM, lD, lR, h.k, (hw _).p0, h.a1, h.n1, vf_is, eB, wM_of hown, wM_of (aG _ r5), qG _ r5, c5]
  · have n1 : ¬ f (g + 1) = 0 := by have := h1 c5; clear i1 i2; omega
    have d0 := Int.ediv_nonneg h0.1 (show 0 ≤ f (g + 1) by have := h1 c5; clear i1 i2; omega)
    have d1 := Int.ediv_le_self (f (g + 1)) h0.1
    have i3 : w64 (f (g + 0) / f (g + 1)) = f (g + 0) / f (g + 1) := by clear i1 i2; exact w64_e (by omega)
    by_cases c6 : share * per < 10 * f (g + 6)
    · simp only [mX12_gatheredBy, sX12_gatheredBy, wE_I, wE_V, wE_F, wE_A, wE_N, wE_1, wE_2, wE_D, wE_B, wE_If, wE_C, wE_CV, wE_SL, wE_SA, wA_0, wA_1, wC_B, wC_E, wC_And, wC_Or, wC_Not, wS_Skip, wS_Brk, wS_Cnt, wS_RetV, wS_Ret, wS_Seq, wS_Set, wS_Inc, wS_Do, wS_Put, wS_PutC, wS_Arr, wS_ArrC, wS_If, wS_Sw, wS_F0, wS_F1, wM_q, lu_ap, aL_ap, ct_0, ct_1, ct_2, ct_3, ct_4, ct_5, headD_1, List.mem_cons, List.not_mem_nil, or_false, false_or, or_true, true_or, true_and, and_true, false_and, and_false, not_true_eq_false, not_false_eq_true, if_true, if_false, nr_20, nr_24, nr_40, nr_41, nr_44, pt_lt, pt_ge, pt_eq, pt_ne, pt_gt, pt_le, pt_E, pt_N, pt_F, ite_10, ite_11, ne_eq, and_self, or_self, decide_true, decide_false, Bool.not_true, Bool.not_false, Bool.false_eq_true, Nat.reduceEqDiff, Nat.reduceAdd, Int.reduceEq, Int.reduceLT, Int.reduceLE, Int.reduceNeg, Int.reduceAdd, Int.reduceSub, Int.reduceMul, reduceCtorEq, iA, iS, iM, iD, iR, iN, lA, lS, lM, lD, lR, h.k, (hw _).p0, h.a1, h.n1, (hw _).p13, h.a14, h.n14, (hw _).p14, h.a15, h.n15, (hw _).p16, h.a17, h.n17, vf_is, eB, e14, e15, e17, o1, wM_of hown, wM_of (aG _ r5), qG _ r5, wM_of (aG _ r6), qG _ r6, c5, i1, i2, c6]
    · have hh : how = 0 ∨ how = 1 ∨ how = 2 ∨ how = 3 := by clear i1 i2 i3; omega
      rcases hh with rfl | rfl | rfl | rfl <;>
        simp only [mX12_gatheredBy, sX12_gatheredBy, wE_I, wE_V, wE_F, wE_A, wE_N, wE_1, wE_2, wE_D, wE_B, wE_If, wE_C, wE_CV, wE_SL, wE_SA, wA_0, wA_1, wC_B, wC_E, wC_And, wC_Or, wC_Not, wS_Skip, wS_Brk, wS_Cnt, wS_RetV, wS_Ret, wS_Seq, wS_Set, wS_Inc, wS_Do, wS_Put, wS_PutC, wS_Arr, wS_ArrC, wS_If, wS_Sw, wS_F0, wS_F1, wM_q, lu_ap, aL_ap, ct_0, ct_1, ct_2, ct_3, ct_4, ct_5, headD_1, List.mem_cons, List.not_mem_nil, or_false, false_or, or_true, true_or, true_and, and_true, false_and, and_false, not_true_eq_false, not_false_eq_true, if_true, if_false, nr_20, nr_24, nr_40, nr_41, nr_44, pt_lt, pt_ge, pt_eq, pt_ne, pt_gt, pt_le, pt_E, pt_N, pt_F, ite_10, ite_11, ne_eq, and_self, or_self, decide_true, decide_false, Bool.not_true, Bool.not_false, Bool.false_eq_true, Nat.reduceEqDiff, Nat.reduceAdd, Int.reduceEq, Int.reduceLT, Int.reduceLE, Int.reduceNeg, Int.reduceAdd, Int.reduceSub, Int.reduceMul, reduceCtorEq, iA, iS, iM, iD, iR, iN, lA, lS, lM, lD, lR, h.k, (hw _).p0, h.a1, h.n1, (hw _).p13, h.a14, h.n14, (hw _).p14, h.a15, h.n15, (hw _).p16, h.a17, h.n17, vf_is, eB, e14, e15, e17, o1, wM_of hown, wM_of (aG _ r0), qG _ r0, wM_of (aG _ r1), qG _ r1, wM_of (aG _ r2), qG _ r2, wM_of (aG _ r3), qG _ r3, wM_of (aG _ r4), qG _ r4, wM_of (aG _ r5), qG _ r5, wM_of (aG _ r6), qG _ r6, c5, i1, i2, c6, tdiv_n h0.1, i3, n1]
end GB
