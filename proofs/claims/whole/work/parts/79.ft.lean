/-! FITS: both held together -/
/-- the least number from one to another that is, with more added, from low to high -/
def lw (from_ to_ more low high : Int) : Int := if (if from_ < low - more then low - more else from_) ≤ to_ ∧ (if from_ < low - more then low - more else from_) + more ≤ high then (if from_ < low - more then low - more else from_) else -1
theorem div_ge {x y d : Int} (hd : 0 < d) : y ≤ x / d ↔ y * d ≤ x := Int.le_ediv_iff_mul_le hd
theorem enough_iff {w lea sp : Int} (hs : 0 < sp) : 1000 * lea ≤ 1000 * w / sp ↔ lea * sp ≤ w := by
  rw [div_ge hs, Int.mul_assoc]
  omega
theorem most_iff {w mos sp : Int} (hs : 1 ≤ sp ∧ sp ≤ 1000) : 1000 * w / sp ≤ 1000 * mos ↔ w ≤ mos * sp := by
  have h : 1000 * w / sp ≤ 1000 * mos ↔ ¬ (1000 * mos + 1 ≤ 1000 * w / sp) := by omega
  rw [h, div_ge (by omega)]
  have e : (1000 * mos + 1) * sp = 1000 * (mos * sp) + sp := by rw [Int.add_mul, Int.mul_assoc, Int.one_mul]
  rw [e]
  omega
section FT
variable {S : QS} {v w : QV} {b M P B s : Int}
theorem q_leastWithin {f t more low high : Int} (hf : 0 ≤ f ∧ f ≤ 2000000) (ht : -2000000 ≤ t ∧ t ≤ 2000000) (hm : -2000000 ≤ more ∧ more ≤ 2000000) (hl : 0 ≤ low ∧ low ≤ 999999000) (hh : 0 ≤ high ∧ high ≤ 999999000) : mX3_leastWithin [f, t, more, low, high] S v = some (lw f t more low high, v) := by
  have e1 : w64 (low - more) = low - more := w64_e (by omega)
  apply wM_eq
  -- Math.max of longs
  simp only [mX3_leastWithin, sX3_leastWithin, wE_I, wE_V, wE_F, wE_A, wE_N, wE_1, wE_2, wE_D, wE_B, wE_If, wE_C, wE_CV, wE_SL, wE_SA, wA_0, wA_1, wC_B, wC_E, wC_And, wC_Or, wC_Not, wS_Skip, wS_Brk, wS_Cnt, wS_RetV, wS_Ret, wS_Seq, wS_Set, wS_Inc, wS_Do, wS_Put, wS_PutC, wS_Arr, wS_ArrC, wS_If, wS_Sw, wS_F0, wS_F1, wM_q, lu_ap, aL_ap, ct_0, ct_1, ct_2, ct_3, ct_4, ct_5, headD_1, List.mem_cons, List.not_mem_nil, or_false, false_or, or_true, true_or, true_and, and_true, false_and, and_false, not_true_eq_false, not_false_eq_true, if_true, if_false, nr_20, nr_24, nr_40, nr_41, nr_44, pt_lt, pt_ge, pt_eq, pt_ne, pt_gt, pt_le, pt_E, pt_N, pt_F, ite_10, ite_11, ne_eq, and_self, or_self, decide_true, decide_false, Bool.not_true, Bool.not_false, Bool.false_eq_true, Nat.reduceEqDiff, Nat.reduceAdd, Int.reduceEq, Int.reduceLT, Int.reduceLE, Int.reduceNeg, Int.reduceAdd, Int.reduceSub, Int.reduceMul, reduceCtorEq, iA, iS, iM, iD, iR, iN, lA, lS, lM, lD, lR, e1, iMax]
  clear e1
  unfold lw
  generalize hN : (if f < low - more then low - more else f) = N
  have hNb : 0 ≤ N ∧ N ≤ 1002000000 := by rw [← hN]; split <;> omega
  have e2 : w64 (N + more) = N + more := w64_e (by omega)
  have e3 : N ≤ t → w32 N = N := fun q => by clear e2; exact w32_e (by omega)
  simp only [e2]
  clear e2
  by_cases q1 : N ≤ t
  · have e4 := e3 q1
    clear e3
    by_cases q2 : N + more ≤ high
    · simp only [q1, q2, e4, wE_I, wE_V, wE_F, wE_A, wE_N, wE_1, wE_2, wE_D, wE_B, wE_If, wE_C, wE_CV, wE_SL, wE_SA, wA_0, wA_1, wC_B, wC_E, wC_And, wC_Or, wC_Not, wS_Skip, wS_Brk, wS_Cnt, wS_RetV, wS_Ret, wS_Seq, wS_Set, wS_Inc, wS_Do, wS_Put, wS_PutC, wS_Arr, wS_ArrC, wS_If, wS_Sw, wS_F0, wS_F1, wM_q, lu_ap, aL_ap, ct_0, ct_1, ct_2, ct_3, ct_4, ct_5, headD_1, List.mem_cons, List.not_mem_nil, or_false, false_or, or_true, true_or, true_and, and_true, false_and, and_false, not_true_eq_false, not_false_eq_true, if_true, if_false, nr_20, nr_24, nr_40, nr_41, nr_44, pt_lt, pt_ge, pt_eq, pt_ne, pt_gt, pt_le, pt_E, pt_N, pt_F, ite_10, ite_11, ne_eq, and_self, or_self, decide_true, decide_false, Bool.not_true, Bool.not_false, Bool.false_eq_true, Nat.reduceEqDiff, Nat.reduceAdd, Int.reduceEq, Int.reduceLT, Int.reduceLE, Int.reduceNeg, Int.reduceAdd, Int.reduceSub, Int.reduceMul, reduceCtorEq]
    · simp only [q1, q2, wE_I, wE_V, wE_F, wE_A, wE_N, wE_1, wE_2, wE_D, wE_B, wE_If, wE_C, wE_CV, wE_SL, wE_SA, wA_0, wA_1, wC_B, wC_E, wC_And, wC_Or, wC_Not, wS_Skip, wS_Brk, wS_Cnt, wS_RetV, wS_Ret, wS_Seq, wS_Set, wS_Inc, wS_Do, wS_Put, wS_PutC, wS_Arr, wS_ArrC, wS_If, wS_Sw, wS_F0, wS_F1, wM_q, lu_ap, aL_ap, ct_0, ct_1, ct_2, ct_3, ct_4, ct_5, headD_1, List.mem_cons, List.not_mem_nil, or_false, false_or, or_true, true_or, true_and, and_true, false_and, and_false, not_true_eq_false, not_false_eq_true, if_true, if_false, nr_20, nr_24, nr_40, nr_41, nr_44, pt_lt, pt_ge, pt_eq, pt_ne, pt_gt, pt_le, pt_E, pt_N, pt_F, ite_10, ite_11, ne_eq, and_self, or_self, decide_true, decide_false, Bool.not_true, Bool.not_false, Bool.false_eq_true, Nat.reduceEqDiff, Nat.reduceAdd, Int.reduceEq, Int.reduceLT, Int.reduceLE, Int.reduceNeg, Int.reduceAdd, Int.reduceSub, Int.reduceMul, reduceCtorEq]
  · simp only [q1, wE_I, wE_V, wE_F, wE_A, wE_N, wE_1, wE_2, wE_D, wE_B, wE_If, wE_C, wE_CV, wE_SL, wE_SA, wA_0, wA_1, wC_B, wC_E, wC_And, wC_Or, wC_Not, wS_Skip, wS_Brk, wS_Cnt, wS_RetV, wS_Ret, wS_Seq, wS_Set, wS_Inc, wS_Do, wS_Put, wS_PutC, wS_Arr, wS_ArrC, wS_If, wS_Sw, wS_F0, wS_F1, wM_q, lu_ap, aL_ap, ct_0, ct_1, ct_2, ct_3, ct_4, ct_5, headD_1, List.mem_cons, List.not_mem_nil, or_false, false_or, or_true, true_or, true_and, and_true, false_and, and_false, not_true_eq_false, not_false_eq_true, if_true, if_false, nr_20, nr_24, nr_40, nr_41, nr_44, pt_lt, pt_ge, pt_eq, pt_ne, pt_gt, pt_le, pt_E, pt_N, pt_F, ite_10, ite_11, ne_eq, and_self, or_self, decide_true, decide_false, Bool.not_true, Bool.not_false, Bool.false_eq_true, Nat.reduceEqDiff, Nat.reduceAdd, Int.reduceEq, Int.reduceLT, Int.reduceLE, Int.reduceNeg, Int.reduceAdd, Int.reduceSub, Int.reduceMul, reduceCtorEq]
theorem q_leastFit {t p span : Int} (ht : S.1 t = 4) (hp : S.1 p = 3) (hr : rOk (v t 1) (v t 2) (v p 0) (v t 3) (v p 1) (v p 2) span) : mX3_leastFit [t, p, span] S v = some (if span ≤ v t 0 then (if v p 0 = 0 then v t 1 else if v p 0 = 1 then (if v t 1 * span ≤ 999999 then v t 1 * span else -1) else if v t 3 = -1 then -1 else
    (if lw 0 (v t 3 - p2 (v p 1) - 1) (p2 (v p 2) - v t 3) (v t 1 * span) (v t 2 * span) = -1 then
      (if lw (if 0 < v t 3 - p2 (v p 1) then v t 3 - p2 (v p 1) else 0) (v t 3 - 1) (p2 (v p 1) - v t 3) (v t 1 * span) (v t 2 * span) = -1 then
        lw (v t 3) (if p2 (v p 2) - 1 < 999999 then p2 (v p 2) - 1 else 999999) (-(v t 3)) (v t 1 * span) (v t 2 * span)
      else lw (if 0 < v t 3 - p2 (v p 1) then v t 3 - p2 (v p 1) else 0) (v t 3 - 1) (p2 (v p 1) - v t 3) (v t 1 * span) (v t 2 * span))
    else lw 0 (v t 3 - p2 (v p 1) - 1) (p2 (v p 2) - v t 3) (v t 1 * span) (v t 2 * span))) else -1, v) := by
  obtain ⟨r1, r2, r3, r4, r5⟩ := hr
  apply wM_eq
  by_cases hsp : span ≤ v t 0
  · have hsp' : ¬ v t 0 < span := by omega
    have l0 : 0 ≤ v t 1 * span := Int.mul_nonneg (by omega) (by omega)
    have l1 : v t 1 * span ≤ 999999 * 1000 := Int.mul_le_mul (by omega) (by omega) (by omega) (by omega)
    have m0 : 0 ≤ v t 2 * span := Int.mul_nonneg (by omega) (by omega)
    have m1 : v t 2 * span ≤ 999999 * 1000 := Int.mul_le_mul (by omega) (by omega) (by omega) (by omega)
    have e1 : w64 (v t 1 * span) = v t 1 * span := w64_e (by omega)
    have e2 : w64 (v t 2 * span) = v t 2 * span := by clear e1; exact w64_e (by omega)
    by_cases h0 : v p 0 = 0
    · simp only [mX3_leastFit, sX3_leastFit, wE_I, wE_V, wE_F, wE_A, wE_N, wE_1, wE_2, wE_D, wE_B, wE_If, wE_C, wE_CV, wE_SL, wE_SA, wA_0, wA_1, wC_B, wC_E, wC_And, wC_Or, wC_Not, wS_Skip, wS_Brk, wS_Cnt, wS_RetV, wS_Ret, wS_Seq, wS_Set, wS_Inc, wS_Do, wS_Put, wS_PutC, wS_Arr, wS_ArrC, wS_If, wS_Sw, wS_F0, wS_F1, wM_q, lu_ap, aL_ap, ct_0, ct_1, ct_2, ct_3, ct_4, ct_5, headD_1, List.mem_cons, List.not_mem_nil, or_false, false_or, or_true, true_or, true_and, and_true, false_and, and_false, not_true_eq_false, not_false_eq_true, if_true, if_false, nr_20, nr_24, nr_40, nr_41, nr_44, pt_lt, pt_ge, pt_eq, pt_ne, pt_gt, pt_le, pt_E, pt_N, pt_F, ite_10, ite_11, ne_eq, and_self, or_self, decide_true, decide_false, Bool.not_true, Bool.not_false, Bool.false_eq_true, Nat.reduceEqDiff, Nat.reduceAdd, Int.reduceEq, Int.reduceLT, Int.reduceLE, Int.reduceNeg, Int.reduceAdd, Int.reduceSub, Int.reduceMul, reduceCtorEq, iA, iS, iM, iD, iR, iN, lA, lS, lM, lD, lR, ht, hp, hsp', hsp, h0]
    · by_cases h1 : v p 0 = 1
      · have z1 : ¬ (1 : Int) = 0 := by decide
        by_cases q : v t 1 * span ≤ 999999
        · have e3 : w32 (v t 1 * span) = v t 1 * span := by clear e1 e2; exact w32_e (by omega)
          simp only [mX3_leastFit, sX3_leastFit, wE_I, wE_V, wE_F, wE_A, wE_N, wE_1, wE_2, wE_D, wE_B, wE_If, wE_C, wE_CV, wE_SL, wE_SA, wA_0, wA_1, wC_B, wC_E, wC_And, wC_Or, wC_Not, wS_Skip, wS_Brk, wS_Cnt, wS_RetV, wS_Ret, wS_Seq, wS_Set, wS_Inc, wS_Do, wS_Put, wS_PutC, wS_Arr, wS_ArrC, wS_If, wS_Sw, wS_F0, wS_F1, wM_q, lu_ap, aL_ap, ct_0, ct_1, ct_2, ct_3, ct_4, ct_5, headD_1, List.mem_cons, List.not_mem_nil, or_false, false_or, or_true, true_or, true_and, and_true, false_and, and_false, not_true_eq_false, not_false_eq_true, if_true, if_false, nr_20, nr_24, nr_40, nr_41, nr_44, pt_lt, pt_ge, pt_eq, pt_ne, pt_gt, pt_le, pt_E, pt_N, pt_F, ite_10, ite_11, ne_eq, and_self, or_self, decide_true, decide_false, Bool.not_true, Bool.not_false, Bool.false_eq_true, Nat.reduceEqDiff, Nat.reduceAdd, Int.reduceEq, Int.reduceLT, Int.reduceLE, Int.reduceNeg, Int.reduceAdd, Int.reduceSub, Int.reduceMul, reduceCtorEq, iA, iS, iM, iD, iR, iN, lA, lS, lM, lD, lR, ht, hp, hsp', hsp, h1, z1, e1, q, e3]
        · simp only [mX3_leastFit, sX3_leastFit, wE_I, wE_V, wE_F, wE_A, wE_N, wE_1, wE_2, wE_D, wE_B, wE_If, wE_C, wE_CV, wE_SL, wE_SA, wA_0, wA_1, wC_B, wC_E, wC_And, wC_Or, wC_Not, wS_Skip, wS_Brk, wS_Cnt, wS_RetV, wS_Ret, wS_Seq, wS_Set, wS_Inc, wS_Do, wS_Put, wS_PutC, wS_Arr, wS_ArrC, wS_If, wS_Sw, wS_F0, wS_F1, wM_q, lu_ap, aL_ap, ct_0, ct_1, ct_2, ct_3, ct_4, ct_5, headD_1, List.mem_cons, List.not_mem_nil, or_false, false_or, or_true, true_or, true_and, and_true, false_and, and_false, not_true_eq_false, not_false_eq_true, if_true, if_false, nr_20, nr_24, nr_40, nr_41, nr_44, pt_lt, pt_ge, pt_eq, pt_ne, pt_gt, pt_le, pt_E, pt_N, pt_F, ite_10, ite_11, ne_eq, and_self, or_self, decide_true, decide_false, Bool.not_true, Bool.not_false, Bool.false_eq_true, Nat.reduceEqDiff, Nat.reduceAdd, Int.reduceEq, Int.reduceLT, Int.reduceLE, Int.reduceNeg, Int.reduceAdd, Int.reduceSub, Int.reduceMul, reduceCtorEq, iA, iS, iM, iD, iR, iN, lA, lS, lM, lD, lR, ht, hp, hsp', hsp, h1, z1, e1, q]
      · have h2 : v p 0 = 2 := by clear e1 e2; omega
        have r4' := r4 h2
        have z0 : ¬ (2 : Int) = 0 := by decide
        have z1 : ¬ (2 : Int) = 1 := by decide
        by_cases hl : v t 3 = -1
        · simp only [mX3_leastFit, sX3_leastFit, wE_I, wE_V, wE_F, wE_A, wE_N, wE_1, wE_2, wE_D, wE_B, wE_If, wE_C, wE_CV, wE_SL, wE_SA, wA_0, wA_1, wC_B, wC_E, wC_And, wC_Or, wC_Not, wS_Skip, wS_Brk, wS_Cnt, wS_RetV, wS_Ret, wS_Seq, wS_Set, wS_Inc, wS_Do, wS_Put, wS_PutC, wS_Arr, wS_ArrC, wS_If, wS_Sw, wS_F0, wS_F1, wM_q, lu_ap, aL_ap, ct_0, ct_1, ct_2, ct_3, ct_4, ct_5, headD_1, List.mem_cons, List.not_mem_nil, or_false, false_or, or_true, true_or, true_and, and_true, false_and, and_false, not_true_eq_false, not_false_eq_true, if_true, if_false, nr_20, nr_24, nr_40, nr_41, nr_44, pt_lt, pt_ge, pt_eq, pt_ne, pt_gt, pt_le, pt_E, pt_N, pt_F, ite_10, ite_11, ne_eq, and_self, or_self, decide_true, decide_false, Bool.not_true, Bool.not_false, Bool.false_eq_true, Nat.reduceEqDiff, Nat.reduceAdd, Int.reduceEq, Int.reduceLT, Int.reduceLE, Int.reduceNeg, Int.reduceAdd, Int.reduceSub, Int.reduceMul, reduceCtorEq, iA, iS, iM, iD, iR, iN, lA, lS, lM, lD, lR, ht, hp, hsp', hsp, h2, z0, z1, e1, hl]
        · have k1 : 4 ≤ v p 1 ∧ v p 1 ≤ 20 := by clear e1 e2; omega
          have k2 : 4 ≤ v p 2 ∧ v p 2 ≤ 20 := by clear e1 e2; omega
          have b1 := p2_b k1
          have b2 := p2_b k2
          have hl0 : 0 ≤ v t 3 := by clear e1 e2; omega
          have hnm := q_numberMost (S := S) (v := v) hp (fun _ => k2)
          rw [if_pos h2] at hnm
          generalize hx : p2 (v p 1) = x at *
          generalize hy : p2 (v p 2) = y at *
          generalize hL : v t 1 * span = lo at *
          generalize hH : v t 2 * span = hi at *
          generalize hla : v t 3 = la at *
          have f1 : w32 (w32 (la - x) - 1) = la - x - 1 := by clear e1 e2; rw [w32_e (z := la - x) (by omega)]; exact w32_e (by omega)
          have f2 : w32 (y - la) = y - la := by clear e1 e2 f1; exact w32_e (by omega)
          have f3 : iMax 0 (w32 (la - x)) = if 0 < la - x then la - x else 0 := by clear e1 e2 f1 f2; rw [w32_e (z := la - x) (by omega)]; rfl
          have f4 : w32 (la - 1) = la - 1 := by clear e1 e2 f1 f2 f3; exact w32_e (by omega)
          have f5 : w32 (x - la) = x - la := by clear e1 e2 f1 f2 f3 f4; exact w32_e (by omega)
          have f6 : w32 (-la) = -la := by clear e1 e2 f1 f2 f3 f4 f5; exact w32_e (by omega)
          have g1 := q_leastWithin (S := S) (v := v) (f := 0) (t := la - x - 1) (more := y - la) (low := lo) (high := hi) (by decide) (by clear e1 e2 f1 f2 f3 f4 f5 f6; omega) (by clear e1 e2 f1 f2 f3 f4 f5 f6; omega) (by clear e1 e2 f1 f2 f3 f4 f5 f6; omega) (by clear e1 e2 f1 f2 f3 f4 f5 f6; omega)
          have g2 := q_leastWithin (S := S) (v := v) (f := if 0 < la - x then la - x else 0) (t := la - 1) (more := x - la) (low := lo) (high := hi) (by clear e1 e2 f1 f2 f3 f4 f5 f6; split <;> omega) (by clear e1 e2 f1 f2 f3 f4 f5 f6; omega) (by clear e1 e2 f1 f2 f3 f4 f5 f6; omega) (by clear e1 e2 f1 f2 f3 f4 f5 f6; omega) (by clear e1 e2 f1 f2 f3 f4 f5 f6; omega)
          have g3 := q_leastWithin (S := S) (v := v) (f := la) (t := if y - 1 < 999999 then y - 1 else 999999) (more := -la) (low := lo) (high := hi) (by clear e1 e2 f1 f2 f3 f4 f5 f6; omega) (by clear e1 e2 f1 f2 f3 f4 f5 f6; split <;> omega) (by clear e1 e2 f1 f2 f3 f4 f5 f6; omega) (by clear e1 e2 f1 f2 f3 f4 f5 f6; omega) (by clear e1 e2 f1 f2 f3 f4 f5 f6; omega)
          simp only [mX3_leastFit, sX3_leastFit, mX3_leastCount, sX3_leastCount, wE_I, wE_V, wE_F, wE_A, wE_N, wE_1, wE_2, wE_D, wE_B, wE_If, wE_C, wE_CV, wE_SL, wE_SA, wA_0, wA_1, wC_B, wC_E, wC_And, wC_Or, wC_Not, wS_Skip, wS_Brk, wS_Cnt, wS_RetV, wS_Ret, wS_Seq, wS_Set, wS_Inc, wS_Do, wS_Put, wS_PutC, wS_Arr, wS_ArrC, wS_If, wS_Sw, wS_F0, wS_F1, wM_q, lu_ap, aL_ap, ct_0, ct_1, ct_2, ct_3, ct_4, ct_5, headD_1, List.mem_cons, List.not_mem_nil, or_false, false_or, or_true, true_or, true_and, and_true, false_and, and_false, not_true_eq_false, not_false_eq_true, if_true, if_false, nr_20, nr_24, nr_40, nr_41, nr_44, pt_lt, pt_ge, pt_eq, pt_ne, pt_gt, pt_le, pt_E, pt_N, pt_F, ite_10, ite_11, ne_eq, and_self, or_self, decide_true, decide_false, Bool.not_true, Bool.not_false, Bool.false_eq_true, Nat.reduceEqDiff, Nat.reduceAdd, Int.reduceEq, Int.reduceLT, Int.reduceLE, Int.reduceNeg, Int.reduceAdd, Int.reduceSub, Int.reduceMul, reduceCtorEq, iA, iS, iM, iD, iR, iN, lA, lS, lM, lD, lR, ht, hp, hsp', hsp, h2, z0, z1, e1, e2, hL, hH, hla, hl, iSh_p k1, iSh_p k2, hx, hy, f1, f2, f3, f4, f5, f6, wM_of g1, wM_of g2, wM_of g3, wM_of hnm]
          clear e1 e2 f1 f2 f3 f4 f5 f6
          by_cases w1 : lw 0 (la - x - 1) (y - la) lo hi = -1
          · by_cases w2 : lw (if 0 < la - x then la - x else 0) (la - 1) (x - la) lo hi = -1
            · simp only [w1, w2, wE_I, wE_V, wE_F, wE_A, wE_N, wE_1, wE_2, wE_D, wE_B, wE_If, wE_C, wE_CV, wE_SL, wE_SA, wA_0, wA_1, wC_B, wC_E, wC_And, wC_Or, wC_Not, wS_Skip, wS_Brk, wS_Cnt, wS_RetV, wS_Ret, wS_Seq, wS_Set, wS_Inc, wS_Do, wS_Put, wS_PutC, wS_Arr, wS_ArrC, wS_If, wS_Sw, wS_F0, wS_F1, wM_q, lu_ap, aL_ap, ct_0, ct_1, ct_2, ct_3, ct_4, ct_5, headD_1, List.mem_cons, List.not_mem_nil, or_false, false_or, or_true, true_or, true_and, and_true, false_and, and_false, not_true_eq_false, not_false_eq_true, if_true, if_false, nr_20, nr_24, nr_40, nr_41, nr_44, pt_lt, pt_ge, pt_eq, pt_ne, pt_gt, pt_le, pt_E, pt_N, pt_F, ite_10, ite_11, ne_eq, and_self, or_self, decide_true, decide_false, Bool.not_true, Bool.not_false, Bool.false_eq_true, Nat.reduceEqDiff, Nat.reduceAdd, Int.reduceEq, Int.reduceLT, Int.reduceLE, Int.reduceNeg, Int.reduceAdd, Int.reduceSub, Int.reduceMul, reduceCtorEq]
            · simp only [w1, w2, wE_I, wE_V, wE_F, wE_A, wE_N, wE_1, wE_2, wE_D, wE_B, wE_If, wE_C, wE_CV, wE_SL, wE_SA, wA_0, wA_1, wC_B, wC_E, wC_And, wC_Or, wC_Not, wS_Skip, wS_Brk, wS_Cnt, wS_RetV, wS_Ret, wS_Seq, wS_Set, wS_Inc, wS_Do, wS_Put, wS_PutC, wS_Arr, wS_ArrC, wS_If, wS_Sw, wS_F0, wS_F1, wM_q, lu_ap, aL_ap, ct_0, ct_1, ct_2, ct_3, ct_4, ct_5, headD_1, List.mem_cons, List.not_mem_nil, or_false, false_or, or_true, true_or, true_and, and_true, false_and, and_false, not_true_eq_false, not_false_eq_true, if_true, if_false, nr_20, nr_24, nr_40, nr_41, nr_44, pt_lt, pt_ge, pt_eq, pt_ne, pt_gt, pt_le, pt_E, pt_N, pt_F, ite_10, ite_11, ne_eq, and_self, or_self, decide_true, decide_false, Bool.not_true, Bool.not_false, Bool.false_eq_true, Nat.reduceEqDiff, Nat.reduceAdd, Int.reduceEq, Int.reduceLT, Int.reduceLE, Int.reduceNeg, Int.reduceAdd, Int.reduceSub, Int.reduceMul, reduceCtorEq]
          · simp only [w1, wE_I, wE_V, wE_F, wE_A, wE_N, wE_1, wE_2, wE_D, wE_B, wE_If, wE_C, wE_CV, wE_SL, wE_SA, wA_0, wA_1, wC_B, wC_E, wC_And, wC_Or, wC_Not, wS_Skip, wS_Brk, wS_Cnt, wS_RetV, wS_Ret, wS_Seq, wS_Set, wS_Inc, wS_Do, wS_Put, wS_PutC, wS_Arr, wS_ArrC, wS_If, wS_Sw, wS_F0, wS_F1, wM_q, lu_ap, aL_ap, ct_0, ct_1, ct_2, ct_3, ct_4, ct_5, headD_1, List.mem_cons, List.not_mem_nil, or_false, false_or, or_true, true_or, true_and, and_true, false_and, and_false, not_true_eq_false, not_false_eq_true, if_true, if_false, nr_20, nr_24, nr_40, nr_41, nr_44, pt_lt, pt_ge, pt_eq, pt_ne, pt_gt, pt_le, pt_E, pt_N, pt_F, ite_10, ite_11, ne_eq, and_self, or_self, decide_true, decide_false, Bool.not_true, Bool.not_false, Bool.false_eq_true, Nat.reduceEqDiff, Nat.reduceAdd, Int.reduceEq, Int.reduceLT, Int.reduceLE, Int.reduceNeg, Int.reduceAdd, Int.reduceSub, Int.reduceMul, reduceCtorEq]
  · have hsp' : v t 0 < span := by omega
    simp only [mX3_leastFit, sX3_leastFit, wE_I, wE_V, wE_F, wE_A, wE_N, wE_1, wE_2, wE_D, wE_B, wE_If, wE_C, wE_CV, wE_SL, wE_SA, wA_0, wA_1, wC_B, wC_E, wC_And, wC_Or, wC_Not, wS_Skip, wS_Brk, wS_Cnt, wS_RetV, wS_Ret, wS_Seq, wS_Set, wS_Inc, wS_Do, wS_Put, wS_PutC, wS_Arr, wS_ArrC, wS_If, wS_Sw, wS_F0, wS_F1, wM_q, lu_ap, aL_ap, ct_0, ct_1, ct_2, ct_3, ct_4, ct_5, headD_1, List.mem_cons, List.not_mem_nil, or_false, false_or, or_true, true_or, true_and, and_true, false_and, and_false, not_true_eq_false, not_false_eq_true, if_true, if_false, nr_20, nr_24, nr_40, nr_41, nr_44, pt_lt, pt_ge, pt_eq, pt_ne, pt_gt, pt_le, pt_E, pt_N, pt_F, ite_10, ite_11, ne_eq, and_self, or_self, decide_true, decide_false, Bool.not_true, Bool.not_false, Bool.false_eq_true, Nat.reduceEqDiff, Nat.reduceAdd, Int.reduceEq, Int.reduceLT, Int.reduceLE, Int.reduceNeg, Int.reduceAdd, Int.reduceSub, Int.reduceMul, reduceCtorEq, iA, iS, iM, iD, iR, iN, lA, lS, lM, lD, lR, ht, hp, hsp', hsp]
theorem m_isEnough (h : RM S v M B) {m n span : Int} (hm : 0 ≤ m ∧ m < 4) (hn : 0 ≤ n ∧ n ≤ 999999) (hr : rOk (v (M + 1) (3 + 12 * m + 1)) (v (M + 1) (3 + 12 * m + 2)) (v (M + 8) (4 * B + m)) (v (M + 1) (3 + 12 * m + 3)) (v (M + 9) (4 * B + m)) (v (M + 10) (4 * B + m)) span) (h2 : v (M + 8) (4 * B + m) = 2 → 0 ≤ v (M + 1) (3 + 12 * m + 3) ∧ n < p2 (v (M + 10) (4 * B + m))) : mX12_isEnough [M, m, span, n] S v = some (if 1000 * v (M + 1) (3 + 12 * m + 1) ≤ rI_ (v (M + 8) (4 * B + m)) (v (M + 1) (3 + 12 * m + 3)) (v (M + 9) (4 * B + m)) (v (M + 10) (4 * B + m)) span n then 1 else 0, v) := by
  have hB := h.B2
  obtain ⟨r1, r2, r3, r4, r5⟩ := hr
  have o1 : 0 ≤ 4 * B + m ∧ 4 * B + m < 8 := by omega
  have q1 : 0 ≤ 3 + 12 * m + 1 ∧ 3 + 12 * m + 1 < 1095 := by omega
  have q3 : 0 ≤ 3 + 12 * m + 3 ∧ 3 + 12 * m + 3 < 1095 := by omega
  have a1 := m_atMeasure (S := S) (v := v) hm (show 0 ≤ (1 : Int) ∧ (1 : Int) < 12 by decide)
  have a3 := m_atMeasure (S := S) (v := v) hm (show 0 ≤ (3 : Int) ∧ (3 : Int) < 12 by decide)
  have hown := m_own (S := S) (v := v) h.2.2.1 (show 0 ≤ m ∧ m ≤ 1000 by omega)
  generalize hlea : v (M + 1) (3 + 12 * m + 1) = lea at *
  generalize hmos : v (M + 1) (3 + 12 * m + 2) = mos at *
  generalize hlas : v (M + 1) (3 + 12 * m + 3) = last at *
  generalize hsor : v (M + 8) (4 * B + m) = sort at *
  generalize hone : v (M + 9) (4 * B + m) = one at *
  generalize htwo : v (M + 10) (4 * B + m) = two at *
  have c1 : w64 (1000 * lea) = 1000 * lea := w64_e (by omega)
  have c3 : w64 (1000 * n) = 1000 * n := by clear c1; exact w64_e (by omega)
  have d0 : 0 ≤ 1000 * n := by clear c1 c3; omega
  have hsp : ¬ span = 0 := by clear c1 c3; omega
  apply wM_eq
  by_cases h0 : sort = 0
  · subst h0
    have hI : rI_ 0 last one two span n = 1000 * n := by unfold rI_; rw [if_pos rfl]
    rw [hI]
    simp only [mX12_isEnough, sX12_isEnough, wE_I, wE_V, wE_F, wE_A, wE_N, wE_1, wE_2, wE_D, wE_B, wE_If, wE_C, wE_CV, wE_SL, wE_SA, wA_0, wA_1, wC_B, wC_E, wC_And, wC_Or, wC_Not, wS_Skip, wS_Brk, wS_Cnt, wS_RetV, wS_Ret, wS_Seq, wS_Set, wS_Inc, wS_Do, wS_Put, wS_PutC, wS_Arr, wS_ArrC, wS_If, wS_Sw, wS_F0, wS_F1, wM_q, lu_ap, aL_ap, ct_0, ct_1, ct_2, ct_3, ct_4, ct_5, headD_1, List.mem_cons, List.not_mem_nil, or_false, false_or, or_true, true_or, true_and, and_true, false_and, and_false, not_true_eq_false, not_false_eq_true, if_true, if_false, nr_20, nr_24, nr_40, nr_41, nr_44, pt_lt, pt_ge, pt_eq, pt_ne, pt_gt, pt_le, pt_E, pt_N, pt_F, ite_10, ite_11, ne_eq, and_self, or_self, decide_true, decide_false, Bool.not_true, Bool.not_false, Bool.false_eq_true, Nat.reduceEqDiff, Nat.reduceAdd, Int.reduceEq, Int.reduceLT, Int.reduceLE, Int.reduceNeg, Int.reduceAdd, Int.reduceSub, Int.reduceMul, reduceCtorEq, iA, iS, iM, iD, iR, iN, lA, lS, lM, lD, lR, h.1.k, h.1.p0, h.1.a1, h.1.n1, h.1.p7, h.1.a8, h.1.n8, h.2.1, wM_of hown, o1, wM_of a1, q1, hlea, hsor, c1, c3]
  · by_cases h1 : sort = 1
    · subst h1
      have hI : rI_ 1 last one two span n = 1000 * n / span := by unfold rI_; rw [if_neg (by decide), if_pos rfl]
      rw [hI]
      have d2 := Int.ediv_nonneg d0 (show 0 ≤ span by clear c1 c3; omega)
      have d3 := Int.ediv_le_self span d0
      generalize hZ : 1000 * n / span = Z at *
      have e2 : w64 ((1000 * n).tdiv span) = Z := by clear c1 c3; rw [tdiv_n d0, hZ]; exact w64_e (by omega)
      have s1 : ¬ (1 : Int) = 0 := by decide
      simp only [mX12_isEnough, sX12_isEnough, wE_I, wE_V, wE_F, wE_A, wE_N, wE_1, wE_2, wE_D, wE_B, wE_If, wE_C, wE_CV, wE_SL, wE_SA, wA_0, wA_1, wC_B, wC_E, wC_And, wC_Or, wC_Not, wS_Skip, wS_Brk, wS_Cnt, wS_RetV, wS_Ret, wS_Seq, wS_Set, wS_Inc, wS_Do, wS_Put, wS_PutC, wS_Arr, wS_ArrC, wS_If, wS_Sw, wS_F0, wS_F1, wM_q, lu_ap, aL_ap, ct_0, ct_1, ct_2, ct_3, ct_4, ct_5, headD_1, List.mem_cons, List.not_mem_nil, or_false, false_or, or_true, true_or, true_and, and_true, false_and, and_false, not_true_eq_false, not_false_eq_true, if_true, if_false, nr_20, nr_24, nr_40, nr_41, nr_44, pt_lt, pt_ge, pt_eq, pt_ne, pt_gt, pt_le, pt_E, pt_N, pt_F, ite_10, ite_11, ne_eq, and_self, or_self, decide_true, decide_false, Bool.not_true, Bool.not_false, Bool.false_eq_true, Nat.reduceEqDiff, Nat.reduceAdd, Int.reduceEq, Int.reduceLT, Int.reduceLE, Int.reduceNeg, Int.reduceAdd, Int.reduceSub, Int.reduceMul, reduceCtorEq, iA, iS, iM, iD, iR, iN, lA, lS, lM, lD, lR, h.1.k, h.1.p0, h.1.a1, h.1.n1, h.1.p7, h.1.a8, h.1.n8, h.2.1, wM_of hown, o1, wM_of a1, q1, hlea, hsor, c1, c3, hsp, s1, e2]
    · have h2' : sort = 2 := by clear c1 c3; omega
      subst h2'
      have r4' := r4 rfl
      obtain ⟨hl0, hn2⟩ := h2 rfl
      have hw := wo_b (n := n) (last := last) (one := one) (two := two) ⟨hn.1, hn2⟩ ⟨hl0, r4'.2.2.2⟩ ⟨r4'.1, r4'.2.1, r4'.2.2.1⟩
      have hwe := m_wentOn (S := S) (v := v) (n := n) (last := last) (one := one) (two := two) (by clear c1 c3; omega) (by clear c1 c3; omega) ⟨r4'.1, r4'.2.1, r4'.2.2.1⟩
      have hI : rI_ 2 last one two span n = 1000 * wo n last one two / span := by
        unfold rI_
        rw [if_neg (by decide), if_neg (by decide)]
      rw [hI]
      have d1 : 0 ≤ 1000 * wo n last one two := by clear c1 c3; omega
      have d2 := Int.ediv_nonneg d1 (show 0 ≤ span by clear c1 c3; omega)
      have d3 := Int.ediv_le_self span d1
      generalize wo n last one two = W at *
      have e1 : w64 (1000 * W) = 1000 * W := by clear c1 c3; exact w64_e (by omega)
      generalize hZ : 1000 * W / span = Z at *
      have e2 : w64 ((1000 * W).tdiv span) = Z := by clear c1 c3 e1; rw [tdiv_n d1, hZ]; exact w64_e (by omega)
      have s1 : ¬ (2 : Int) = 1 := by decide
      have s0 : ¬ (2 : Int) = 0 := by decide
      simp only [mX12_isEnough, sX12_isEnough, wE_I, wE_V, wE_F, wE_A, wE_N, wE_1, wE_2, wE_D, wE_B, wE_If, wE_C, wE_CV, wE_SL, wE_SA, wA_0, wA_1, wC_B, wC_E, wC_And, wC_Or, wC_Not, wS_Skip, wS_Brk, wS_Cnt, wS_RetV, wS_Ret, wS_Seq, wS_Set, wS_Inc, wS_Do, wS_Put, wS_PutC, wS_Arr, wS_ArrC, wS_If, wS_Sw, wS_F0, wS_F1, wM_q, lu_ap, aL_ap, ct_0, ct_1, ct_2, ct_3, ct_4, ct_5, headD_1, List.mem_cons, List.not_mem_nil, or_false, false_or, or_true, true_or, true_and, and_true, false_and, and_false, not_true_eq_false, not_false_eq_true, if_true, if_false, nr_20, nr_24, nr_40, nr_41, nr_44, pt_lt, pt_ge, pt_eq, pt_ne, pt_gt, pt_le, pt_E, pt_N, pt_F, ite_10, ite_11, ne_eq, and_self, or_self, decide_true, decide_false, Bool.not_true, Bool.not_false, Bool.false_eq_true, Nat.reduceEqDiff, Nat.reduceAdd, Int.reduceEq, Int.reduceLT, Int.reduceLE, Int.reduceNeg, Int.reduceAdd, Int.reduceSub, Int.reduceMul, reduceCtorEq, iA, iS, iM, iD, iR, iN, lA, lS, lM, lD, lR, h.1.k, h.1.p0, h.1.a1, h.1.n1, h.1.p7, h.1.a8, h.1.n8, h.1.p8, h.1.a9, h.1.n9, h.1.p9, h.1.a10, h.1.n10, h.2.1, wM_of hown, o1, wM_of a1, wM_of a3, q1, q3, hlea, hlas, hsor, hone, htwo, c1, hsp, s0, s1, wM_of hwe, e1, e2]
theorem m_leastIn (h : RM S v M B) {m span f t more sp : Int} (hm : 0 ≤ m ∧ m < 4) (hr : rOk (v (M + 1) (3 + 12 * m + 1)) (v (M + 1) (3 + 12 * m + 2)) (v (M + 8) (4 * B + m)) (v (M + 1) (3 + 12 * m + 3)) (v (M + 9) (4 * B + m)) (v (M + 10) (4 * B + m)) span) (hft : 0 ≤ f ∧ f ≤ t ∧ t ≤ 999999) (hsp : 1 ≤ sp ∧ sp ≤ 1000) (h2 : v (M + 8) (4 * B + m) = 2 → 0 ≤ v (M + 1) (3 + 12 * m + 3) ∧ t < p2 (v (M + 10) (4 * B + m)))
    (hI : ∀ n, f ≤ n → n ≤ t → rI_ (v (M + 8) (4 * B + m)) (v (M + 1) (3 + 12 * m + 3)) (v (M + 9) (4 * B + m)) (v (M + 10) (4 * B + m)) span n = 1000 * (n + more) / sp) : mX12_leastIn [M, m, span, f, t] S v = some (if span ≤ v (M + 1) (3 + 12 * m + 0) then lw f t more (v (M + 1) (3 + 12 * m + 1) * sp) (v (M + 1) (3 + 12 * m + 2) * sp) else -1, v) := by
  have hdK : ∀ a b c d e g i j k, Decidable (rK a b c d e g i j k) := fun _ _ _ _ _ _ _ _ _ => Classical.propDecidable _
  have hRate := fun n => m_rateOf h (n := n) (span := span) hm hr
  have hEn := fun n (g : 0 ≤ n ∧ n ≤ 999999) (g2 : v (M + 8) (4 * B + m) = 2 → 0 ≤ v (M + 1) (3 + 12 * m + 3) ∧ n < p2 (v (M + 10) (4 * B + m))) => m_isEnough h (n := n) (span := span) hm g hr g2
  have hr' := hr
  obtain ⟨r1, r2, r3, r4, r5⟩ := hr
  generalize hsil : v (M + 1) (3 + 12 * m + 0) = sil at *
  generalize hlea : v (M + 1) (3 + 12 * m + 1) = lea at *
  generalize hmos : v (M + 1) (3 + 12 * m + 2) = mos at *
  generalize hlas : v (M + 1) (3 + 12 * m + 3) = last at *
  generalize hsor : v (M + 8) (4 * B + m) = sort at *
  generalize hone : v (M + 9) (4 * B + m) = one at *
  generalize htwo : v (M + 10) (4 * B + m) = two at *
  have hE : ∀ n, f ≤ n → n ≤ t → (1000 * lea ≤ rI_ sort last one two span n ↔ lea * sp ≤ n + more) := fun n g0 g1 => by rw [hI n g0 g1]; exact enough_iff (by omega)
  have hMo : ∀ n, f ≤ n → n ≤ t → (rI_ sort last one two span n ≤ 1000 * mos ↔ n + more ≤ mos * sp) := fun n g0 g1 => by rw [hI n g0 g1]; exact most_iff hsp
  apply wM_eq
  simp only [mX12_leastIn, sX12_leastIn, wE_I, wE_V, wE_F, wE_A, wE_N, wE_1, wE_2, wE_D, wE_B, wE_If, wE_C, wE_CV, wE_SL, wE_SA, wA_0, wA_1, wC_B, wC_E, wC_And, wC_Or, wC_Not, wS_Skip, wS_Brk, wS_Cnt, wS_RetV, wS_Ret, wS_Seq, wS_Set, wS_Inc, wS_Do, wS_Put, wS_PutC, wS_Arr, wS_ArrC, wS_If, wS_Sw, wS_F0, wS_F1, wM_q, lu_ap, aL_ap, ct_0, ct_1, ct_2, ct_3, ct_4, ct_5, headD_1, List.mem_cons, List.not_mem_nil, or_false, false_or, or_true, true_or, true_and, and_true, false_and, and_false, not_true_eq_false, not_false_eq_true, if_true, if_false, nr_20, nr_24, nr_40, nr_41, nr_44, pt_lt, pt_ge, pt_eq, pt_ne, pt_gt, pt_le, pt_E, pt_N, pt_F, ite_10, ite_11, ne_eq, and_self, or_self, decide_true, decide_false, Bool.not_true, Bool.not_false, Bool.false_eq_true, Nat.reduceEqDiff, Nat.reduceAdd, Int.reduceEq, Int.reduceLT, Int.reduceLE, Int.reduceNeg, Int.reduceAdd, Int.reduceSub, Int.reduceMul, reduceCtorEq, iA, iS, iM, iD, iR, iN, lA, lS, lM, lD, lR]
  refine wS_While (fun k L w => ∃ lo hi : Int, (L 0 = M ∧ L 1 = m ∧ L 2 = span ∧ L 3 = f ∧ L 5 = t ∧ L 7 = lo ∧ L 9 = hi) ∧ v = w ∧ (f ≤ lo ∧ lo ≤ hi ∧ hi ≤ t) ∧ (∀ n, f ≤ n → n < lo → ¬ lea * sp ≤ n + more) ∧ (hi = t ∨ lea * sp ≤ hi + more) ∧ (k : Int) = hi - lo) (t - f).toNat (by omega) ?_ ?_
  · refine ⟨f, t, ?_, rfl, by omega, fun n g0 g1 => by omega, Or.inl rfl, by omega⟩
    simp [lu_ap, aL_ap, ct_0, ct_1, ct_2]
  · rintro k L w ⟨lo, hi, ⟨m0, m1, m2, m3, m5, m7, m9⟩, rfl, hb, hno, hhi, hk⟩
    by_cases hlt : lo < hi
    · have e1 : w64 (lo + hi) = lo + hi := w64_e (by omega)
      have g0 : 0 ≤ lo + hi := by clear e1; omega
      have e2 : w64 ((lo + hi) / 2) = (lo + hi) / 2 := by clear e1; exact w64_e (by omega)
      generalize hmi : (lo + hi) / 2 = mid at *
      have hmb : lo ≤ mid ∧ mid < hi := by clear e1 e2; omega
      have e3 : w64 (mid + 1) = mid + 1 := by clear e1 e2; exact w64_e (by omega)
      have hen := hEn mid (by clear e1 e2 e3; omega) (fun q => by have := h2 q; clear e1 e2 e3; omega)
      simp only [cX12_leastIn_1, bX12_leastIn_1, uX12_leastIn_1, wE_I, wE_V, wE_F, wE_A, wE_N, wE_1, wE_2, wE_D, wE_B, wE_If, wE_C, wE_CV, wE_SL, wE_SA, wA_0, wA_1, wC_B, wC_E, wC_And, wC_Or, wC_Not, wS_Skip, wS_Brk, wS_Cnt, wS_RetV, wS_Ret, wS_Seq, wS_Set, wS_Inc, wS_Do, wS_Put, wS_PutC, wS_Arr, wS_ArrC, wS_If, wS_Sw, wS_F0, wS_F1, wM_q, lu_ap, aL_ap, ct_0, ct_1, ct_2, ct_3, ct_4, ct_5, headD_1, List.mem_cons, List.not_mem_nil, or_false, false_or, or_true, true_or, true_and, and_true, false_and, and_false, not_true_eq_false, not_false_eq_true, if_true, if_false, nr_20, nr_24, nr_40, nr_41, nr_44, pt_lt, pt_ge, pt_eq, pt_ne, pt_gt, pt_le, pt_E, pt_N, pt_F, ite_10, ite_11, ne_eq, and_self, or_self, decide_true, decide_false, Bool.not_true, Bool.not_false, Bool.false_eq_true, Nat.reduceEqDiff, Nat.reduceAdd, Int.reduceEq, Int.reduceLT, Int.reduceLE, Int.reduceNeg, Int.reduceAdd, Int.reduceSub, Int.reduceMul, reduceCtorEq, iA, iS, iM, iD, iR, iN, lA, lS, lM, lD, lR, h.1.k, m0, m1, m2, m3, m5, m7, m9, hlt, e1, tmod_n g0, tdiv_n g0, hmi, e2, wM_of hen, hE mid (by clear e1 e2 e3; omega) (by clear e1 e2 e3; omega)]
      clear e1 e2
      by_cases hq : lea * sp ≤ mid + more
      · simp only [hq, wE_I, wE_V, wE_F, wE_A, wE_N, wE_1, wE_2, wE_D, wE_B, wE_If, wE_C, wE_CV, wE_SL, wE_SA, wA_0, wA_1, wC_B, wC_E, wC_And, wC_Or, wC_Not, wS_Skip, wS_Brk, wS_Cnt, wS_RetV, wS_Ret, wS_Seq, wS_Set, wS_Inc, wS_Do, wS_Put, wS_PutC, wS_Arr, wS_ArrC, wS_If, wS_Sw, wS_F0, wS_F1, wM_q, lu_ap, aL_ap, ct_0, ct_1, ct_2, ct_3, ct_4, ct_5, headD_1, List.mem_cons, List.not_mem_nil, or_false, false_or, or_true, true_or, true_and, and_true, false_and, and_false, not_true_eq_false, not_false_eq_true, if_true, if_false, nr_20, nr_24, nr_40, nr_41, nr_44, pt_lt, pt_ge, pt_eq, pt_ne, pt_gt, pt_le, pt_E, pt_N, pt_F, ite_10, ite_11, ne_eq, and_self, or_self, decide_true, decide_false, Bool.not_true, Bool.not_false, Bool.false_eq_true, Nat.reduceEqDiff, Nat.reduceAdd, Int.reduceEq, Int.reduceLT, Int.reduceLE, Int.reduceNeg, Int.reduceAdd, Int.reduceSub, Int.reduceMul, reduceCtorEq]
        clear e3
        exact ⟨(mid - lo).toNat, by omega, lo, mid, ⟨rfl, rfl⟩, by omega, hno, Or.inr hq, by omega⟩
      · simp only [hq, e3, wE_I, wE_V, wE_F, wE_A, wE_N, wE_1, wE_2, wE_D, wE_B, wE_If, wE_C, wE_CV, wE_SL, wE_SA, wA_0, wA_1, wC_B, wC_E, wC_And, wC_Or, wC_Not, wS_Skip, wS_Brk, wS_Cnt, wS_RetV, wS_Ret, wS_Seq, wS_Set, wS_Inc, wS_Do, wS_Put, wS_PutC, wS_Arr, wS_ArrC, wS_If, wS_Sw, wS_F0, wS_F1, wM_q, lu_ap, aL_ap, ct_0, ct_1, ct_2, ct_3, ct_4, ct_5, headD_1, List.mem_cons, List.not_mem_nil, or_false, false_or, or_true, true_or, true_and, and_true, false_and, and_false, not_true_eq_false, not_false_eq_true, if_true, if_false, nr_20, nr_24, nr_40, nr_41, nr_44, pt_lt, pt_ge, pt_eq, pt_ne, pt_gt, pt_le, pt_E, pt_N, pt_F, ite_10, ite_11, ne_eq, and_self, or_self, decide_true, decide_false, Bool.not_true, Bool.not_false, Bool.false_eq_true, Nat.reduceEqDiff, Nat.reduceAdd, Int.reduceEq, Int.reduceLT, Int.reduceLE, Int.reduceNeg, Int.reduceAdd, Int.reduceSub, Int.reduceMul, reduceCtorEq]
        clear e3
        refine ⟨(hi - (mid + 1)).toNat, by omega, mid + 1, hi, ⟨rfl, rfl⟩, by omega, fun n g1 g2 => by omega, hhi, by omega⟩
    · have hlo : lo = hi := by omega
      subst hlo
      have hlt' : ¬ lo < lo := by omega
      have hto : lo ≤ t := by omega
      have hrate := hRate lo
      have hKn : rK sil lea mos sort last one two span lo ↔ span ≤ sil ∧ lea * sp ≤ lo + more ∧ lo + more ≤ mos * sp := by
        unfold rK
        rw [hE lo (by omega) hto, hMo lo (by omega) hto]
        constructor
        · rintro ⟨⟨q1, q2, q3⟩, q4, q5⟩; exact ⟨q1, q4, q5⟩
        · rintro ⟨q1, q4, q5⟩
          exact ⟨⟨q1, ⟨by omega, fun q => by have := h2 q; omega⟩, fun q => (h2 q).1⟩, q4, q5⟩
      have hnn : rK sil lea mos sort last one two span lo → ¬ rI_ sort last one two span lo = -2147483648 := by
        intro q
        have := q.2.1
        omega
      have e5 : w32 lo = lo := w32_e (by omega)
      simp only [cX12_leastIn_1, wE_I, wE_V, wE_F, wE_A, wE_N, wE_1, wE_2, wE_D, wE_B, wE_If, wE_C, wE_CV, wE_SL, wE_SA, wA_0, wA_1, wC_B, wC_E, wC_And, wC_Or, wC_Not, wS_Skip, wS_Brk, wS_Cnt, wS_RetV, wS_Ret, wS_Seq, wS_Set, wS_Inc, wS_Do, wS_Put, wS_PutC, wS_Arr, wS_ArrC, wS_If, wS_Sw, wS_F0, wS_F1, wM_q, lu_ap, aL_ap, ct_0, ct_1, ct_2, ct_3, ct_4, ct_5, headD_1, List.mem_cons, List.not_mem_nil, or_false, false_or, or_true, true_or, true_and, and_true, false_and, and_false, not_true_eq_false, not_false_eq_true, if_true, if_false, nr_20, nr_24, nr_40, nr_41, nr_44, pt_lt, pt_ge, pt_eq, pt_ne, pt_gt, pt_le, pt_E, pt_N, pt_F, ite_10, ite_11, ne_eq, and_self, or_self, decide_true, decide_false, Bool.not_true, Bool.not_false, Bool.false_eq_true, Nat.reduceEqDiff, Nat.reduceAdd, Int.reduceEq, Int.reduceLT, Int.reduceLE, Int.reduceNeg, Int.reduceAdd, Int.reduceSub, Int.reduceMul, reduceCtorEq, iA, iS, iM, iD, iR, iN, lA, lS, lM, lD, lR, h.1.k, m0, m1, m2, m5, m7, m9, hlt', hto, wM_of hrate, e5]
      clear e5
      unfold lw
      by_cases hs : span ≤ sil
      · simp only [hs, if_true]
        by_cases hq : lea * sp ≤ lo + more
        · have hN : (if f < lea * sp - more then lea * sp - more else f) = lo := by
            have hge : ¬ lo < (if f < lea * sp - more then lea * sp - more else f) := by split <;> omega
            by_cases hz : (if f < lea * sp - more then lea * sp - more else f) < lo
            · exact absurd (show lea * sp ≤ (if f < lea * sp - more then lea * sp - more else f) + more by split <;> omega) (hno _ (by split <;> omega) hz)
            · omega
          rw [hN]
          by_cases hq2 : lo + more ≤ mos * sp
          · have hk1 := hKn.mpr ⟨hs, hq, hq2⟩
            simp only [hk1, hnn hk1, hto, hq2, wE_I, wE_V, wE_F, wE_A, wE_N, wE_1, wE_2, wE_D, wE_B, wE_If, wE_C, wE_CV, wE_SL, wE_SA, wA_0, wA_1, wC_B, wC_E, wC_And, wC_Or, wC_Not, wS_Skip, wS_Brk, wS_Cnt, wS_RetV, wS_Ret, wS_Seq, wS_Set, wS_Inc, wS_Do, wS_Put, wS_PutC, wS_Arr, wS_ArrC, wS_If, wS_Sw, wS_F0, wS_F1, wM_q, lu_ap, aL_ap, ct_0, ct_1, ct_2, ct_3, ct_4, ct_5, headD_1, List.mem_cons, List.not_mem_nil, or_false, false_or, or_true, true_or, true_and, and_true, false_and, and_false, not_true_eq_false, not_false_eq_true, if_true, if_false, nr_20, nr_24, nr_40, nr_41, nr_44, pt_lt, pt_ge, pt_eq, pt_ne, pt_gt, pt_le, pt_E, pt_N, pt_F, ite_10, ite_11, ne_eq, and_self, or_self, decide_true, decide_false, Bool.not_true, Bool.not_false, Bool.false_eq_true, Nat.reduceEqDiff, Nat.reduceAdd, Int.reduceEq, Int.reduceLT, Int.reduceLE, Int.reduceNeg, Int.reduceAdd, Int.reduceSub, Int.reduceMul, reduceCtorEq]
          · have hk1 : ¬ rK sil lea mos sort last one two span lo := fun q => hq2 (hKn.mp q).2.2
            simp only [hk1, hq2, wE_I, wE_V, wE_F, wE_A, wE_N, wE_1, wE_2, wE_D, wE_B, wE_If, wE_C, wE_CV, wE_SL, wE_SA, wA_0, wA_1, wC_B, wC_E, wC_And, wC_Or, wC_Not, wS_Skip, wS_Brk, wS_Cnt, wS_RetV, wS_Ret, wS_Seq, wS_Set, wS_Inc, wS_Do, wS_Put, wS_PutC, wS_Arr, wS_ArrC, wS_If, wS_Sw, wS_F0, wS_F1, wM_q, lu_ap, aL_ap, ct_0, ct_1, ct_2, ct_3, ct_4, ct_5, headD_1, List.mem_cons, List.not_mem_nil, or_false, false_or, or_true, true_or, true_and, and_true, false_and, and_false, not_true_eq_false, not_false_eq_true, if_true, if_false, nr_20, nr_24, nr_40, nr_41, nr_44, pt_lt, pt_ge, pt_eq, pt_ne, pt_gt, pt_le, pt_E, pt_N, pt_F, ite_10, ite_11, ne_eq, and_self, or_self, decide_true, decide_false, Bool.not_true, Bool.not_false, Bool.false_eq_true, Nat.reduceEqDiff, Nat.reduceAdd, Int.reduceEq, Int.reduceLT, Int.reduceLE, Int.reduceNeg, Int.reduceAdd, Int.reduceSub, Int.reduceMul, reduceCtorEq]
        · have hk1 : ¬ rK sil lea mos sort last one two span lo := fun q => hq (hKn.mp q).2.1
          have hN : ¬ (if f < lea * sp - more then lea * sp - more else f) ≤ t := by
            rcases hhi with q | q
            · split <;> omega
            · exact absurd q hq
          simp only [hk1, hN, wE_I, wE_V, wE_F, wE_A, wE_N, wE_1, wE_2, wE_D, wE_B, wE_If, wE_C, wE_CV, wE_SL, wE_SA, wA_0, wA_1, wC_B, wC_E, wC_And, wC_Or, wC_Not, wS_Skip, wS_Brk, wS_Cnt, wS_RetV, wS_Ret, wS_Seq, wS_Set, wS_Inc, wS_Do, wS_Put, wS_PutC, wS_Arr, wS_ArrC, wS_If, wS_Sw, wS_F0, wS_F1, wM_q, lu_ap, aL_ap, ct_0, ct_1, ct_2, ct_3, ct_4, ct_5, headD_1, List.mem_cons, List.not_mem_nil, or_false, false_or, or_true, true_or, true_and, and_true, false_and, and_false, not_true_eq_false, not_false_eq_true, if_true, if_false, nr_20, nr_24, nr_40, nr_41, nr_44, pt_lt, pt_ge, pt_eq, pt_ne, pt_gt, pt_le, pt_E, pt_N, pt_F, ite_10, ite_11, ne_eq, and_self, or_self, decide_true, decide_false, Bool.not_true, Bool.not_false, Bool.false_eq_true, Nat.reduceEqDiff, Nat.reduceAdd, Int.reduceEq, Int.reduceLT, Int.reduceLE, Int.reduceNeg, Int.reduceAdd, Int.reduceSub, Int.reduceMul, reduceCtorEq]
      · have hk1 : ¬ rK sil lea mos sort last one two span lo := fun q => hs (hKn.mp q).1
        simp only [hk1, hs, wE_I, wE_V, wE_F, wE_A, wE_N, wE_1, wE_2, wE_D, wE_B, wE_If, wE_C, wE_CV, wE_SL, wE_SA, wA_0, wA_1, wC_B, wC_E, wC_And, wC_Or, wC_Not, wS_Skip, wS_Brk, wS_Cnt, wS_RetV, wS_Ret, wS_Seq, wS_Set, wS_Inc, wS_Do, wS_Put, wS_PutC, wS_Arr, wS_ArrC, wS_If, wS_Sw, wS_F0, wS_F1, wM_q, lu_ap, aL_ap, ct_0, ct_1, ct_2, ct_3, ct_4, ct_5, headD_1, List.mem_cons, List.not_mem_nil, or_false, false_or, or_true, true_or, true_and, and_true, false_and, and_false, not_true_eq_false, not_false_eq_true, if_true, if_false, nr_20, nr_24, nr_40, nr_41, nr_44, pt_lt, pt_ge, pt_eq, pt_ne, pt_gt, pt_le, pt_E, pt_N, pt_F, ite_10, ite_11, ne_eq, and_self, or_self, decide_true, decide_false, Bool.not_true, Bool.not_false, Bool.false_eq_true, Nat.reduceEqDiff, Nat.reduceAdd, Int.reduceEq, Int.reduceLT, Int.reduceLE, Int.reduceNeg, Int.reduceAdd, Int.reduceSub, Int.reduceMul, reduceCtorEq]
end FT
