/-! THE CLASS'S QUESTIONS: forecasts, measures, what there is -/
def hd (x : Int) : Int := if 2000000000 < x then 2000000000 else if x < -2000000000 then -2000000000 else x
theorem hd_b (x : Int) : -2000000000 ≤ hd x ∧ hd x ≤ 2000000000 := by unfold hd; split <;> (try split) <;> omega
def cKo (v : QV) (o : Int) : Int := if 30 < v o 7 then 30 else v o 7
def cTo (v : QV) (o i : Int) : Int := v (o + 3) ((v o 7 - 1 - i) % 30)
def cOd (v : QV) (o i : Int) : Int := v (o + 4) ((v o 7 - 1 - i) % 30)
def od (κ : Int) (ω : Int → Int) (i j : Int) : Bool := decide (i + j < κ) && !decide (ω (i + j) = 0)
/-- LEVEL, so many steps on -/
def ahL (l t : Int) : Nat → Int
  | 0 => l
  | j + 1 => hd (ahL l t j + t)
theorem ahL_b {l t : Int} (hl : -2000000000 ≤ l ∧ l ≤ 2000000000) : ∀ j : Nat, -2000000000 ≤ ahL l t j ∧ ahL l t j ≤ 2000000000
  | 0 => hl
  | _ + 1 => hd_b _
def fbs (c : Int → Bool) : Nat → Int
  | 0 => 0
  | j + 1 => if c j = true then iOr (fbs c j) (iSh 1 j) else fbs c j
/-- an Outlook's numbers -/
def RO (v : QV) (o : Int) : Prop := (0 ≤ v o 7 ∧ v o 7 ≤ 100000) ∧ (-2000000000 ≤ v o 1 ∧ v o 1 ≤ 2000000000) ∧ (-2000000000 ≤ v o 2 ∧ v o 2 ≤ 2000000000) ∧ (∀ p, 0 ≤ p → p < 24 → -2000000000 ≤ v (o + 1) p ∧ v (o + 1) p ≤ 2000000000)
def hF (v : QV) (P m : Int) : Prop := (0 ≤ m ∧ m < v P 1) ∧ 0 < v (P + (9 + m)) 6
section CF
variable {S : QS} {v w : QV} {b P s : Int}
theorem q_hasForecast (h : RC S v b P s) {m : Int} [Decidable (hF v P m)] : mX11_hasForecast [b, m] S v = some (if hF v P m then 1 else 0, v) := by
  apply wM_eq
  by_cases hm : 0 ≤ m ∧ m < v P 1
  · have hL := h.pl
    have hm4 : m < 4 := by have := h.2.2.2.2.2.2.1; omega
    simp only [mX11_hasForecast, sX11_hasForecast, wE_I, wE_V, wE_F, wE_A, wE_N, wE_1, wE_2, wE_D, wE_B, wE_If, wE_C, wE_CV, wE_SL, wE_SA, wA_0, wA_1, wC_B, wC_E, wC_And, wC_Or, wC_Not, wS_Skip, wS_Brk, wS_Cnt, wS_RetV, wS_Ret, wS_Seq, wS_Set, wS_Inc, wS_Do, wS_Put, wS_PutC, wS_Arr, wS_ArrC, wS_If, wS_Sw, wS_F0, wS_F1, wM_q, lu_ap, aL_ap, ct_0, ct_1, ct_2, ct_3, ct_4, ct_5, headD_1, List.mem_cons, List.not_mem_nil, or_false, false_or, or_true, true_or, true_and, and_true, false_and, and_false, not_true_eq_false, not_false_eq_true, if_true, if_false, nr_20, nr_24, nr_40, nr_41, nr_44, pt_lt, pt_ge, pt_eq, pt_ne, pt_gt, pt_le, pt_E, pt_N, pt_F, ite_10, ite_11, ne_eq, and_self, or_self, decide_true, decide_false, Bool.not_true, Bool.not_false, Bool.false_eq_true, Nat.reduceEqDiff, Nat.reduceAdd, Int.reduceEq, Int.reduceLT, Int.reduceLE, Int.reduceNeg, Int.reduceAdd, Int.reduceSub, Int.reduceMul, reduceCtorEq, iA, iS, iM, iD, iR, iN, lA, lS, lM, lD, lR, h.1.k, h.2.1, wM_of (q_isMeasure h), hm, hL.k, hL.p3, hL.a1, hL.n1, hL.em _ hm.1 hm4, hL.m _ hm.1 hm4, hm4, hF]
  · have : ¬ hF v P m := fun q => hm q.1
    simp only [mX11_hasForecast, sX11_hasForecast, wE_I, wE_V, wE_F, wE_A, wE_N, wE_1, wE_2, wE_D, wE_B, wE_If, wE_C, wE_CV, wE_SL, wE_SA, wA_0, wA_1, wC_B, wC_E, wC_And, wC_Or, wC_Not, wS_Skip, wS_Brk, wS_Cnt, wS_RetV, wS_Ret, wS_Seq, wS_Set, wS_Inc, wS_Do, wS_Put, wS_PutC, wS_Arr, wS_ArrC, wS_If, wS_Sw, wS_F0, wS_F1, wM_q, lu_ap, aL_ap, ct_0, ct_1, ct_2, ct_3, ct_4, ct_5, headD_1, List.mem_cons, List.not_mem_nil, or_false, false_or, or_true, true_or, true_and, and_true, false_and, and_false, not_true_eq_false, not_false_eq_true, if_true, if_false, nr_20, nr_24, nr_40, nr_41, nr_44, pt_lt, pt_ge, pt_eq, pt_ne, pt_gt, pt_le, pt_E, pt_N, pt_F, ite_10, ite_11, ne_eq, and_self, or_self, decide_true, decide_false, Bool.not_true, Bool.not_false, Bool.false_eq_true, Nat.reduceEqDiff, Nat.reduceAdd, Int.reduceEq, Int.reduceLT, Int.reduceLE, Int.reduceNeg, Int.reduceAdd, Int.reduceSub, Int.reduceMul, reduceCtorEq, iA, iS, iM, iD, iR, iN, lA, lS, lM, lD, lR, h.1.k, h.2.1, wM_of (q_isMeasure h), hm, this]
theorem q_held {x : Int} : mX11_held [x] S v = some (hd x, v) := by
  apply wM_eq
  unfold hd
  by_cases h1 : 2000000000 < x
  · simp only [mX11_held, sX11_held, wE_I, wE_V, wE_F, wE_A, wE_N, wE_1, wE_2, wE_D, wE_B, wE_If, wE_C, wE_CV, wE_SL, wE_SA, wA_0, wA_1, wC_B, wC_E, wC_And, wC_Or, wC_Not, wS_Skip, wS_Brk, wS_Cnt, wS_RetV, wS_Ret, wS_Seq, wS_Set, wS_Inc, wS_Do, wS_Put, wS_PutC, wS_Arr, wS_ArrC, wS_If, wS_Sw, wS_F0, wS_F1, wM_q, lu_ap, aL_ap, ct_0, ct_1, ct_2, ct_3, ct_4, ct_5, headD_1, List.mem_cons, List.not_mem_nil, or_false, false_or, or_true, true_or, true_and, and_true, false_and, and_false, not_true_eq_false, not_false_eq_true, if_true, if_false, nr_20, nr_24, nr_40, nr_41, nr_44, pt_lt, pt_ge, pt_eq, pt_ne, pt_gt, pt_le, pt_E, pt_N, pt_F, ite_10, ite_11, ne_eq, and_self, or_self, decide_true, decide_false, Bool.not_true, Bool.not_false, Bool.false_eq_true, Nat.reduceEqDiff, Nat.reduceAdd, Int.reduceEq, Int.reduceLT, Int.reduceLE, Int.reduceNeg, Int.reduceAdd, Int.reduceSub, Int.reduceMul, reduceCtorEq, iA, iS, iM, iD, iR, iN, lA, lS, lM, lD, lR, h1]
  · by_cases h2 : x < -2000000000
    · simp only [mX11_held, sX11_held, wE_I, wE_V, wE_F, wE_A, wE_N, wE_1, wE_2, wE_D, wE_B, wE_If, wE_C, wE_CV, wE_SL, wE_SA, wA_0, wA_1, wC_B, wC_E, wC_And, wC_Or, wC_Not, wS_Skip, wS_Brk, wS_Cnt, wS_RetV, wS_Ret, wS_Seq, wS_Set, wS_Inc, wS_Do, wS_Put, wS_PutC, wS_Arr, wS_ArrC, wS_If, wS_Sw, wS_F0, wS_F1, wM_q, lu_ap, aL_ap, ct_0, ct_1, ct_2, ct_3, ct_4, ct_5, headD_1, List.mem_cons, List.not_mem_nil, or_false, false_or, or_true, true_or, true_and, and_true, false_and, and_false, not_true_eq_false, not_false_eq_true, if_true, if_false, nr_20, nr_24, nr_40, nr_41, nr_44, pt_lt, pt_ge, pt_eq, pt_ne, pt_gt, pt_le, pt_E, pt_N, pt_F, ite_10, ite_11, ne_eq, and_self, or_self, decide_true, decide_false, Bool.not_true, Bool.not_false, Bool.false_eq_true, Nat.reduceEqDiff, Nat.reduceAdd, Int.reduceEq, Int.reduceLT, Int.reduceLE, Int.reduceNeg, Int.reduceAdd, Int.reduceSub, Int.reduceMul, reduceCtorEq, iA, iS, iM, iD, iR, iN, lA, lS, lM, lD, lR, h1, h2]
    · simp only [mX11_held, sX11_held, wE_I, wE_V, wE_F, wE_A, wE_N, wE_1, wE_2, wE_D, wE_B, wE_If, wE_C, wE_CV, wE_SL, wE_SA, wA_0, wA_1, wC_B, wC_E, wC_And, wC_Or, wC_Not, wS_Skip, wS_Brk, wS_Cnt, wS_RetV, wS_Ret, wS_Seq, wS_Set, wS_Inc, wS_Do, wS_Put, wS_PutC, wS_Arr, wS_ArrC, wS_If, wS_Sw, wS_F0, wS_F1, wM_q, lu_ap, aL_ap, ct_0, ct_1, ct_2, ct_3, ct_4, ct_5, headD_1, List.mem_cons, List.not_mem_nil, or_false, false_or, or_true, true_or, true_and, and_true, false_and, and_false, not_true_eq_false, not_false_eq_true, if_true, if_false, nr_20, nr_24, nr_40, nr_41, nr_44, pt_lt, pt_ge, pt_eq, pt_ne, pt_gt, pt_le, pt_E, pt_N, pt_F, ite_10, ite_11, ne_eq, and_self, or_self, decide_true, decide_false, Bool.not_true, Bool.not_false, Bool.false_eq_true, Nat.reduceEqDiff, Nat.reduceAdd, Int.reduceEq, Int.reduceLT, Int.reduceLE, Int.reduceNeg, Int.reduceAdd, Int.reduceSub, Int.reduceMul, reduceCtorEq, iA, iS, iM, iD, iR, iN, lA, lS, lM, lD, lR, h1, h2]
      exact w32_e (by omega)
theorem q_keptO {o : Int} (hO : LOu S v o) : mX4_kept [o] S v = some (cKo v o, v) := by
  apply wM_eq
  simp only [mX4_kept, sX4_kept, wE_I, wE_V, wE_F, wE_A, wE_N, wE_1, wE_2, wE_D, wE_B, wE_If, wE_C, wE_CV, wE_SL, wE_SA, wA_0, wA_1, wC_B, wC_E, wC_And, wC_Or, wC_Not, wS_Skip, wS_Brk, wS_Cnt, wS_RetV, wS_Ret, wS_Seq, wS_Set, wS_Inc, wS_Do, wS_Put, wS_PutC, wS_Arr, wS_ArrC, wS_If, wS_Sw, wS_F0, wS_F1, wM_q, lu_ap, aL_ap, ct_0, ct_1, ct_2, ct_3, ct_4, ct_5, headD_1, List.mem_cons, List.not_mem_nil, or_false, false_or, or_true, true_or, true_and, and_true, false_and, and_false, not_true_eq_false, not_false_eq_true, if_true, if_false, nr_20, nr_24, nr_40, nr_41, nr_44, pt_lt, pt_ge, pt_eq, pt_ne, pt_gt, pt_le, pt_E, pt_N, pt_F, ite_10, ite_11, ne_eq, and_self, or_self, decide_true, decide_false, Bool.not_true, Bool.not_false, Bool.false_eq_true, Nat.reduceEqDiff, Nat.reduceAdd, Int.reduceEq, Int.reduceLT, Int.reduceLE, Int.reduceNeg, Int.reduceAdd, Int.reduceSub, Int.reduceMul, reduceCtorEq, iA, iS, iM, iD, iR, iN, lA, lS, lM, lD, lR, hO.k]
  rfl
theorem q_slotOf {o i : Int} (hO : LOu S v o) (hr : 0 ≤ v o 7 ∧ v o 7 ≤ 100000) : mX4_slotOf [o, i] S v = some (if 0 ≤ i ∧ i < cKo v o then (v o 7 - 1 - i) % 30 else -1, v) := by
  apply wM_eq
  by_cases h1 : 0 ≤ i
  · by_cases h2 : i < cKo v o
    · have h3 : i < v o 7 := by unfold cKo at h2; split at h2 <;> omega
      have e1 : w32 (v o 7 - 1) = v o 7 - 1 := w32_e (by omega)
      have e2 : w32 (v o 7 - 1 - i) = v o 7 - 1 - i := by clear e1; exact w32_e (by omega)
      have h4 : 0 ≤ v o 7 - 1 - i := by clear e1 e2; omega
      have e3 : w32 ((v o 7 - 1 - i) % 30) = (v o 7 - 1 - i) % 30 := by clear e1 e2; exact w32_e (by omega)
      simp only [mX4_slotOf, sX4_slotOf, wE_I, wE_V, wE_F, wE_A, wE_N, wE_1, wE_2, wE_D, wE_B, wE_If, wE_C, wE_CV, wE_SL, wE_SA, wA_0, wA_1, wC_B, wC_E, wC_And, wC_Or, wC_Not, wS_Skip, wS_Brk, wS_Cnt, wS_RetV, wS_Ret, wS_Seq, wS_Set, wS_Inc, wS_Do, wS_Put, wS_PutC, wS_Arr, wS_ArrC, wS_If, wS_Sw, wS_F0, wS_F1, wM_q, lu_ap, aL_ap, ct_0, ct_1, ct_2, ct_3, ct_4, ct_5, headD_1, List.mem_cons, List.not_mem_nil, or_false, false_or, or_true, true_or, true_and, and_true, false_and, and_false, not_true_eq_false, not_false_eq_true, if_true, if_false, nr_20, nr_24, nr_40, nr_41, nr_44, pt_lt, pt_ge, pt_eq, pt_ne, pt_gt, pt_le, pt_E, pt_N, pt_F, ite_10, ite_11, ne_eq, and_self, or_self, decide_true, decide_false, Bool.not_true, Bool.not_false, Bool.false_eq_true, Nat.reduceEqDiff, Nat.reduceAdd, Int.reduceEq, Int.reduceLT, Int.reduceLE, Int.reduceNeg, Int.reduceAdd, Int.reduceSub, Int.reduceMul, reduceCtorEq, iA, iS, iM, iD, iR, iN, lA, lS, lM, lD, lR, hO.k, wM_of (q_keptO hO), h1, h2, e1, e2, tmod_n h4, e3]
    · simp only [mX4_slotOf, sX4_slotOf, wE_I, wE_V, wE_F, wE_A, wE_N, wE_1, wE_2, wE_D, wE_B, wE_If, wE_C, wE_CV, wE_SL, wE_SA, wA_0, wA_1, wC_B, wC_E, wC_And, wC_Or, wC_Not, wS_Skip, wS_Brk, wS_Cnt, wS_RetV, wS_Ret, wS_Seq, wS_Set, wS_Inc, wS_Do, wS_Put, wS_PutC, wS_Arr, wS_ArrC, wS_If, wS_Sw, wS_F0, wS_F1, wM_q, lu_ap, aL_ap, ct_0, ct_1, ct_2, ct_3, ct_4, ct_5, headD_1, List.mem_cons, List.not_mem_nil, or_false, false_or, or_true, true_or, true_and, and_true, false_and, and_false, not_true_eq_false, not_false_eq_true, if_true, if_false, nr_20, nr_24, nr_40, nr_41, nr_44, pt_lt, pt_ge, pt_eq, pt_ne, pt_gt, pt_le, pt_E, pt_N, pt_F, ite_10, ite_11, ne_eq, and_self, or_self, decide_true, decide_false, Bool.not_true, Bool.not_false, Bool.false_eq_true, Nat.reduceEqDiff, Nat.reduceAdd, Int.reduceEq, Int.reduceLT, Int.reduceLE, Int.reduceNeg, Int.reduceAdd, Int.reduceSub, Int.reduceMul, reduceCtorEq, iA, iS, iM, iD, iR, iN, lA, lS, lM, lD, lR, hO.k, wM_of (q_keptO hO), h1, h2]
  · simp only [mX4_slotOf, sX4_slotOf, wE_I, wE_V, wE_F, wE_A, wE_N, wE_1, wE_2, wE_D, wE_B, wE_If, wE_C, wE_CV, wE_SL, wE_SA, wA_0, wA_1, wC_B, wC_E, wC_And, wC_Or, wC_Not, wS_Skip, wS_Brk, wS_Cnt, wS_RetV, wS_Ret, wS_Seq, wS_Set, wS_Inc, wS_Do, wS_Put, wS_PutC, wS_Arr, wS_ArrC, wS_If, wS_Sw, wS_F0, wS_F1, wM_q, lu_ap, aL_ap, ct_0, ct_1, ct_2, ct_3, ct_4, ct_5, headD_1, List.mem_cons, List.not_mem_nil, or_false, false_or, or_true, true_or, true_and, and_true, false_and, and_false, not_true_eq_false, not_false_eq_true, if_true, if_false, nr_20, nr_24, nr_40, nr_41, nr_44, pt_lt, pt_ge, pt_eq, pt_ne, pt_gt, pt_le, pt_E, pt_N, pt_F, ite_10, ite_11, ne_eq, and_self, or_self, decide_true, decide_false, Bool.not_true, Bool.not_false, Bool.false_eq_true, Nat.reduceEqDiff, Nat.reduceAdd, Int.reduceEq, Int.reduceLT, Int.reduceLE, Int.reduceNeg, Int.reduceAdd, Int.reduceSub, Int.reduceMul, reduceCtorEq, iA, iS, iM, iD, iR, iN, lA, lS, lM, lD, lR, hO.k, wM_of (q_keptO hO), h1]
theorem q_isOdd {o i : Int} (hO : LOu S v o) (hr : 0 ≤ v o 7 ∧ v o 7 ≤ 100000) (hi : 0 ≤ i) : mX4_isOdd [o, i] S v = some (if od (cKo v o) (cOd v o) i 0 = true then 1 else 0, v) := by
  apply wM_eq
  by_cases h2 : i < cKo v o
  · have h5 : 0 ≤ (v o 7 - 1 - i) % 30 ∧ (v o 7 - 1 - i) % 30 < 30 := by omega
    simp only [mX4_isOdd, sX4_isOdd, wE_I, wE_V, wE_F, wE_A, wE_N, wE_1, wE_2, wE_D, wE_B, wE_If, wE_C, wE_CV, wE_SL, wE_SA, wA_0, wA_1, wC_B, wC_E, wC_And, wC_Or, wC_Not, wS_Skip, wS_Brk, wS_Cnt, wS_RetV, wS_Ret, wS_Seq, wS_Set, wS_Inc, wS_Do, wS_Put, wS_PutC, wS_Arr, wS_ArrC, wS_If, wS_Sw, wS_F0, wS_F1, wM_q, lu_ap, aL_ap, ct_0, ct_1, ct_2, ct_3, ct_4, ct_5, headD_1, List.mem_cons, List.not_mem_nil, or_false, false_or, or_true, true_or, true_and, and_true, false_and, and_false, not_true_eq_false, not_false_eq_true, if_true, if_false, nr_20, nr_24, nr_40, nr_41, nr_44, pt_lt, pt_ge, pt_eq, pt_ne, pt_gt, pt_le, pt_E, pt_N, pt_F, ite_10, ite_11, ne_eq, and_self, or_self, decide_true, decide_false, Bool.not_true, Bool.not_false, Bool.false_eq_true, Nat.reduceEqDiff, Nat.reduceAdd, Int.reduceEq, Int.reduceLT, Int.reduceLE, Int.reduceNeg, Int.reduceAdd, Int.reduceSub, Int.reduceMul, reduceCtorEq, iA, iS, iM, iD, iR, iN, lA, lS, lM, lD, lR, hO.k, wM_of (q_slotOf hO hr), hi, h2, h5, hO.p6, hO.a4, hO.n4, od]
    by_cases h6 : v (o + 4) ((v o 7 - 1 - i) % 30) = 0 <;> simp [h2, h6, cOd]
  · simp only [mX4_isOdd, sX4_isOdd, wE_I, wE_V, wE_F, wE_A, wE_N, wE_1, wE_2, wE_D, wE_B, wE_If, wE_C, wE_CV, wE_SL, wE_SA, wA_0, wA_1, wC_B, wC_E, wC_And, wC_Or, wC_Not, wS_Skip, wS_Brk, wS_Cnt, wS_RetV, wS_Ret, wS_Seq, wS_Set, wS_Inc, wS_Do, wS_Put, wS_PutC, wS_Arr, wS_ArrC, wS_If, wS_Sw, wS_F0, wS_F1, wM_q, lu_ap, aL_ap, ct_0, ct_1, ct_2, ct_3, ct_4, ct_5, headD_1, List.mem_cons, List.not_mem_nil, or_false, false_or, or_true, true_or, true_and, and_true, false_and, and_false, not_true_eq_false, not_false_eq_true, if_true, if_false, nr_20, nr_24, nr_40, nr_41, nr_44, pt_lt, pt_ge, pt_eq, pt_ne, pt_gt, pt_le, pt_E, pt_N, pt_F, ite_10, ite_11, ne_eq, and_self, or_self, decide_true, decide_false, Bool.not_true, Bool.not_false, Bool.false_eq_true, Nat.reduceEqDiff, Nat.reduceAdd, Int.reduceEq, Int.reduceLT, Int.reduceLE, Int.reduceNeg, Int.reduceAdd, Int.reduceSub, Int.reduceMul, reduceCtorEq, iA, iS, iM, iD, iR, iN, lA, lS, lM, lD, lR, hO.k, wM_of (q_slotOf hO hr), hi, h2, od]
    simp [h2]
theorem q_oddFrom {o i n : Int} (hO : LOu S v o) (hr : 0 ≤ v o 7 ∧ v o 7 ≤ 100000) (hi : 0 ≤ i ∧ i ≤ 30) (hn : 0 ≤ n ∧ n ≤ 30) : mX4_oddFrom [o, i, n] S v = some (nP (od (cKo v o) (cOd v o) i) n.toNat, v) := by
  apply wM_eq
  have en : w32 (i + n) = i + n := w32_e (by omega)
  simp only [mX4_oddFrom, sX4_oddFrom, wE_I, wE_V, wE_F, wE_A, wE_N, wE_1, wE_2, wE_D, wE_B, wE_If, wE_C, wE_CV, wE_SL, wE_SA, wA_0, wA_1, wC_B, wC_E, wC_And, wC_Or, wC_Not, wS_Skip, wS_Brk, wS_Cnt, wS_RetV, wS_Ret, wS_Seq, wS_Set, wS_Inc, wS_Do, wS_Put, wS_PutC, wS_Arr, wS_ArrC, wS_If, wS_Sw, wS_F0, wS_F1, wM_q, lu_ap, aL_ap, ct_0, ct_1, ct_2, ct_3, ct_4, ct_5, headD_1, List.mem_cons, List.not_mem_nil, or_false, false_or, or_true, true_or, true_and, and_true, false_and, and_false, not_true_eq_false, not_false_eq_true, if_true, if_false, nr_20, nr_24, nr_40, nr_41, nr_44, pt_lt, pt_ge, pt_eq, pt_ne, pt_gt, pt_le, pt_E, pt_N, pt_F, ite_10, ite_11, ne_eq, and_self, or_self, decide_true, decide_false, Bool.not_true, Bool.not_false, Bool.false_eq_true, Nat.reduceEqDiff, Nat.reduceAdd, Int.reduceEq, Int.reduceLT, Int.reduceLE, Int.reduceNeg, Int.reduceAdd, Int.reduceSub, Int.reduceMul, reduceCtorEq, iA, iS, iM, iD, iR, iN, lA, lS, lM, lD, lR]
  refine wS_For n.toNat (fun j M w => (M 0 = o ∧ M 1 = i ∧ M 2 = n ∧ M 3 = nP (od (cKo v o) (cOd v o) i) j ∧ M 4 = i + j) ∧ v = w) (by clear en; omega) ?_ ?_ ?_
  · simp [lu_ap, aL_ap, ct_0, ct_2, nP]
  · rintro j M w hj ⟨⟨m0, m1, m2, m3, m4⟩, rfl⟩
    have hl : i + (j : Int) < i + n := by clear en; omega
    have h0 : 0 ≤ i + (j : Int) := by clear en; omega
    have ej : w32 (i + (j : Int) + 1) = i + ((j + 1 : Nat) : Int) := by clear en; rw [w32_e (by omega)]; omega
    have eo : od (cKo v o) (cOd v o) (i + j) 0 = od (cKo v o) (cOd v o) i j := by unfold od; simp
    simp only [cX4_oddFrom_1, bX4_oddFrom_1, uX4_oddFrom_1, wE_I, wE_V, wE_F, wE_A, wE_N, wE_1, wE_2, wE_D, wE_B, wE_If, wE_C, wE_CV, wE_SL, wE_SA, wA_0, wA_1, wC_B, wC_E, wC_And, wC_Or, wC_Not, wS_Skip, wS_Brk, wS_Cnt, wS_RetV, wS_Ret, wS_Seq, wS_Set, wS_Inc, wS_Do, wS_Put, wS_PutC, wS_Arr, wS_ArrC, wS_If, wS_Sw, wS_F0, wS_F1, wM_q, lu_ap, aL_ap, ct_0, ct_1, ct_2, ct_3, ct_4, ct_5, headD_1, List.mem_cons, List.not_mem_nil, or_false, false_or, or_true, true_or, true_and, and_true, false_and, and_false, not_true_eq_false, not_false_eq_true, if_true, if_false, nr_20, nr_24, nr_40, nr_41, nr_44, pt_lt, pt_ge, pt_eq, pt_ne, pt_gt, pt_le, pt_E, pt_N, pt_F, ite_10, ite_11, ne_eq, and_self, or_self, decide_true, decide_false, Bool.not_true, Bool.not_false, Bool.false_eq_true, Nat.reduceEqDiff, Nat.reduceAdd, Int.reduceEq, Int.reduceLT, Int.reduceLE, Int.reduceNeg, Int.reduceAdd, Int.reduceSub, Int.reduceMul, reduceCtorEq, iA, iS, iM, iD, iR, iN, lA, lS, lM, lD, lR, hO.k, m0, m1, m2, m3, m4, en, hl, wM_of (q_isOdd hO hr h0), ej, eo, w32_n _ (show j < 1000 by clear en ej; omega), nP]
    by_cases h1 : od (cKo v o) (cOd v o) i j = true <;> simp [h1]
  · rintro M w ⟨⟨m0, m1, m2, m3, m4⟩, rfl⟩
    have hl : ¬ i + (n.toNat : Int) < i + n := by clear en; omega
    simp only [cX4_oddFrom_1, wE_I, wE_V, wE_F, wE_A, wE_N, wE_1, wE_2, wE_D, wE_B, wE_If, wE_C, wE_CV, wE_SL, wE_SA, wA_0, wA_1, wC_B, wC_E, wC_And, wC_Or, wC_Not, wS_Skip, wS_Brk, wS_Cnt, wS_RetV, wS_Ret, wS_Seq, wS_Set, wS_Inc, wS_Do, wS_Put, wS_PutC, wS_Arr, wS_ArrC, wS_If, wS_Sw, wS_F0, wS_F1, wM_q, lu_ap, aL_ap, ct_0, ct_1, ct_2, ct_3, ct_4, ct_5, headD_1, List.mem_cons, List.not_mem_nil, or_false, false_or, or_true, true_or, true_and, and_true, false_and, and_false, not_true_eq_false, not_false_eq_true, if_true, if_false, nr_20, nr_24, nr_40, nr_41, nr_44, pt_lt, pt_ge, pt_eq, pt_ne, pt_gt, pt_le, pt_E, pt_N, pt_F, ite_10, ite_11, ne_eq, and_self, or_self, decide_true, decide_false, Bool.not_true, Bool.not_false, Bool.false_eq_true, Nat.reduceEqDiff, Nat.reduceAdd, Int.reduceEq, Int.reduceLT, Int.reduceLE, Int.reduceNeg, Int.reduceAdd, Int.reduceSub, Int.reduceMul, reduceCtorEq, iA, iS, iM, iD, iR, iN, lA, lS, lM, lD, lR, m0, m1, m2, m3, m4, en, hl]
theorem q_tellAhead {o n p : Int} (hO : LOu S v o) (hr : RO v o) (hn : 1 ≤ n ∧ n ≤ 100) (hp : 0 ≤ p ∧ p < 24) : mX4_tellAhead [o, n, p] S v = some (hd (ahL (v o 1) (v o 2) (n.toNat - 1) + v o 2 + v (o + 1) p), v) := by
  have b1 := hr.2.2.1
  have b2 := hr.2.2.2 p hp.1 hp.2
  have bl := fun k => ahL_b (t := v o 2) hr.2.1 k
  apply wM_eq
  simp only [mX4_tellAhead, sX4_tellAhead, wE_I, wE_V, wE_F, wE_A, wE_N, wE_1, wE_2, wE_D, wE_B, wE_If, wE_C, wE_CV, wE_SL, wE_SA, wA_0, wA_1, wC_B, wC_E, wC_And, wC_Or, wC_Not, wS_Skip, wS_Brk, wS_Cnt, wS_RetV, wS_Ret, wS_Seq, wS_Set, wS_Inc, wS_Do, wS_Put, wS_PutC, wS_Arr, wS_ArrC, wS_If, wS_Sw, wS_F0, wS_F1, wM_q, lu_ap, aL_ap, ct_0, ct_1, ct_2, ct_3, ct_4, ct_5, headD_1, List.mem_cons, List.not_mem_nil, or_false, false_or, or_true, true_or, true_and, and_true, false_and, and_false, not_true_eq_false, not_false_eq_true, if_true, if_false, nr_20, nr_24, nr_40, nr_41, nr_44, pt_lt, pt_ge, pt_eq, pt_ne, pt_gt, pt_le, pt_E, pt_N, pt_F, ite_10, ite_11, ne_eq, and_self, or_self, decide_true, decide_false, Bool.not_true, Bool.not_false, Bool.false_eq_true, Nat.reduceEqDiff, Nat.reduceAdd, Int.reduceEq, Int.reduceLT, Int.reduceLE, Int.reduceNeg, Int.reduceAdd, Int.reduceSub, Int.reduceMul, reduceCtorEq, iA, iS, iM, iD, iR, iN, lA, lS, lM, lD, lR, hO.k]
  refine wS_For (n.toNat - 1) (fun j M w => (M 0 = o ∧ M 1 = n ∧ M 2 = p ∧ M 3 = ahL (v o 1) (v o 2) j ∧ M 4 = 1 + j) ∧ v = w) (by omega) ?_ ?_ ?_
  · simp [lu_ap, aL_ap, ct_0, ct_2, ahL]
  · rintro j M w hj ⟨⟨m0, m1, m2, m3, m4⟩, rfl⟩
    have hl : 1 + (j : Int) < n := by omega
    have b3 := bl j
    have e1 : w64 (ahL (v o 1) (v o 2) j + v o 2) = ahL (v o 1) (v o 2) j + v o 2 := by
      generalize ahL (v o 1) (v o 2) j = z at b3 ⊢
      exact w64_e (by omega)
    have ej : w32 (1 + (j : Int) + 1) = 1 + ((j + 1 : Nat) : Int) := by clear e1 b3; rw [w32_e (by omega)]; omega
    simp only [cX4_tellAhead_1, bX4_tellAhead_1, uX4_tellAhead_1, wE_I, wE_V, wE_F, wE_A, wE_N, wE_1, wE_2, wE_D, wE_B, wE_If, wE_C, wE_CV, wE_SL, wE_SA, wA_0, wA_1, wC_B, wC_E, wC_And, wC_Or, wC_Not, wS_Skip, wS_Brk, wS_Cnt, wS_RetV, wS_Ret, wS_Seq, wS_Set, wS_Inc, wS_Do, wS_Put, wS_PutC, wS_Arr, wS_ArrC, wS_If, wS_Sw, wS_F0, wS_F1, wM_q, lu_ap, aL_ap, ct_0, ct_1, ct_2, ct_3, ct_4, ct_5, headD_1, List.mem_cons, List.not_mem_nil, or_false, false_or, or_true, true_or, true_and, and_true, false_and, and_false, not_true_eq_false, not_false_eq_true, if_true, if_false, nr_20, nr_24, nr_40, nr_41, nr_44, pt_lt, pt_ge, pt_eq, pt_ne, pt_gt, pt_le, pt_E, pt_N, pt_F, ite_10, ite_11, ne_eq, and_self, or_self, decide_true, decide_false, Bool.not_true, Bool.not_false, Bool.false_eq_true, Nat.reduceEqDiff, Nat.reduceAdd, Int.reduceEq, Int.reduceLT, Int.reduceLE, Int.reduceNeg, Int.reduceAdd, Int.reduceSub, Int.reduceMul, reduceCtorEq, iA, iS, iM, iD, iR, iN, lA, lS, lM, lD, lR, hO.k, m0, m1, m2, m3, m4, hl, e1, wM_of q_held, ej, ahL]
  · rintro M w ⟨⟨m0, m1, m2, m3, m4⟩, rfl⟩
    have hl : ¬ 1 + ((n.toNat - 1 : Nat) : Int) < n := by omega
    have b3 := bl (n.toNat - 1)
    have e1 : w64 (ahL (v o 1) (v o 2) (n.toNat - 1) + v o 2) = ahL (v o 1) (v o 2) (n.toNat - 1) + v o 2 := by
      generalize ahL (v o 1) (v o 2) (n.toNat - 1) = z at b3 ⊢
      exact w64_e (by omega)
    have e2 : w64 (ahL (v o 1) (v o 2) (n.toNat - 1) + v o 2 + v (o + 1) p) = ahL (v o 1) (v o 2) (n.toNat - 1) + v o 2 + v (o + 1) p := by
      clear e1
      generalize ahL (v o 1) (v o 2) (n.toNat - 1) = z at b3 ⊢
      exact w64_e (by omega)
    simp only [cX4_tellAhead_1, wE_I, wE_V, wE_F, wE_A, wE_N, wE_1, wE_2, wE_D, wE_B, wE_If, wE_C, wE_CV, wE_SL, wE_SA, wA_0, wA_1, wC_B, wC_E, wC_And, wC_Or, wC_Not, wS_Skip, wS_Brk, wS_Cnt, wS_RetV, wS_Ret, wS_Seq, wS_Set, wS_Inc, wS_Do, wS_Put, wS_PutC, wS_Arr, wS_ArrC, wS_If, wS_Sw, wS_F0, wS_F1, wM_q, lu_ap, aL_ap, ct_0, ct_1, ct_2, ct_3, ct_4, ct_5, headD_1, List.mem_cons, List.not_mem_nil, or_false, false_or, or_true, true_or, true_and, and_true, false_and, and_false, not_true_eq_false, not_false_eq_true, if_true, if_false, nr_20, nr_24, nr_40, nr_41, nr_44, pt_lt, pt_ge, pt_eq, pt_ne, pt_gt, pt_le, pt_E, pt_N, pt_F, ite_10, ite_11, ne_eq, and_self, or_self, decide_true, decide_false, Bool.not_true, Bool.not_false, Bool.false_eq_true, Nat.reduceEqDiff, Nat.reduceAdd, Int.reduceEq, Int.reduceLT, Int.reduceLE, Int.reduceNeg, Int.reduceAdd, Int.reduceSub, Int.reduceMul, reduceCtorEq, iA, iS, iM, iD, iR, iN, lA, lS, lM, lD, lR, hO.k, hO.p3, hO.a1, hO.n1, m0, m1, m2, m3, m4, hl, hp, e1, e2, wM_of q_held]
theorem q_outlook (h : RC S v b P s) {m : Int} (hm : 0 ≤ m ∧ m < v P 1) : LOu S v (s + (5 + 6 * m)) := h.st.o m hm.1 (by have := h.2.2.2.2.2.2.1; omega)
theorem q_forecast (h : RC S v b P s) {m x : Int} [Decidable (hF v P m)] : mX11_forecast [b, m, x] S v = some (if hF v P m then (if x = 0 then v (s + (5 + 6 * m)) 1 else if x = 1 then v (s + (5 + 6 * m)) 2 else if x = 2 then (if v (s + (5 + 6 * m)) 0 = 0 then 0 else 1) else if x = 3 then v (P + (9 + m)) 6 else if x = 4 then v (P + (9 + m)) 10 else if x = 5 then cKo v (s + (5 + 6 * m)) else -2147483648) else -2147483648, v) := by
  apply wM_eq
  by_cases hm : hF v P m
  · have hL := h.pl
    have hst := h.st
    have hO := q_outlook h hm.1
    have hm4 : m < 4 := by have := h.2.2.2.2.2.2.1; have := hm.1; omega
    simp only [mX11_forecast, sX11_forecast, wE_I, wE_V, wE_F, wE_A, wE_N, wE_1, wE_2, wE_D, wE_B, wE_If, wE_C, wE_CV, wE_SL, wE_SA, wA_0, wA_1, wC_B, wC_E, wC_And, wC_Or, wC_Not, wS_Skip, wS_Brk, wS_Cnt, wS_RetV, wS_Ret, wS_Seq, wS_Set, wS_Inc, wS_Do, wS_Put, wS_PutC, wS_Arr, wS_ArrC, wS_If, wS_Sw, wS_F0, wS_F1, wM_q, lu_ap, aL_ap, ct_0, ct_1, ct_2, ct_3, ct_4, ct_5, headD_1, List.mem_cons, List.not_mem_nil, or_false, false_or, or_true, true_or, true_and, and_true, false_and, and_false, not_true_eq_false, not_false_eq_true, if_true, if_false, nr_20, nr_24, nr_40, nr_41, nr_44, pt_lt, pt_ge, pt_eq, pt_ne, pt_gt, pt_le, pt_E, pt_N, pt_F, ite_10, ite_11, ne_eq, and_self, or_self, decide_true, decide_false, Bool.not_true, Bool.not_false, Bool.false_eq_true, Nat.reduceEqDiff, Nat.reduceAdd, Int.reduceEq, Int.reduceLT, Int.reduceLE, Int.reduceNeg, Int.reduceAdd, Int.reduceSub, Int.reduceMul, reduceCtorEq, iA, iS, iM, iD, iR, iN, lA, lS, lM, lD, lR, h.1.k, h.2.1, wM_of (q_hasForecast h), hm, wM_of (q_now h), hst.k, hst.p3, hst.a2, hst.n2, hst.eo _ hm.1.1 hm4, hm.1.1, hm4, hO.k, hL.k, hL.p3, hL.a1, hL.n1, hL.em _ hm.1.1 hm4, hL.m _ hm.1.1 hm4, wM_of (q_keptO hO)]
    by_cases x0 : x = 0
    · simp [x0]
    · by_cases x1 : x = 1
      · simp [x1]
      · by_cases x2 : x = 2
        · by_cases h0 : v (s + (5 + 6 * m)) 0 = 0 <;> simp [x2, h0]
        · by_cases x3 : x = 3
          · simp [x3]
          · by_cases x4 : x = 4
            · simp [x4]
            · by_cases x5 : x = 5
              · simp [x5]
              · simp [x0, x1, x2, x3, x4, x5]
  · simp only [mX11_forecast, sX11_forecast, wE_I, wE_V, wE_F, wE_A, wE_N, wE_1, wE_2, wE_D, wE_B, wE_If, wE_C, wE_CV, wE_SL, wE_SA, wA_0, wA_1, wC_B, wC_E, wC_And, wC_Or, wC_Not, wS_Skip, wS_Brk, wS_Cnt, wS_RetV, wS_Ret, wS_Seq, wS_Set, wS_Inc, wS_Do, wS_Put, wS_PutC, wS_Arr, wS_ArrC, wS_If, wS_Sw, wS_F0, wS_F1, wM_q, lu_ap, aL_ap, ct_0, ct_1, ct_2, ct_3, ct_4, ct_5, headD_1, List.mem_cons, List.not_mem_nil, or_false, false_or, or_true, true_or, true_and, and_true, false_and, and_false, not_true_eq_false, not_false_eq_true, if_true, if_false, nr_20, nr_24, nr_40, nr_41, nr_44, pt_lt, pt_ge, pt_eq, pt_ne, pt_gt, pt_le, pt_E, pt_N, pt_F, ite_10, ite_11, ne_eq, and_self, or_self, decide_true, decide_false, Bool.not_true, Bool.not_false, Bool.false_eq_true, Nat.reduceEqDiff, Nat.reduceAdd, Int.reduceEq, Int.reduceLT, Int.reduceLE, Int.reduceNeg, Int.reduceAdd, Int.reduceSub, Int.reduceMul, reduceCtorEq, iA, iS, iM, iD, iR, iN, lA, lS, lM, lD, lR, h.1.k, wM_of (q_hasForecast h), hm]
theorem q_place (h : RC S v b P s) {m p x : Int} [Decidable (hF v P m)] (hs : hF v P m → v (P + (9 + m)) 6 ≤ 24) : mX11_place [b, m, p, x] S v = some (if hF v P m ∧ 0 ≤ p ∧ p < v (P + (9 + m)) 6 then (if x = 0 then v (s + (5 + 6 * m) + 1) p else if x = 1 then v (s + (5 + 6 * m) + 2) p else -2147483648) else -2147483648, v) := by
  apply wM_eq
  by_cases hm : hF v P m
  · have hL := h.pl
    have hst := h.st
    have hO := q_outlook h hm.1
    have hs' := hs hm
    have hm4 : m < 4 := by have := h.2.2.2.2.2.2.1; have := hm.1; omega
    by_cases hp : 0 ≤ p ∧ p < v (P + (9 + m)) 6
    · have e1 : ¬ p < 0 := by omega
      have e2 : ¬ v (P + (9 + m)) 6 ≤ p := by omega
      have e3 : p < 24 := by omega
      simp only [mX11_place, sX11_place, wE_I, wE_V, wE_F, wE_A, wE_N, wE_1, wE_2, wE_D, wE_B, wE_If, wE_C, wE_CV, wE_SL, wE_SA, wA_0, wA_1, wC_B, wC_E, wC_And, wC_Or, wC_Not, wS_Skip, wS_Brk, wS_Cnt, wS_RetV, wS_Ret, wS_Seq, wS_Set, wS_Inc, wS_Do, wS_Put, wS_PutC, wS_Arr, wS_ArrC, wS_If, wS_Sw, wS_F0, wS_F1, wM_q, lu_ap, aL_ap, ct_0, ct_1, ct_2, ct_3, ct_4, ct_5, headD_1, List.mem_cons, List.not_mem_nil, or_false, false_or, or_true, true_or, true_and, and_true, false_and, and_false, not_true_eq_false, not_false_eq_true, if_true, if_false, nr_20, nr_24, nr_40, nr_41, nr_44, pt_lt, pt_ge, pt_eq, pt_ne, pt_gt, pt_le, pt_E, pt_N, pt_F, ite_10, ite_11, ne_eq, and_self, or_self, decide_true, decide_false, Bool.not_true, Bool.not_false, Bool.false_eq_true, Nat.reduceEqDiff, Nat.reduceAdd, Int.reduceEq, Int.reduceLT, Int.reduceLE, Int.reduceNeg, Int.reduceAdd, Int.reduceSub, Int.reduceMul, reduceCtorEq, iA, iS, iM, iD, iR, iN, lA, lS, lM, lD, lR, h.1.k, h.2.1, wM_of (q_hasForecast h), hm, wM_of (q_now h), hst.k, hst.p3, hst.a2, hst.n2, hst.eo _ hm.1.1 hm4, hm.1.1, hm4, hO.k, hO.p3, hO.p4, hO.a1, hO.a2, hO.n1, hO.n2, hL.k, hL.p3, hL.a1, hL.n1, hL.em _ hm.1.1 hm4, hL.m _ hm.1.1 hm4, hp, e1, e2, e3]
      by_cases x0 : x = 0
      · simp [x0]
      · by_cases x1 : x = 1
        · simp [x1]
        · simp [x0, x1]
    · simp only [mX11_place, sX11_place, wE_I, wE_V, wE_F, wE_A, wE_N, wE_1, wE_2, wE_D, wE_B, wE_If, wE_C, wE_CV, wE_SL, wE_SA, wA_0, wA_1, wC_B, wC_E, wC_And, wC_Or, wC_Not, wS_Skip, wS_Brk, wS_Cnt, wS_RetV, wS_Ret, wS_Seq, wS_Set, wS_Inc, wS_Do, wS_Put, wS_PutC, wS_Arr, wS_ArrC, wS_If, wS_Sw, wS_F0, wS_F1, wM_q, lu_ap, aL_ap, ct_0, ct_1, ct_2, ct_3, ct_4, ct_5, headD_1, List.mem_cons, List.not_mem_nil, or_false, false_or, or_true, true_or, true_and, and_true, false_and, and_false, not_true_eq_false, not_false_eq_true, if_true, if_false, nr_20, nr_24, nr_40, nr_41, nr_44, pt_lt, pt_ge, pt_eq, pt_ne, pt_gt, pt_le, pt_E, pt_N, pt_F, ite_10, ite_11, ne_eq, and_self, or_self, decide_true, decide_false, Bool.not_true, Bool.not_false, Bool.false_eq_true, Nat.reduceEqDiff, Nat.reduceAdd, Int.reduceEq, Int.reduceLT, Int.reduceLE, Int.reduceNeg, Int.reduceAdd, Int.reduceSub, Int.reduceMul, reduceCtorEq, iA, iS, iM, iD, iR, iN, lA, lS, lM, lD, lR, h.1.k, h.2.1, wM_of (q_hasForecast h), hm, hm.1.1, hm4, hL.k, hL.p3, hL.a1, hL.n1, hL.em _ hm.1.1 hm4, hL.m _ hm.1.1 hm4, hp]
      by_cases e1 : p < 0
      · simp [e1]
      · have e2 : v (P + (9 + m)) 6 ≤ p := by omega
        simp [e1, e2]
  · simp only [mX11_place, sX11_place, wE_I, wE_V, wE_F, wE_A, wE_N, wE_1, wE_2, wE_D, wE_B, wE_If, wE_C, wE_CV, wE_SL, wE_SA, wA_0, wA_1, wC_B, wC_E, wC_And, wC_Or, wC_Not, wS_Skip, wS_Brk, wS_Cnt, wS_RetV, wS_Ret, wS_Seq, wS_Set, wS_Inc, wS_Do, wS_Put, wS_PutC, wS_Arr, wS_ArrC, wS_If, wS_Sw, wS_F0, wS_F1, wM_q, lu_ap, aL_ap, ct_0, ct_1, ct_2, ct_3, ct_4, ct_5, headD_1, List.mem_cons, List.not_mem_nil, or_false, false_or, or_true, true_or, true_and, and_true, false_and, and_false, not_true_eq_false, not_false_eq_true, if_true, if_false, nr_20, nr_24, nr_40, nr_41, nr_44, pt_lt, pt_ge, pt_eq, pt_ne, pt_gt, pt_le, pt_E, pt_N, pt_F, ite_10, ite_11, ne_eq, and_self, or_self, decide_true, decide_false, Bool.not_true, Bool.not_false, Bool.false_eq_true, Nat.reduceEqDiff, Nat.reduceAdd, Int.reduceEq, Int.reduceLT, Int.reduceLE, Int.reduceNeg, Int.reduceAdd, Int.reduceSub, Int.reduceMul, reduceCtorEq, iA, iS, iM, iD, iR, iN, lA, lS, lM, lD, lR, h.1.k, wM_of (q_hasForecast h), hm]
theorem q_toldOf {o i : Int} (hO : LOu S v o) (hr : 0 ≤ v o 7 ∧ v o 7 ≤ 100000) (hi : 0 ≤ i ∧ i < cKo v o) : mX4_toldOf [o, i] S v = some (cTo v o i, v) := by
  apply wM_eq
  have h5 : 0 ≤ (v o 7 - 1 - i) % 30 ∧ (v o 7 - 1 - i) % 30 < 30 := by omega
  have h6 : ¬ (v o 7 - 1 - i) % 30 < 0 := by omega
  simp only [mX4_toldOf, sX4_toldOf, wE_I, wE_V, wE_F, wE_A, wE_N, wE_1, wE_2, wE_D, wE_B, wE_If, wE_C, wE_CV, wE_SL, wE_SA, wA_0, wA_1, wC_B, wC_E, wC_And, wC_Or, wC_Not, wS_Skip, wS_Brk, wS_Cnt, wS_RetV, wS_Ret, wS_Seq, wS_Set, wS_Inc, wS_Do, wS_Put, wS_PutC, wS_Arr, wS_ArrC, wS_If, wS_Sw, wS_F0, wS_F1, wM_q, lu_ap, aL_ap, ct_0, ct_1, ct_2, ct_3, ct_4, ct_5, headD_1, List.mem_cons, List.not_mem_nil, or_false, false_or, or_true, true_or, true_and, and_true, false_and, and_false, not_true_eq_false, not_false_eq_true, if_true, if_false, nr_20, nr_24, nr_40, nr_41, nr_44, pt_lt, pt_ge, pt_eq, pt_ne, pt_gt, pt_le, pt_E, pt_N, pt_F, ite_10, ite_11, ne_eq, and_self, or_self, decide_true, decide_false, Bool.not_true, Bool.not_false, Bool.false_eq_true, Nat.reduceEqDiff, Nat.reduceAdd, Int.reduceEq, Int.reduceLT, Int.reduceLE, Int.reduceNeg, Int.reduceAdd, Int.reduceSub, Int.reduceMul, reduceCtorEq, iA, iS, iM, iD, iR, iN, lA, lS, lM, lD, lR, hO.k, wM_of (q_slotOf hO hr), hi, h5, h6, hO.p5, hO.a3, hO.n3, cTo]
theorem q_told (h : RC S v b P s) {m i x : Int} [Decidable (hF v P m)] (hr : hF v P m → RO v (s + (5 + 6 * m))) : mX11_told [b, m, i, x] S v = some (if hF v P m ∧ 0 ≤ i ∧ i < cKo v (s + (5 + 6 * m)) then (if x = 0 then cTo v (s + (5 + 6 * m)) i else if x = 1 then (if cOd v (s + (5 + 6 * m)) i = 0 then 0 else 1) else -2147483648) else -2147483648, v) := by
  apply wM_eq
  by_cases hm : hF v P m
  · have hst := h.st
    have hO := q_outlook h hm.1
    have hr' := (hr hm).1
    have hm4 : m < 4 := by have := h.2.2.2.2.2.2.1; have := hm.1; omega
    by_cases hi : 0 ≤ i ∧ i < cKo v (s + (5 + 6 * m))
    · have e1 : ¬ i < 0 := by omega
      have e2 : ¬ cKo v (s + (5 + 6 * m)) ≤ i := by omega
      simp only [mX11_told, sX11_told, wE_I, wE_V, wE_F, wE_A, wE_N, wE_1, wE_2, wE_D, wE_B, wE_If, wE_C, wE_CV, wE_SL, wE_SA, wA_0, wA_1, wC_B, wC_E, wC_And, wC_Or, wC_Not, wS_Skip, wS_Brk, wS_Cnt, wS_RetV, wS_Ret, wS_Seq, wS_Set, wS_Inc, wS_Do, wS_Put, wS_PutC, wS_Arr, wS_ArrC, wS_If, wS_Sw, wS_F0, wS_F1, wM_q, lu_ap, aL_ap, ct_0, ct_1, ct_2, ct_3, ct_4, ct_5, headD_1, List.mem_cons, List.not_mem_nil, or_false, false_or, or_true, true_or, true_and, and_true, false_and, and_false, not_true_eq_false, not_false_eq_true, if_true, if_false, nr_20, nr_24, nr_40, nr_41, nr_44, pt_lt, pt_ge, pt_eq, pt_ne, pt_gt, pt_le, pt_E, pt_N, pt_F, ite_10, ite_11, ne_eq, and_self, or_self, decide_true, decide_false, Bool.not_true, Bool.not_false, Bool.false_eq_true, Nat.reduceEqDiff, Nat.reduceAdd, Int.reduceEq, Int.reduceLT, Int.reduceLE, Int.reduceNeg, Int.reduceAdd, Int.reduceSub, Int.reduceMul, reduceCtorEq, iA, iS, iM, iD, iR, iN, lA, lS, lM, lD, lR, h.1.k, wM_of (q_hasForecast h), hm, wM_of (q_now h), hst.k, hst.p3, hst.a2, hst.n2, hst.eo _ hm.1.1 hm4, hm.1.1, hm4, hO.k, wM_of (q_keptO hO), hi, e1, e2, wM_of (q_toldOf hO hr' hi), wM_of (q_isOdd hO hr' hi.1), od]
      by_cases x0 : x = 0
      · simp [x0]
      · by_cases x1 : x = 1
        · by_cases h0 : cOd v (s + (5 + 6 * m)) i = 0 <;> simp [x1, h0, hi]
        · simp [x0, x1]
    · simp only [mX11_told, sX11_told, wE_I, wE_V, wE_F, wE_A, wE_N, wE_1, wE_2, wE_D, wE_B, wE_If, wE_C, wE_CV, wE_SL, wE_SA, wA_0, wA_1, wC_B, wC_E, wC_And, wC_Or, wC_Not, wS_Skip, wS_Brk, wS_Cnt, wS_RetV, wS_Ret, wS_Seq, wS_Set, wS_Inc, wS_Do, wS_Put, wS_PutC, wS_Arr, wS_ArrC, wS_If, wS_Sw, wS_F0, wS_F1, wM_q, lu_ap, aL_ap, ct_0, ct_1, ct_2, ct_3, ct_4, ct_5, headD_1, List.mem_cons, List.not_mem_nil, or_false, false_or, or_true, true_or, true_and, and_true, false_and, and_false, not_true_eq_false, not_false_eq_true, if_true, if_false, nr_20, nr_24, nr_40, nr_41, nr_44, pt_lt, pt_ge, pt_eq, pt_ne, pt_gt, pt_le, pt_E, pt_N, pt_F, ite_10, ite_11, ne_eq, and_self, or_self, decide_true, decide_false, Bool.not_true, Bool.not_false, Bool.false_eq_true, Nat.reduceEqDiff, Nat.reduceAdd, Int.reduceEq, Int.reduceLT, Int.reduceLE, Int.reduceNeg, Int.reduceAdd, Int.reduceSub, Int.reduceMul, reduceCtorEq, iA, iS, iM, iD, iR, iN, lA, lS, lM, lD, lR, h.1.k, wM_of (q_hasForecast h), hm, wM_of (q_now h), hst.k, hst.p3, hst.a2, hst.n2, hst.eo _ hm.1.1 hm4, hm.1.1, hm4, hO.k, wM_of (q_keptO hO), hi]
      by_cases e1 : i < 0
      · simp [e1]
      · have e2 : cKo v (s + (5 + 6 * m)) ≤ i := by omega
        simp [e1, e2]
  · simp only [mX11_told, sX11_told, wE_I, wE_V, wE_F, wE_A, wE_N, wE_1, wE_2, wE_D, wE_B, wE_If, wE_C, wE_CV, wE_SL, wE_SA, wA_0, wA_1, wC_B, wC_E, wC_And, wC_Or, wC_Not, wS_Skip, wS_Brk, wS_Cnt, wS_RetV, wS_Ret, wS_Seq, wS_Set, wS_Inc, wS_Do, wS_Put, wS_PutC, wS_Arr, wS_ArrC, wS_If, wS_Sw, wS_F0, wS_F1, wM_q, lu_ap, aL_ap, ct_0, ct_1, ct_2, ct_3, ct_4, ct_5, headD_1, List.mem_cons, List.not_mem_nil, or_false, false_or, or_true, true_or, true_and, and_true, false_and, and_false, not_true_eq_false, not_false_eq_true, if_true, if_false, nr_20, nr_24, nr_40, nr_41, nr_44, pt_lt, pt_ge, pt_eq, pt_ne, pt_gt, pt_le, pt_E, pt_N, pt_F, ite_10, ite_11, ne_eq, and_self, or_self, decide_true, decide_false, Bool.not_true, Bool.not_false, Bool.false_eq_true, Nat.reduceEqDiff, Nat.reduceAdd, Int.reduceEq, Int.reduceLT, Int.reduceLE, Int.reduceNeg, Int.reduceAdd, Int.reduceSub, Int.reduceMul, reduceCtorEq, iA, iS, iM, iD, iR, iN, lA, lS, lM, lD, lR, h.1.k, wM_of (q_hasForecast h), hm]
theorem q_odd (h : RC S v b P s) {m n : Int} [Decidable (hF v P m)] (hr : hF v P m → RO v (s + (5 + 6 * m))) : mX11_odd [b, m, n] S v = some (if hF v P m ∧ 1 ≤ n ∧ n ≤ 30 then nP (od (cKo v (s + (5 + 6 * m))) (cOd v (s + (5 + 6 * m))) 0) n.toNat else -2147483648, v) := by
  apply wM_eq
  by_cases hm : hF v P m
  · have hst := h.st
    have hO := q_outlook h hm.1
    have hr' := (hr hm).1
    have hm4 : m < 4 := by have := h.2.2.2.2.2.2.1; have := hm.1; omega
    by_cases hn : 1 ≤ n ∧ n ≤ 30
    · have e1 : ¬ n < 1 := by omega
      have e2 : ¬ 30 < n := by omega
      simp only [mX11_odd, sX11_odd, wE_I, wE_V, wE_F, wE_A, wE_N, wE_1, wE_2, wE_D, wE_B, wE_If, wE_C, wE_CV, wE_SL, wE_SA, wA_0, wA_1, wC_B, wC_E, wC_And, wC_Or, wC_Not, wS_Skip, wS_Brk, wS_Cnt, wS_RetV, wS_Ret, wS_Seq, wS_Set, wS_Inc, wS_Do, wS_Put, wS_PutC, wS_Arr, wS_ArrC, wS_If, wS_Sw, wS_F0, wS_F1, wM_q, lu_ap, aL_ap, ct_0, ct_1, ct_2, ct_3, ct_4, ct_5, headD_1, List.mem_cons, List.not_mem_nil, or_false, false_or, or_true, true_or, true_and, and_true, false_and, and_false, not_true_eq_false, not_false_eq_true, if_true, if_false, nr_20, nr_24, nr_40, nr_41, nr_44, pt_lt, pt_ge, pt_eq, pt_ne, pt_gt, pt_le, pt_E, pt_N, pt_F, ite_10, ite_11, ne_eq, and_self, or_self, decide_true, decide_false, Bool.not_true, Bool.not_false, Bool.false_eq_true, Nat.reduceEqDiff, Nat.reduceAdd, Int.reduceEq, Int.reduceLT, Int.reduceLE, Int.reduceNeg, Int.reduceAdd, Int.reduceSub, Int.reduceMul, reduceCtorEq, iA, iS, iM, iD, iR, iN, lA, lS, lM, lD, lR, h.1.k, wM_of (q_hasForecast h), hm, wM_of (q_now h), hst.k, hst.p3, hst.a2, hst.n2, hst.eo _ hm.1.1 hm4, hm.1.1, hm4, hO.k, hn, e1, e2, wM_of (q_oddFrom hO hr' ⟨Int.le_refl 0, by decide⟩ ⟨show 0 ≤ n by omega, hn.2⟩)]
    · simp only [mX11_odd, sX11_odd, wE_I, wE_V, wE_F, wE_A, wE_N, wE_1, wE_2, wE_D, wE_B, wE_If, wE_C, wE_CV, wE_SL, wE_SA, wA_0, wA_1, wC_B, wC_E, wC_And, wC_Or, wC_Not, wS_Skip, wS_Brk, wS_Cnt, wS_RetV, wS_Ret, wS_Seq, wS_Set, wS_Inc, wS_Do, wS_Put, wS_PutC, wS_Arr, wS_ArrC, wS_If, wS_Sw, wS_F0, wS_F1, wM_q, lu_ap, aL_ap, ct_0, ct_1, ct_2, ct_3, ct_4, ct_5, headD_1, List.mem_cons, List.not_mem_nil, or_false, false_or, or_true, true_or, true_and, and_true, false_and, and_false, not_true_eq_false, not_false_eq_true, if_true, if_false, nr_20, nr_24, nr_40, nr_41, nr_44, pt_lt, pt_ge, pt_eq, pt_ne, pt_gt, pt_le, pt_E, pt_N, pt_F, ite_10, ite_11, ne_eq, and_self, or_self, decide_true, decide_false, Bool.not_true, Bool.not_false, Bool.false_eq_true, Nat.reduceEqDiff, Nat.reduceAdd, Int.reduceEq, Int.reduceLT, Int.reduceLE, Int.reduceNeg, Int.reduceAdd, Int.reduceSub, Int.reduceMul, reduceCtorEq, iA, iS, iM, iD, iR, iN, lA, lS, lM, lD, lR, h.1.k, wM_of (q_hasForecast h), hm, hn]
      by_cases e1 : n < 1
      · simp [e1]
      · have e2 : 30 < n := by omega
        simp [e1, e2]
  · simp only [mX11_odd, sX11_odd, wE_I, wE_V, wE_F, wE_A, wE_N, wE_1, wE_2, wE_D, wE_B, wE_If, wE_C, wE_CV, wE_SL, wE_SA, wA_0, wA_1, wC_B, wC_E, wC_And, wC_Or, wC_Not, wS_Skip, wS_Brk, wS_Cnt, wS_RetV, wS_Ret, wS_Seq, wS_Set, wS_Inc, wS_Do, wS_Put, wS_PutC, wS_Arr, wS_ArrC, wS_If, wS_Sw, wS_F0, wS_F1, wM_q, lu_ap, aL_ap, ct_0, ct_1, ct_2, ct_3, ct_4, ct_5, headD_1, List.mem_cons, List.not_mem_nil, or_false, false_or, or_true, true_or, true_and, and_true, false_and, and_false, not_true_eq_false, not_false_eq_true, if_true, if_false, nr_20, nr_24, nr_40, nr_41, nr_44, pt_lt, pt_ge, pt_eq, pt_ne, pt_gt, pt_le, pt_E, pt_N, pt_F, ite_10, ite_11, ne_eq, and_self, or_self, decide_true, decide_false, Bool.not_true, Bool.not_false, Bool.false_eq_true, Nat.reduceEqDiff, Nat.reduceAdd, Int.reduceEq, Int.reduceLT, Int.reduceLE, Int.reduceNeg, Int.reduceAdd, Int.reduceSub, Int.reduceMul, reduceCtorEq, iA, iS, iM, iD, iR, iN, lA, lS, lM, lD, lR, h.1.k, wM_of (q_hasForecast h), hm]
theorem q_alarms (h : RC S v b P s) {m n k : Int} [Decidable (hF v P m)] (hr : hF v P m → RO v (s + (5 + 6 * m))) : mX11_alarms [b, m, n, k] S v = some (if hF v P m ∧ (1 ≤ n ∧ n ≤ 30) ∧ 0 ≤ k ∧ k ≤ 30 then nP (fun i => decide (k ≤ nP (od (cKo v (s + (5 + 6 * m))) (cOd v (s + (5 + 6 * m))) i) n.toNat)) (cKo v (s + (5 + 6 * m)) - n + 1).toNat else -2147483648, v) := by
  apply wM_eq
  by_cases hm : hF v P m
  · have hst := h.st
    have hO := q_outlook h hm.1
    have hr' := (hr hm).1
    have hm4 : m < 4 := by have := h.2.2.2.2.2.2.1; have := hm.1; omega
    by_cases hn : (1 ≤ n ∧ n ≤ 30) ∧ 0 ≤ k ∧ k ≤ 30
    · have e1 : ¬ n < 1 := by omega
      have e2 : ¬ 30 < n := by omega
      have e3 : ¬ k < 0 := by omega
      have e4 : ¬ 30 < k := by omega
      simp only [mX11_alarms, sX11_alarms, wE_I, wE_V, wE_F, wE_A, wE_N, wE_1, wE_2, wE_D, wE_B, wE_If, wE_C, wE_CV, wE_SL, wE_SA, wA_0, wA_1, wC_B, wC_E, wC_And, wC_Or, wC_Not, wS_Skip, wS_Brk, wS_Cnt, wS_RetV, wS_Ret, wS_Seq, wS_Set, wS_Inc, wS_Do, wS_Put, wS_PutC, wS_Arr, wS_ArrC, wS_If, wS_Sw, wS_F0, wS_F1, wM_q, lu_ap, aL_ap, ct_0, ct_1, ct_2, ct_3, ct_4, ct_5, headD_1, List.mem_cons, List.not_mem_nil, or_false, false_or, or_true, true_or, true_and, and_true, false_and, and_false, not_true_eq_false, not_false_eq_true, if_true, if_false, nr_20, nr_24, nr_40, nr_41, nr_44, pt_lt, pt_ge, pt_eq, pt_ne, pt_gt, pt_le, pt_E, pt_N, pt_F, ite_10, ite_11, ne_eq, and_self, or_self, decide_true, decide_false, Bool.not_true, Bool.not_false, Bool.false_eq_true, Nat.reduceEqDiff, Nat.reduceAdd, Int.reduceEq, Int.reduceLT, Int.reduceLE, Int.reduceNeg, Int.reduceAdd, Int.reduceSub, Int.reduceMul, reduceCtorEq, iA, iS, iM, iD, iR, iN, lA, lS, lM, lD, lR, h.1.k, wM_of (q_hasForecast h), hm, wM_of (q_now h), hst.k, hst.p3, hst.a2, hst.n2, hst.eo _ hm.1.1 hm4, hm.1.1, hm4, hn, e1, e2, e3, e4]
      generalize s + (5 + 6 * m) = o at *
      have hκ : 0 ≤ cKo v o ∧ cKo v o ≤ 30 := by unfold cKo; split <;> omega
      generalize hκ' : cKo v o = κ at *
      refine wS_For (κ - n + 1).toNat (fun j M w => (M 0 = b ∧ M 1 = m ∧ M 2 = n ∧ M 3 = k ∧ M 4 = o ∧ M 5 = nP (fun i => decide (k ≤ nP (od κ (cOd v o) i) n.toNat)) j ∧ M 6 = j) ∧ v = w) (by omega) ?_ ?_ ?_
      · simp [lu_ap, aL_ap, ct_0, ct_2, nP]
      · rintro j M w hj ⟨⟨m0, m1, m2, m3, m4, m5, m6⟩, rfl⟩
        have ej : w32 ((j : Int) + n) = j + n := w32_e (by omega)
        have hl : (j : Int) + n ≤ κ := by clear ej; omega
        have hj30 : 0 ≤ (j : Int) ∧ (j : Int) ≤ 30 := by clear ej; omega
        have hn30 : 0 ≤ n ∧ n ≤ 30 := by clear ej; omega
        simp only [cX11_alarms_1, bX11_alarms_1, uX11_alarms_1, wE_I, wE_V, wE_F, wE_A, wE_N, wE_1, wE_2, wE_D, wE_B, wE_If, wE_C, wE_CV, wE_SL, wE_SA, wA_0, wA_1, wC_B, wC_E, wC_And, wC_Or, wC_Not, wS_Skip, wS_Brk, wS_Cnt, wS_RetV, wS_Ret, wS_Seq, wS_Set, wS_Inc, wS_Do, wS_Put, wS_PutC, wS_Arr, wS_ArrC, wS_If, wS_Sw, wS_F0, wS_F1, wM_q, lu_ap, aL_ap, ct_0, ct_1, ct_2, ct_3, ct_4, ct_5, headD_1, List.mem_cons, List.not_mem_nil, or_false, false_or, or_true, true_or, true_and, and_true, false_and, and_false, not_true_eq_false, not_false_eq_true, if_true, if_false, nr_20, nr_24, nr_40, nr_41, nr_44, pt_lt, pt_ge, pt_eq, pt_ne, pt_gt, pt_le, pt_E, pt_N, pt_F, ite_10, ite_11, ne_eq, and_self, or_self, decide_true, decide_false, Bool.not_true, Bool.not_false, Bool.false_eq_true, Nat.reduceEqDiff, Nat.reduceAdd, Int.reduceEq, Int.reduceLT, Int.reduceLE, Int.reduceNeg, Int.reduceAdd, Int.reduceSub, Int.reduceMul, reduceCtorEq, iA, iS, iM, iD, iR, iN, lA, lS, lM, lD, lR, hO.k, m0, m1, m2, m3, m4, m5, m6, wM_of (q_keptO hO), wM_of (q_oddFrom hO hr' hj30 hn30), ej, hl, hκ', w32_s (show j < 1000 by clear ej; omega), w32_n _ (show j < 1000 by clear ej; omega), nP]
        by_cases h1 : k ≤ nP (od κ (cOd v o) j) n.toNat <;> simp [h1]
      · rintro M w ⟨⟨m0, m1, m2, m3, m4, m5, m6⟩, rfl⟩
        have ej : w32 (((κ - n + 1).toNat : Int) + n) = (κ - n + 1).toNat + n := w32_e (by omega)
        have hl : ¬ ((κ - n + 1).toNat : Int) + n ≤ κ := by clear ej; omega
        simp only [cX11_alarms_1, wE_I, wE_V, wE_F, wE_A, wE_N, wE_1, wE_2, wE_D, wE_B, wE_If, wE_C, wE_CV, wE_SL, wE_SA, wA_0, wA_1, wC_B, wC_E, wC_And, wC_Or, wC_Not, wS_Skip, wS_Brk, wS_Cnt, wS_RetV, wS_Ret, wS_Seq, wS_Set, wS_Inc, wS_Do, wS_Put, wS_PutC, wS_Arr, wS_ArrC, wS_If, wS_Sw, wS_F0, wS_F1, wM_q, lu_ap, aL_ap, ct_0, ct_1, ct_2, ct_3, ct_4, ct_5, headD_1, List.mem_cons, List.not_mem_nil, or_false, false_or, or_true, true_or, true_and, and_true, false_and, and_false, not_true_eq_false, not_false_eq_true, if_true, if_false, nr_20, nr_24, nr_40, nr_41, nr_44, pt_lt, pt_ge, pt_eq, pt_ne, pt_gt, pt_le, pt_E, pt_N, pt_F, ite_10, ite_11, ne_eq, and_self, or_self, decide_true, decide_false, Bool.not_true, Bool.not_false, Bool.false_eq_true, Nat.reduceEqDiff, Nat.reduceAdd, Int.reduceEq, Int.reduceLT, Int.reduceLE, Int.reduceNeg, Int.reduceAdd, Int.reduceSub, Int.reduceMul, reduceCtorEq, iA, iS, iM, iD, iR, iN, lA, lS, lM, lD, lR, hO.k, m0, m1, m2, m3, m4, m5, m6, wM_of (q_keptO hO), hκ', ej, hl]
    · simp only [mX11_alarms, sX11_alarms, wE_I, wE_V, wE_F, wE_A, wE_N, wE_1, wE_2, wE_D, wE_B, wE_If, wE_C, wE_CV, wE_SL, wE_SA, wA_0, wA_1, wC_B, wC_E, wC_And, wC_Or, wC_Not, wS_Skip, wS_Brk, wS_Cnt, wS_RetV, wS_Ret, wS_Seq, wS_Set, wS_Inc, wS_Do, wS_Put, wS_PutC, wS_Arr, wS_ArrC, wS_If, wS_Sw, wS_F0, wS_F1, wM_q, lu_ap, aL_ap, ct_0, ct_1, ct_2, ct_3, ct_4, ct_5, headD_1, List.mem_cons, List.not_mem_nil, or_false, false_or, or_true, true_or, true_and, and_true, false_and, and_false, not_true_eq_false, not_false_eq_true, if_true, if_false, nr_20, nr_24, nr_40, nr_41, nr_44, pt_lt, pt_ge, pt_eq, pt_ne, pt_gt, pt_le, pt_E, pt_N, pt_F, ite_10, ite_11, ne_eq, and_self, or_self, decide_true, decide_false, Bool.not_true, Bool.not_false, Bool.false_eq_true, Nat.reduceEqDiff, Nat.reduceAdd, Int.reduceEq, Int.reduceLT, Int.reduceLE, Int.reduceNeg, Int.reduceAdd, Int.reduceSub, Int.reduceMul, reduceCtorEq, iA, iS, iM, iD, iR, iN, lA, lS, lM, lD, lR, h.1.k, wM_of (q_hasForecast h), hm, hn]
      by_cases e1 : n < 1
      · simp [e1]
      · by_cases e2 : 30 < n
        · simp [e1, e2]
        · by_cases e3 : k < 0
          · simp [e1, e2, e3]
          · have e4 : 30 < k := by omega
            simp [e1, e2, e3, e4]
  · simp only [mX11_alarms, sX11_alarms, wE_I, wE_V, wE_F, wE_A, wE_N, wE_1, wE_2, wE_D, wE_B, wE_If, wE_C, wE_CV, wE_SL, wE_SA, wA_0, wA_1, wC_B, wC_E, wC_And, wC_Or, wC_Not, wS_Skip, wS_Brk, wS_Cnt, wS_RetV, wS_Ret, wS_Seq, wS_Set, wS_Inc, wS_Do, wS_Put, wS_PutC, wS_Arr, wS_ArrC, wS_If, wS_Sw, wS_F0, wS_F1, wM_q, lu_ap, aL_ap, ct_0, ct_1, ct_2, ct_3, ct_4, ct_5, headD_1, List.mem_cons, List.not_mem_nil, or_false, false_or, or_true, true_or, true_and, and_true, false_and, and_false, not_true_eq_false, not_false_eq_true, if_true, if_false, nr_20, nr_24, nr_40, nr_41, nr_44, pt_lt, pt_ge, pt_eq, pt_ne, pt_gt, pt_le, pt_E, pt_N, pt_F, ite_10, ite_11, ne_eq, and_self, or_self, decide_true, decide_false, Bool.not_true, Bool.not_false, Bool.false_eq_true, Nat.reduceEqDiff, Nat.reduceAdd, Int.reduceEq, Int.reduceLT, Int.reduceLE, Int.reduceNeg, Int.reduceAdd, Int.reduceSub, Int.reduceMul, reduceCtorEq, iA, iS, iM, iD, iR, iN, lA, lS, lM, lD, lR, h.1.k, wM_of (q_hasForecast h), hm]
theorem q_ahead (h : RC S v b P s) {m n : Int} [Decidable (hF v P m)] (hs : hF v P m → v (P + (9 + m)) 6 ≤ 24) (hr : hF v P m → RO v (s + (5 + 6 * m))) : mX11_ahead [b, m, n] S v = some (if hF v P m ∧ (1 ≤ n ∧ n ≤ 48) ∧ ¬ v (s + (5 + 6 * m)) 0 = 0 then hd (ahL (v (s + (5 + 6 * m)) 1) (v (s + (5 + 6 * m)) 2) (n.toNat - 1) + v (s + (5 + 6 * m)) 2 + v (s + (5 + 6 * m) + 1) ((v s 0 / v P 0 + n - 1) % v (P + (9 + m)) 6)) else -2147483648, v) := by
  apply wM_eq
  by_cases hm : hF v P m
  · have hL := h.pl
    have hst := h.st
    have hO := q_outlook h hm.1
    have hr' := hr hm
    have hs' := hs hm
    have hm2 := hm.2
    have hm4 : m < 4 := by have := h.2.2.2.2.2.2.1; have := hm.1; omega
    have ht := h.2.2.2.2.2.2.2.2.2
    have h6 := h.2.2.2.2.2.1
    have q1 := Int.ediv_nonneg ht.1 (show 0 ≤ v P 0 by omega)
    have q2 := Int.ediv_le_self (v P 0) ht.1
    by_cases hn : 1 ≤ n ∧ n ≤ 48
    · have e1 : ¬ n < 1 := by omega
      have e2 : ¬ 48 < n := by omega
      by_cases h0 : v (s + (5 + 6 * m)) 0 = 0
      · simp only [mX11_ahead, sX11_ahead, wE_I, wE_V, wE_F, wE_A, wE_N, wE_1, wE_2, wE_D, wE_B, wE_If, wE_C, wE_CV, wE_SL, wE_SA, wA_0, wA_1, wC_B, wC_E, wC_And, wC_Or, wC_Not, wS_Skip, wS_Brk, wS_Cnt, wS_RetV, wS_Ret, wS_Seq, wS_Set, wS_Inc, wS_Do, wS_Put, wS_PutC, wS_Arr, wS_ArrC, wS_If, wS_Sw, wS_F0, wS_F1, wM_q, lu_ap, aL_ap, ct_0, ct_1, ct_2, ct_3, ct_4, ct_5, headD_1, List.mem_cons, List.not_mem_nil, or_false, false_or, or_true, true_or, true_and, and_true, false_and, and_false, not_true_eq_false, not_false_eq_true, if_true, if_false, nr_20, nr_24, nr_40, nr_41, nr_44, pt_lt, pt_ge, pt_eq, pt_ne, pt_gt, pt_le, pt_E, pt_N, pt_F, ite_10, ite_11, ne_eq, and_self, or_self, decide_true, decide_false, Bool.not_true, Bool.not_false, Bool.false_eq_true, Nat.reduceEqDiff, Nat.reduceAdd, Int.reduceEq, Int.reduceLT, Int.reduceLE, Int.reduceNeg, Int.reduceAdd, Int.reduceSub, Int.reduceMul, reduceCtorEq, iA, iS, iM, iD, iR, iN, lA, lS, lM, lD, lR, h.1.k, wM_of (q_hasForecast h), hm, wM_of (q_now h), hst.k, hst.p3, hst.a2, hst.n2, hst.eo _ hm.1.1 hm4, hm.1.1, hm4, hn, e1, e2, hO.k, h0]
      · simp only [mX11_ahead, sX11_ahead, wE_I, wE_V, wE_F, wE_A, wE_N, wE_1, wE_2, wE_D, wE_B, wE_If, wE_C, wE_CV, wE_SL, wE_SA, wA_0, wA_1, wC_B, wC_E, wC_And, wC_Or, wC_Not, wS_Skip, wS_Brk, wS_Cnt, wS_RetV, wS_Ret, wS_Seq, wS_Set, wS_Inc, wS_Do, wS_Put, wS_PutC, wS_Arr, wS_ArrC, wS_If, wS_Sw, wS_F0, wS_F1, wM_q, lu_ap, aL_ap, ct_0, ct_1, ct_2, ct_3, ct_4, ct_5, headD_1, List.mem_cons, List.not_mem_nil, or_false, false_or, or_true, true_or, true_and, and_true, false_and, and_false, not_true_eq_false, not_false_eq_true, if_true, if_false, nr_20, nr_24, nr_40, nr_41, nr_44, pt_lt, pt_ge, pt_eq, pt_ne, pt_gt, pt_le, pt_E, pt_N, pt_F, ite_10, ite_11, ne_eq, and_self, or_self, decide_true, decide_false, Bool.not_true, Bool.not_false, Bool.false_eq_true, Nat.reduceEqDiff, Nat.reduceAdd, Int.reduceEq, Int.reduceLT, Int.reduceLE, Int.reduceNeg, Int.reduceAdd, Int.reduceSub, Int.reduceMul, reduceCtorEq, iA, iS, iM, iD, iR, iN, lA, lS, lM, lD, lR, h.1.k, h.2.1, wM_of (q_hasForecast h), hm, wM_of (q_now h), hst.k, hst.p3, hst.a2, hst.n2, hst.eo _ hm.1.1 hm4, hm.1.1, hm4, hn, e1, e2, hO.k, h0, wM_of (q_stepsOver h), hL.k, hL.p3, hL.a1, hL.n1, hL.em _ hm.1.1 hm4, hL.m _ hm.1.1 hm4]
        generalize v s 0 / v P 0 = T at q1 q2 ⊢
        generalize v (P + (9 + m)) 6 = se at hs' hm2 ⊢
        rw [w32_e (z := T + n) (by omega), w32_e (z := T + n - 1) (by omega), wM_of (q_rem ⟨by omega, by omega⟩ hm2)]
        have hp : 0 ≤ (T + n - 1) % se ∧ (T + n - 1) % se < 24 := ⟨Int.emod_nonneg _ (by omega), by have := Int.emod_lt_of_pos (T + n - 1) hm2; omega⟩
        have hn' : 1 ≤ n ∧ n ≤ 100 := by omega
        simp only [wM_of (q_now h), hst.k, hst.p3, hst.a2, hst.n2, hst.eo _ hm.1.1 hm4, hm4, hO.k, wM_of (q_tellAhead hO hr' hn' hp), wE_I, wE_V, wE_F, wE_A, wE_N, wE_1, wE_2, wE_D, wE_B, wE_If, wE_C, wE_CV, wE_SL, wE_SA, wA_0, wA_1, wC_B, wC_E, wC_And, wC_Or, wC_Not, wS_Skip, wS_Brk, wS_Cnt, wS_RetV, wS_Ret, wS_Seq, wS_Set, wS_Inc, wS_Do, wS_Put, wS_PutC, wS_Arr, wS_ArrC, wS_If, wS_Sw, wS_F0, wS_F1, wM_q, lu_ap, aL_ap, ct_0, ct_1, ct_2, ct_3, ct_4, ct_5, headD_1, List.mem_cons, List.not_mem_nil, or_false, false_or, or_true, true_or, true_and, and_true, false_and, and_false, not_true_eq_false, not_false_eq_true, if_true, if_false, nr_20, nr_24, nr_40, nr_41, nr_44, pt_lt, pt_ge, pt_eq, pt_ne, pt_gt, pt_le, pt_E, pt_N, pt_F, ite_10, ite_11, ne_eq, and_self, or_self, decide_true, decide_false, Bool.not_true, Bool.not_false, Bool.false_eq_true, Nat.reduceEqDiff, Nat.reduceAdd, Int.reduceEq, Int.reduceLT, Int.reduceLE, Int.reduceNeg, Int.reduceAdd, Int.reduceSub, Int.reduceMul, reduceCtorEq]
    · simp only [mX11_ahead, sX11_ahead, wE_I, wE_V, wE_F, wE_A, wE_N, wE_1, wE_2, wE_D, wE_B, wE_If, wE_C, wE_CV, wE_SL, wE_SA, wA_0, wA_1, wC_B, wC_E, wC_And, wC_Or, wC_Not, wS_Skip, wS_Brk, wS_Cnt, wS_RetV, wS_Ret, wS_Seq, wS_Set, wS_Inc, wS_Do, wS_Put, wS_PutC, wS_Arr, wS_ArrC, wS_If, wS_Sw, wS_F0, wS_F1, wM_q, lu_ap, aL_ap, ct_0, ct_1, ct_2, ct_3, ct_4, ct_5, headD_1, List.mem_cons, List.not_mem_nil, or_false, false_or, or_true, true_or, true_and, and_true, false_and, and_false, not_true_eq_false, not_false_eq_true, if_true, if_false, nr_20, nr_24, nr_40, nr_41, nr_44, pt_lt, pt_ge, pt_eq, pt_ne, pt_gt, pt_le, pt_E, pt_N, pt_F, ite_10, ite_11, ne_eq, and_self, or_self, decide_true, decide_false, Bool.not_true, Bool.not_false, Bool.false_eq_true, Nat.reduceEqDiff, Nat.reduceAdd, Int.reduceEq, Int.reduceLT, Int.reduceLE, Int.reduceNeg, Int.reduceAdd, Int.reduceSub, Int.reduceMul, reduceCtorEq, iA, iS, iM, iD, iR, iN, lA, lS, lM, lD, lR, h.1.k, wM_of (q_hasForecast h), hm, hn]
      by_cases e1 : n < 1
      · simp [e1]
      · have e2 : 48 < n := by omega
        simp [e1, e2]
  · simp only [mX11_ahead, sX11_ahead, wE_I, wE_V, wE_F, wE_A, wE_N, wE_1, wE_2, wE_D, wE_B, wE_If, wE_C, wE_CV, wE_SL, wE_SA, wA_0, wA_1, wC_B, wC_E, wC_And, wC_Or, wC_Not, wS_Skip, wS_Brk, wS_Cnt, wS_RetV, wS_Ret, wS_Seq, wS_Set, wS_Inc, wS_Do, wS_Put, wS_PutC, wS_Arr, wS_ArrC, wS_If, wS_Sw, wS_F0, wS_F1, wM_q, lu_ap, aL_ap, ct_0, ct_1, ct_2, ct_3, ct_4, ct_5, headD_1, List.mem_cons, List.not_mem_nil, or_false, false_or, or_true, true_or, true_and, and_true, false_and, and_false, not_true_eq_false, not_false_eq_true, if_true, if_false, nr_20, nr_24, nr_40, nr_41, nr_44, pt_lt, pt_ge, pt_eq, pt_ne, pt_gt, pt_le, pt_E, pt_N, pt_F, ite_10, ite_11, ne_eq, and_self, or_self, decide_true, decide_false, Bool.not_true, Bool.not_false, Bool.false_eq_true, Nat.reduceEqDiff, Nat.reduceAdd, Int.reduceEq, Int.reduceLT, Int.reduceLE, Int.reduceNeg, Int.reduceAdd, Int.reduceSub, Int.reduceMul, reduceCtorEq, iA, iS, iM, iD, iR, iN, lA, lS, lM, lD, lR, h.1.k, wM_of (q_hasForecast h), hm]
theorem q_measure (h : RC S v b P s) {m x : Int} : mX11_measure [b, m, x] S v = some (if 0 ≤ m ∧ m < v P 1 then (if x = 0 then v (s + (4 + 6 * m)) 0 else if x = 1 then v (s + (4 + 6 * m)) 1 else if x = 2 then v (s + (4 + 6 * m)) 2 else if x = 3 then v (P + (9 + m)) 0 else if x = 4 then v (s + (4 + 6 * m)) 6 else if x = 5 then v (s + (4 + 6 * m)) 3 else -1) else -1, v) := by
  apply wM_eq
  by_cases hm : 0 ≤ m ∧ m < v P 1
  · have hL := h.pl
    have hst := h.st
    have hm4 : m < 4 := by have := h.2.2.2.2.2.2.1; omega
    simp only [mX11_measure, sX11_measure, wE_I, wE_V, wE_F, wE_A, wE_N, wE_1, wE_2, wE_D, wE_B, wE_If, wE_C, wE_CV, wE_SL, wE_SA, wA_0, wA_1, wC_B, wC_E, wC_And, wC_Or, wC_Not, wS_Skip, wS_Brk, wS_Cnt, wS_RetV, wS_Ret, wS_Seq, wS_Set, wS_Inc, wS_Do, wS_Put, wS_PutC, wS_Arr, wS_ArrC, wS_If, wS_Sw, wS_F0, wS_F1, wM_q, lu_ap, aL_ap, ct_0, ct_1, ct_2, ct_3, ct_4, ct_5, headD_1, List.mem_cons, List.not_mem_nil, or_false, false_or, or_true, true_or, true_and, and_true, false_and, and_false, not_true_eq_false, not_false_eq_true, if_true, if_false, nr_20, nr_24, nr_40, nr_41, nr_44, pt_lt, pt_ge, pt_eq, pt_ne, pt_gt, pt_le, pt_E, pt_N, pt_F, ite_10, ite_11, ne_eq, and_self, or_self, decide_true, decide_false, Bool.not_true, Bool.not_false, Bool.false_eq_true, Nat.reduceEqDiff, Nat.reduceAdd, Int.reduceEq, Int.reduceLT, Int.reduceLE, Int.reduceNeg, Int.reduceAdd, Int.reduceSub, Int.reduceMul, reduceCtorEq, iA, iS, iM, iD, iR, iN, lA, lS, lM, lD, lR, h.1.k, h.2.1, wM_of (q_isMeasure h), hm, wM_of (q_now h), hst.k, hst.p2, hst.a1, hst.n1, hst.em _ hm.1 hm4, hm4, hst.m _ hm.1 hm4, hL.k, hL.p3, hL.a1, hL.n1, hL.em _ hm.1 hm4, hL.m _ hm.1 hm4]
    by_cases x0 : x = 0
    · simp [x0]
    · by_cases x1 : x = 1
      · simp [x1]
      · by_cases x2 : x = 2
        · simp [x2]
        · by_cases x3 : x = 3
          · simp [x3]
          · by_cases x4 : x = 4
            · simp [x4]
            · by_cases x5 : x = 5
              · simp [x5]
              · simp [x0, x1, x2, x3, x4, x5]
  · simp only [mX11_measure, sX11_measure, wE_I, wE_V, wE_F, wE_A, wE_N, wE_1, wE_2, wE_D, wE_B, wE_If, wE_C, wE_CV, wE_SL, wE_SA, wA_0, wA_1, wC_B, wC_E, wC_And, wC_Or, wC_Not, wS_Skip, wS_Brk, wS_Cnt, wS_RetV, wS_Ret, wS_Seq, wS_Set, wS_Inc, wS_Do, wS_Put, wS_PutC, wS_Arr, wS_ArrC, wS_If, wS_Sw, wS_F0, wS_F1, wM_q, lu_ap, aL_ap, ct_0, ct_1, ct_2, ct_3, ct_4, ct_5, headD_1, List.mem_cons, List.not_mem_nil, or_false, false_or, or_true, true_or, true_and, and_true, false_and, and_false, not_true_eq_false, not_false_eq_true, if_true, if_false, nr_20, nr_24, nr_40, nr_41, nr_44, pt_lt, pt_ge, pt_eq, pt_ne, pt_gt, pt_le, pt_E, pt_N, pt_F, ite_10, ite_11, ne_eq, and_self, or_self, decide_true, decide_false, Bool.not_true, Bool.not_false, Bool.false_eq_true, Nat.reduceEqDiff, Nat.reduceAdd, Int.reduceEq, Int.reduceLT, Int.reduceLE, Int.reduceNeg, Int.reduceAdd, Int.reduceSub, Int.reduceMul, reduceCtorEq, iA, iS, iM, iD, iR, iN, lA, lS, lM, lD, lR, h.1.k, wM_of (q_isMeasure h), hm]
theorem q_rate (h : RC S v b P s) {m : Int} : mX11_rate [b, m] S v = some (if 0 ≤ m ∧ m < v P 1 then v (s + (4 + 6 * m)) 4 else -2147483648, v) := by
  apply wM_eq
  by_cases hm : 0 ≤ m ∧ m < v P 1
  · have hst := h.st
    have hm4 : m < 4 := by have := h.2.2.2.2.2.2.1; omega
    simp only [mX11_rate, sX11_rate, wE_I, wE_V, wE_F, wE_A, wE_N, wE_1, wE_2, wE_D, wE_B, wE_If, wE_C, wE_CV, wE_SL, wE_SA, wA_0, wA_1, wC_B, wC_E, wC_And, wC_Or, wC_Not, wS_Skip, wS_Brk, wS_Cnt, wS_RetV, wS_Ret, wS_Seq, wS_Set, wS_Inc, wS_Do, wS_Put, wS_PutC, wS_Arr, wS_ArrC, wS_If, wS_Sw, wS_F0, wS_F1, wM_q, lu_ap, aL_ap, ct_0, ct_1, ct_2, ct_3, ct_4, ct_5, headD_1, List.mem_cons, List.not_mem_nil, or_false, false_or, or_true, true_or, true_and, and_true, false_and, and_false, not_true_eq_false, not_false_eq_true, if_true, if_false, nr_20, nr_24, nr_40, nr_41, nr_44, pt_lt, pt_ge, pt_eq, pt_ne, pt_gt, pt_le, pt_E, pt_N, pt_F, ite_10, ite_11, ne_eq, and_self, or_self, decide_true, decide_false, Bool.not_true, Bool.not_false, Bool.false_eq_true, Nat.reduceEqDiff, Nat.reduceAdd, Int.reduceEq, Int.reduceLT, Int.reduceLE, Int.reduceNeg, Int.reduceAdd, Int.reduceSub, Int.reduceMul, reduceCtorEq, iA, iS, iM, iD, iR, iN, lA, lS, lM, lD, lR, h.1.k, wM_of (q_isMeasure h), hm, wM_of (q_now h), hst.k, hst.p2, hst.a1, hst.n1, hst.em _ hm.1 hm4, hm4, hst.m _ hm.1 hm4]
  · simp only [mX11_rate, sX11_rate, wE_I, wE_V, wE_F, wE_A, wE_N, wE_1, wE_2, wE_D, wE_B, wE_If, wE_C, wE_CV, wE_SL, wE_SA, wA_0, wA_1, wC_B, wC_E, wC_And, wC_Or, wC_Not, wS_Skip, wS_Brk, wS_Cnt, wS_RetV, wS_Ret, wS_Seq, wS_Set, wS_Inc, wS_Do, wS_Put, wS_PutC, wS_Arr, wS_ArrC, wS_If, wS_Sw, wS_F0, wS_F1, wM_q, lu_ap, aL_ap, ct_0, ct_1, ct_2, ct_3, ct_4, ct_5, headD_1, List.mem_cons, List.not_mem_nil, or_false, false_or, or_true, true_or, true_and, and_true, false_and, and_false, not_true_eq_false, not_false_eq_true, if_true, if_false, nr_20, nr_24, nr_40, nr_41, nr_44, pt_lt, pt_ge, pt_eq, pt_ne, pt_gt, pt_le, pt_E, pt_N, pt_F, ite_10, ite_11, ne_eq, and_self, or_self, decide_true, decide_false, Bool.not_true, Bool.not_false, Bool.false_eq_true, Nat.reduceEqDiff, Nat.reduceAdd, Int.reduceEq, Int.reduceLT, Int.reduceLE, Int.reduceNeg, Int.reduceAdd, Int.reduceSub, Int.reduceMul, reduceCtorEq, iA, iS, iM, iD, iR, iN, lA, lS, lM, lD, lR, h.1.k, wM_of (q_isMeasure h), hm]
theorem q_value (h : RC S v b P s) {m : Int} : mX11_value [b, m] S v = some (if 0 ≤ m ∧ m < v P 1 then v (s + (4 + 6 * m)) 5 else -2147483648, v) := by
  apply wM_eq
  by_cases hm : 0 ≤ m ∧ m < v P 1
  · have hst := h.st
    have hm4 : m < 4 := by have := h.2.2.2.2.2.2.1; omega
    simp only [mX11_value, sX11_value, wE_I, wE_V, wE_F, wE_A, wE_N, wE_1, wE_2, wE_D, wE_B, wE_If, wE_C, wE_CV, wE_SL, wE_SA, wA_0, wA_1, wC_B, wC_E, wC_And, wC_Or, wC_Not, wS_Skip, wS_Brk, wS_Cnt, wS_RetV, wS_Ret, wS_Seq, wS_Set, wS_Inc, wS_Do, wS_Put, wS_PutC, wS_Arr, wS_ArrC, wS_If, wS_Sw, wS_F0, wS_F1, wM_q, lu_ap, aL_ap, ct_0, ct_1, ct_2, ct_3, ct_4, ct_5, headD_1, List.mem_cons, List.not_mem_nil, or_false, false_or, or_true, true_or, true_and, and_true, false_and, and_false, not_true_eq_false, not_false_eq_true, if_true, if_false, nr_20, nr_24, nr_40, nr_41, nr_44, pt_lt, pt_ge, pt_eq, pt_ne, pt_gt, pt_le, pt_E, pt_N, pt_F, ite_10, ite_11, ne_eq, and_self, or_self, decide_true, decide_false, Bool.not_true, Bool.not_false, Bool.false_eq_true, Nat.reduceEqDiff, Nat.reduceAdd, Int.reduceEq, Int.reduceLT, Int.reduceLE, Int.reduceNeg, Int.reduceAdd, Int.reduceSub, Int.reduceMul, reduceCtorEq, iA, iS, iM, iD, iR, iN, lA, lS, lM, lD, lR, h.1.k, wM_of (q_isMeasure h), hm, wM_of (q_now h), hst.k, hst.p2, hst.a1, hst.n1, hst.em _ hm.1 hm4, hm4, hst.m _ hm.1 hm4]
  · simp only [mX11_value, sX11_value, wE_I, wE_V, wE_F, wE_A, wE_N, wE_1, wE_2, wE_D, wE_B, wE_If, wE_C, wE_CV, wE_SL, wE_SA, wA_0, wA_1, wC_B, wC_E, wC_And, wC_Or, wC_Not, wS_Skip, wS_Brk, wS_Cnt, wS_RetV, wS_Ret, wS_Seq, wS_Set, wS_Inc, wS_Do, wS_Put, wS_PutC, wS_Arr, wS_ArrC, wS_If, wS_Sw, wS_F0, wS_F1, wM_q, lu_ap, aL_ap, ct_0, ct_1, ct_2, ct_3, ct_4, ct_5, headD_1, List.mem_cons, List.not_mem_nil, or_false, false_or, or_true, true_or, true_and, and_true, false_and, and_false, not_true_eq_false, not_false_eq_true, if_true, if_false, nr_20, nr_24, nr_40, nr_41, nr_44, pt_lt, pt_ge, pt_eq, pt_ne, pt_gt, pt_le, pt_E, pt_N, pt_F, ite_10, ite_11, ne_eq, and_self, or_self, decide_true, decide_false, Bool.not_true, Bool.not_false, Bool.false_eq_true, Nat.reduceEqDiff, Nat.reduceAdd, Int.reduceEq, Int.reduceLT, Int.reduceLE, Int.reduceNeg, Int.reduceAdd, Int.reduceSub, Int.reduceMul, reduceCtorEq, iA, iS, iM, iD, iR, iN, lA, lS, lM, lD, lR, h.1.k, wM_of (q_isMeasure h), hm]
theorem q_fault (h : RC S v b P s) {x : Int} : mX11_fault [b, x] S v = some (if x = 0 then v b 10 else if x = 1 then v b 11 else -1, v) := by
  apply wM_eq
  simp only [mX11_fault, sX11_fault, wE_I, wE_V, wE_F, wE_A, wE_N, wE_1, wE_2, wE_D, wE_B, wE_If, wE_C, wE_CV, wE_SL, wE_SA, wA_0, wA_1, wC_B, wC_E, wC_And, wC_Or, wC_Not, wS_Skip, wS_Brk, wS_Cnt, wS_RetV, wS_Ret, wS_Seq, wS_Set, wS_Inc, wS_Do, wS_Put, wS_PutC, wS_Arr, wS_ArrC, wS_If, wS_Sw, wS_F0, wS_F1, wM_q, lu_ap, aL_ap, ct_0, ct_1, ct_2, ct_3, ct_4, ct_5, headD_1, List.mem_cons, List.not_mem_nil, or_false, false_or, or_true, true_or, true_and, and_true, false_and, and_false, not_true_eq_false, not_false_eq_true, if_true, if_false, nr_20, nr_24, nr_40, nr_41, nr_44, pt_lt, pt_ge, pt_eq, pt_ne, pt_gt, pt_le, pt_E, pt_N, pt_F, ite_10, ite_11, ne_eq, and_self, or_self, decide_true, decide_false, Bool.not_true, Bool.not_false, Bool.false_eq_true, Nat.reduceEqDiff, Nat.reduceAdd, Int.reduceEq, Int.reduceLT, Int.reduceLE, Int.reduceNeg, Int.reduceAdd, Int.reduceSub, Int.reduceMul, reduceCtorEq, iA, iS, iM, iD, iR, iN, lA, lS, lM, lD, lR, h.1.k]
  by_cases x0 : x = 0
  · simp [x0]
  · by_cases x1 : x = 1
    · simp [x1]
    · simp [x0, x1]
theorem q_end (h : RC S v b P s) {n : Int} : mX11_end [b, n] S v = some (if 0 ≤ n ∧ n ≤ v (b + 1) 1 then (n, vu v (b + 1) 1 n) else (-1, v)) := by
  by_cases h1 : 0 ≤ n ∧ n ≤ v (b + 1) 1
  · rw [if_pos h1]
    apply wM_eq
    have e1 : ¬ n < 0 := by omega
    have e2 : ¬ v (b + 1) 1 < n := by omega
    simp only [mX11_end, sX11_end, wE_I, wE_V, wE_F, wE_A, wE_N, wE_1, wE_2, wE_D, wE_B, wE_If, wE_C, wE_CV, wE_SL, wE_SA, wA_0, wA_1, wC_B, wC_E, wC_And, wC_Or, wC_Not, wS_Skip, wS_Brk, wS_Cnt, wS_RetV, wS_Ret, wS_Seq, wS_Set, wS_Inc, wS_Do, wS_Put, wS_PutC, wS_Arr, wS_ArrC, wS_If, wS_Sw, wS_F0, wS_F1, wM_q, lu_ap, aL_ap, ct_0, ct_1, ct_2, ct_3, ct_4, ct_5, headD_1, List.mem_cons, List.not_mem_nil, or_false, false_or, or_true, true_or, true_and, and_true, false_and, and_false, not_true_eq_false, not_false_eq_true, if_true, if_false, nr_20, nr_24, nr_40, nr_41, nr_44, pt_lt, pt_ge, pt_eq, pt_ne, pt_gt, pt_le, pt_E, pt_N, pt_F, ite_10, ite_11, ne_eq, and_self, or_self, decide_true, decide_false, Bool.not_true, Bool.not_false, Bool.false_eq_true, Nat.reduceEqDiff, Nat.reduceAdd, Int.reduceEq, Int.reduceLT, Int.reduceLE, Int.reduceNeg, Int.reduceAdd, Int.reduceSub, Int.reduceMul, reduceCtorEq, iA, iS, iM, iD, iR, iN, lA, lS, lM, lD, lR, h.1.k, h.1.p0, h.1.t.k, e1, e2]
  · rw [if_neg h1]
    apply wM_eq
    simp only [mX11_end, sX11_end, wE_I, wE_V, wE_F, wE_A, wE_N, wE_1, wE_2, wE_D, wE_B, wE_If, wE_C, wE_CV, wE_SL, wE_SA, wA_0, wA_1, wC_B, wC_E, wC_And, wC_Or, wC_Not, wS_Skip, wS_Brk, wS_Cnt, wS_RetV, wS_Ret, wS_Seq, wS_Set, wS_Inc, wS_Do, wS_Put, wS_PutC, wS_Arr, wS_ArrC, wS_If, wS_Sw, wS_F0, wS_F1, wM_q, lu_ap, aL_ap, ct_0, ct_1, ct_2, ct_3, ct_4, ct_5, headD_1, List.mem_cons, List.not_mem_nil, or_false, false_or, or_true, true_or, true_and, and_true, false_and, and_false, not_true_eq_false, not_false_eq_true, if_true, if_false, nr_20, nr_24, nr_40, nr_41, nr_44, pt_lt, pt_ge, pt_eq, pt_ne, pt_gt, pt_le, pt_E, pt_N, pt_F, ite_10, ite_11, ne_eq, and_self, or_self, decide_true, decide_false, Bool.not_true, Bool.not_false, Bool.false_eq_true, Nat.reduceEqDiff, Nat.reduceAdd, Int.reduceEq, Int.reduceLT, Int.reduceLE, Int.reduceNeg, Int.reduceAdd, Int.reduceSub, Int.reduceMul, reduceCtorEq, iA, iS, iM, iD, iR, iN, lA, lS, lM, lD, lR, h.1.k, h.1.p0, h.1.t.k]
    by_cases e1 : n < 0
    · simp [e1]
    · have e2 : v (b + 1) 1 < n := by omega
      simp [e1, e2]
theorem q_forecastBits (h : RC S v b P s) (hc : ∀ m, Decidable (hF v P m)) : mX11_forecastBits [b] S v = some (fbs (fun m => decide (hF v P m)) (v P 1).toNat, v) := by
  have hL := h.pl
  have hn := h.2.2.2.2.2.2.1
  apply wM_eq
  simp only [mX11_forecastBits, sX11_forecastBits, wE_I, wE_V, wE_F, wE_A, wE_N, wE_1, wE_2, wE_D, wE_B, wE_If, wE_C, wE_CV, wE_SL, wE_SA, wA_0, wA_1, wC_B, wC_E, wC_And, wC_Or, wC_Not, wS_Skip, wS_Brk, wS_Cnt, wS_RetV, wS_Ret, wS_Seq, wS_Set, wS_Inc, wS_Do, wS_Put, wS_PutC, wS_Arr, wS_ArrC, wS_If, wS_Sw, wS_F0, wS_F1, wM_q, lu_ap, aL_ap, ct_0, ct_1, ct_2, ct_3, ct_4, ct_5, headD_1, List.mem_cons, List.not_mem_nil, or_false, false_or, or_true, true_or, true_and, and_true, false_and, and_false, not_true_eq_false, not_false_eq_true, if_true, if_false, nr_20, nr_24, nr_40, nr_41, nr_44, pt_lt, pt_ge, pt_eq, pt_ne, pt_gt, pt_le, pt_E, pt_N, pt_F, ite_10, ite_11, ne_eq, and_self, or_self, decide_true, decide_false, Bool.not_true, Bool.not_false, Bool.false_eq_true, Nat.reduceEqDiff, Nat.reduceAdd, Int.reduceEq, Int.reduceLT, Int.reduceLE, Int.reduceNeg, Int.reduceAdd, Int.reduceSub, Int.reduceMul, reduceCtorEq, iA, iS, iM, iD, iR, iN, lA, lS, lM, lD, lR]
  refine wS_For (v P 1).toNat (fun j M w => (M 0 = b ∧ M 1 = fbs (fun m => decide (hF v P m)) j ∧ M 2 = j) ∧ v = w) (by omega) ?_ ?_ ?_
  · simp [lu_ap, aL_ap, ct_0, ct_2, fbs]
  · rintro j M w hj ⟨⟨m0, m1, m2⟩, rfl⟩
    have hj1 : (j : Int) < v P 1 := by omega
    simp only [cX11_forecastBits_1, bX11_forecastBits_1, uX11_forecastBits_1, wE_I, wE_V, wE_F, wE_A, wE_N, wE_1, wE_2, wE_D, wE_B, wE_If, wE_C, wE_CV, wE_SL, wE_SA, wA_0, wA_1, wC_B, wC_E, wC_And, wC_Or, wC_Not, wS_Skip, wS_Brk, wS_Cnt, wS_RetV, wS_Ret, wS_Seq, wS_Set, wS_Inc, wS_Do, wS_Put, wS_PutC, wS_Arr, wS_ArrC, wS_If, wS_Sw, wS_F0, wS_F1, wM_q, lu_ap, aL_ap, ct_0, ct_1, ct_2, ct_3, ct_4, ct_5, headD_1, List.mem_cons, List.not_mem_nil, or_false, false_or, or_true, true_or, true_and, and_true, false_and, and_false, not_true_eq_false, not_false_eq_true, if_true, if_false, nr_20, nr_24, nr_40, nr_41, nr_44, pt_lt, pt_ge, pt_eq, pt_ne, pt_gt, pt_le, pt_E, pt_N, pt_F, ite_10, ite_11, ne_eq, and_self, or_self, decide_true, decide_false, Bool.not_true, Bool.not_false, Bool.false_eq_true, Nat.reduceEqDiff, Nat.reduceAdd, Int.reduceEq, Int.reduceLT, Int.reduceLE, Int.reduceNeg, Int.reduceAdd, Int.reduceSub, Int.reduceMul, reduceCtorEq, iA, iS, iM, iD, iR, iN, lA, lS, lM, lD, lR, h.1.k, h.2.1, hL.k, m0, m1, m2, hj1, wM_of (q_hasForecast h), w32_s (show j < 1000 by omega), fbs]
    by_cases h1 : hF v P j <;> simp [h1]
  · rintro M w ⟨⟨m0, m1, m2⟩, rfl⟩
    have hl : ¬ ((v P 1).toNat : Int) < v P 1 := by omega
    simp only [cX11_forecastBits_1, wE_I, wE_V, wE_F, wE_A, wE_N, wE_1, wE_2, wE_D, wE_B, wE_If, wE_C, wE_CV, wE_SL, wE_SA, wA_0, wA_1, wC_B, wC_E, wC_And, wC_Or, wC_Not, wS_Skip, wS_Brk, wS_Cnt, wS_RetV, wS_Ret, wS_Seq, wS_Set, wS_Inc, wS_Do, wS_Put, wS_PutC, wS_Arr, wS_ArrC, wS_If, wS_Sw, wS_F0, wS_F1, wM_q, lu_ap, aL_ap, ct_0, ct_1, ct_2, ct_3, ct_4, ct_5, headD_1, List.mem_cons, List.not_mem_nil, or_false, false_or, or_true, true_or, true_and, and_true, false_and, and_false, not_true_eq_false, not_false_eq_true, if_true, if_false, nr_20, nr_24, nr_40, nr_41, nr_44, pt_lt, pt_ge, pt_eq, pt_ne, pt_gt, pt_le, pt_E, pt_N, pt_F, ite_10, ite_11, ne_eq, and_self, or_self, decide_true, decide_false, Bool.not_true, Bool.not_false, Bool.false_eq_true, Nat.reduceEqDiff, Nat.reduceAdd, Int.reduceEq, Int.reduceLT, Int.reduceLE, Int.reduceNeg, Int.reduceAdd, Int.reduceSub, Int.reduceMul, reduceCtorEq, iA, iS, iM, iD, iR, iN, lA, lS, lM, lD, lR, h.1.k, h.2.1, hL.k, m0, m1, m2, hl]
theorem q_about (h : RC S v b P s) (hc : ∀ m, Decidable (hF v P m)) {x : Int} : mX11_about [b, x] S v = some (if x = 0 then v P 0 else if x = 1 then v P 1 else if x = 2 then v P 2 else if x = 3 then v (P + 3) 0 else if x = 4 then fbs (fun m => decide (hF v P m)) (v P 1).toNat else if x = 5 then v s 0 else if x = 6 then v s 0 / v P 0 else if x = 7 then v s 1 else if x = 8 then v (P + 3) 1 else if x = 9 then v b 6 else if x = 10 then v b 7 else if x = 11 then v (b + 1) 1 else -1, v) := by
  have hL := h.pl
  apply wM_eq
  simp only [mX11_about, sX11_about, wE_I, wE_V, wE_F, wE_A, wE_N, wE_1, wE_2, wE_D, wE_B, wE_If, wE_C, wE_CV, wE_SL, wE_SA, wA_0, wA_1, wC_B, wC_E, wC_And, wC_Or, wC_Not, wS_Skip, wS_Brk, wS_Cnt, wS_RetV, wS_Ret, wS_Seq, wS_Set, wS_Inc, wS_Do, wS_Put, wS_PutC, wS_Arr, wS_ArrC, wS_If, wS_Sw, wS_F0, wS_F1, wM_q, lu_ap, aL_ap, ct_0, ct_1, ct_2, ct_3, ct_4, ct_5, headD_1, List.mem_cons, List.not_mem_nil, or_false, false_or, or_true, true_or, true_and, and_true, false_and, and_false, not_true_eq_false, not_false_eq_true, if_true, if_false, nr_20, nr_24, nr_40, nr_41, nr_44, pt_lt, pt_ge, pt_eq, pt_ne, pt_gt, pt_le, pt_E, pt_N, pt_F, ite_10, ite_11, ne_eq, and_self, or_self, decide_true, decide_false, Bool.not_true, Bool.not_false, Bool.false_eq_true, Nat.reduceEqDiff, Nat.reduceAdd, Int.reduceEq, Int.reduceLT, Int.reduceLE, Int.reduceNeg, Int.reduceAdd, Int.reduceSub, Int.reduceMul, reduceCtorEq, iA, iS, iM, iD, iR, iN, lA, lS, lM, lD, lR, h.1.k, h.2.1, h.1.p0, h.1.t.k, hL.k, hL.p5, hL.f.k, wM_of (q_forecastBits h hc), wM_of (q_now h), wM_of (q_stepsOver h), h.st.k]
  by_cases x0 : x = 0
  · simp [x0]
  by_cases x1 : x = 1
  · simp [x1]
  by_cases x2 : x = 2
  · simp [x2]
  by_cases x3 : x = 3
  · simp [x3]
  by_cases x4 : x = 4
  · simp [x4]
  by_cases x5 : x = 5
  · simp [x5]
  by_cases x6 : x = 6
  · simp [x6]
  by_cases x7 : x = 7
  · simp [x7]
  by_cases x8 : x = 8
  · simp [x8]
  by_cases x9 : x = 9
  · simp [x9]
  by_cases x10 : x = 10
  · simp [x10]
  by_cases x11 : x = 11
  · simp [x11]
  simp [x0, x1, x2, x3, x4, x5, x6, x7, x8, x9, x10, x11]
end CF
