/-! THE CLASS'S QUESTIONS: what its small methods answer -/
/-- the class at rest: plan P, present state s; what its numbers may be -/
def RC (S : QS) (v : QV) (b P s : Int) : Prop := LCl S v b ∧ v b 2 = P ∧ (P = b + 10 ∨ P = b + 27) ∧ (0 ≤ v b 5 ∧ v b 5 < 13) ∧ b + (45 + 56 * v b 5) = s ∧ (1 ≤ v P 0 ∧ v P 0 ≤ 60) ∧ (0 ≤ v P 1 ∧ v P 1 ≤ 4) ∧ (0 ≤ v P 2 ∧ v P 2 ≤ 4) ∧ (∀ a, 0 ≤ a → a < v P 2 → (1 ≤ v (P + (13 + a)) 1 ∧ v (P + (13 + a)) 1 ≤ 12) ∧ (1 ≤ v (P + (13 + a)) 2 ∧ v (P + (13 + a)) 2 ≤ 30) ∧ (0 ≤ v (P + (13 + a)) 3 ∧ v (P + (13 + a)) 3 ≤ 9) ∧ (0 ≤ v (P + (13 + a)) 0 ∧ v (P + (13 + a)) 0 ≤ 3)) ∧ (0 ≤ v s 0 ∧ v s 0 ≤ 100000)
theorem RC.pl {S : QS} {v : QV} {b P s : Int} (h : RC S v b P s) : LPl S v P := by
  obtain ⟨hC, h2, h3 | h3, -⟩ := h
  · rw [h3]; exact hC.P1
  · rw [h3]; exact hC.P2
theorem RC.st {S : QS} {v : QV} {b P s : Int} (h : RC S v b P s) : LSt S v s := by
  obtain ⟨hC, h2, h3, h4, h5, -⟩ := h
  rw [← h5]; exact hC.s _ h4.1 h4.2
section CQ
variable {S : QS} {v : QV} {b P s : Int}
theorem q_isMeasure (h : RC S v b P s) {m : Int} : mX11_isMeasure [b, m] S v = some (if 0 ≤ m ∧ m < v P 1 then 1 else 0, v) := by
  have hL := h.pl
  obtain ⟨hC, h2, -⟩ := h
  apply wM_eq
  simp only [mX11_isMeasure, sX11_isMeasure, wE_I, wE_V, wE_F, wE_A, wE_N, wE_1, wE_2, wE_D, wE_B, wE_If, wE_C, wE_CV, wE_SL, wE_SA, wA_0, wA_1, wC_B, wC_E, wC_And, wC_Or, wC_Not, wS_Skip, wS_Brk, wS_Cnt, wS_RetV, wS_Ret, wS_Seq, wS_Set, wS_Inc, wS_Do, wS_Put, wS_PutC, wS_Arr, wS_ArrC, wS_If, wS_Sw, wS_F0, wS_F1, wM_q, lu_ap, aL_ap, ct_0, ct_1, ct_2, ct_3, ct_4, ct_5, headD_1, List.mem_cons, List.not_mem_nil, or_false, false_or, or_true, true_or, true_and, and_true, false_and, and_false, not_true_eq_false, not_false_eq_true, if_true, if_false, nr_20, nr_24, nr_40, nr_41, nr_44, pt_lt, pt_ge, pt_eq, pt_ne, pt_gt, pt_le, pt_E, pt_N, pt_F, ite_10, ite_11, ne_eq, and_self, or_self, decide_true, decide_false, Bool.not_true, Bool.not_false, Bool.false_eq_true, Nat.reduceEqDiff, Nat.reduceAdd, Int.reduceEq, Int.reduceLT, Int.reduceLE, Int.reduceNeg, Int.reduceAdd, Int.reduceSub, Int.reduceMul, reduceCtorEq, iA, iS, iM, iD, iR, iN, lA, lS, lM, lD, lR, hC.k, h2, hL.k]
  by_cases h0 : 0 ≤ m <;> simp [h0]
theorem q_isArchive (h : RC S v b P s) {m : Int} : mX11_isArchive [b, m] S v = some (if 0 ≤ m ∧ m < v P 2 then 1 else 0, v) := by
  have hL := h.pl
  obtain ⟨hC, h2, -⟩ := h
  apply wM_eq
  simp only [mX11_isArchive, sX11_isArchive, wE_I, wE_V, wE_F, wE_A, wE_N, wE_1, wE_2, wE_D, wE_B, wE_If, wE_C, wE_CV, wE_SL, wE_SA, wA_0, wA_1, wC_B, wC_E, wC_And, wC_Or, wC_Not, wS_Skip, wS_Brk, wS_Cnt, wS_RetV, wS_Ret, wS_Seq, wS_Set, wS_Inc, wS_Do, wS_Put, wS_PutC, wS_Arr, wS_ArrC, wS_If, wS_Sw, wS_F0, wS_F1, wM_q, lu_ap, aL_ap, ct_0, ct_1, ct_2, ct_3, ct_4, ct_5, headD_1, List.mem_cons, List.not_mem_nil, or_false, false_or, or_true, true_or, true_and, and_true, false_and, and_false, not_true_eq_false, not_false_eq_true, if_true, if_false, nr_20, nr_24, nr_40, nr_41, nr_44, pt_lt, pt_ge, pt_eq, pt_ne, pt_gt, pt_le, pt_E, pt_N, pt_F, ite_10, ite_11, ne_eq, and_self, or_self, decide_true, decide_false, Bool.not_true, Bool.not_false, Bool.false_eq_true, Nat.reduceEqDiff, Nat.reduceAdd, Int.reduceEq, Int.reduceLT, Int.reduceLE, Int.reduceNeg, Int.reduceAdd, Int.reduceSub, Int.reduceMul, reduceCtorEq, iA, iS, iM, iD, iR, iN, lA, lS, lM, lD, lR, hC.k, h2, hL.k]
  by_cases h0 : 0 ≤ m <;> simp [h0]
theorem q_hasRows (h : RC S v b P s) {a m : Int} : mX11_hasRows [b, a, m] S v = some (if (0 ≤ a ∧ a < v P 2) ∧ (0 ≤ m ∧ m < v P 1) then 1 else 0, v) := by
  apply wM_eq
  simp only [mX11_hasRows, sX11_hasRows, wE_I, wE_V, wE_F, wE_A, wE_N, wE_1, wE_2, wE_D, wE_B, wE_If, wE_C, wE_CV, wE_SL, wE_SA, wA_0, wA_1, wC_B, wC_E, wC_And, wC_Or, wC_Not, wS_Skip, wS_Brk, wS_Cnt, wS_RetV, wS_Ret, wS_Seq, wS_Set, wS_Inc, wS_Do, wS_Put, wS_PutC, wS_Arr, wS_ArrC, wS_If, wS_Sw, wS_F0, wS_F1, wM_q, lu_ap, aL_ap, ct_0, ct_1, ct_2, ct_3, ct_4, ct_5, headD_1, List.mem_cons, List.not_mem_nil, or_false, false_or, or_true, true_or, true_and, and_true, false_and, and_false, not_true_eq_false, not_false_eq_true, if_true, if_false, nr_20, nr_24, nr_40, nr_41, nr_44, pt_lt, pt_ge, pt_eq, pt_ne, pt_gt, pt_le, pt_E, pt_N, pt_F, ite_10, ite_11, ne_eq, and_self, or_self, decide_true, decide_false, Bool.not_true, Bool.not_false, Bool.false_eq_true, Nat.reduceEqDiff, Nat.reduceAdd, Int.reduceEq, Int.reduceLT, Int.reduceLE, Int.reduceNeg, Int.reduceAdd, Int.reduceSub, Int.reduceMul, reduceCtorEq, iA, iS, iM, iD, iR, iN, lA, lS, lM, lD, lR, h.1.k, wM_of (q_isArchive h), wM_of (q_isMeasure h)]
  by_cases h0 : 0 ≤ a ∧ a < v P 2 <;> simp [h0]
theorem q_now (h : RC S v b P s) : mX11_now [b] S v = some (s, v) := by
  obtain ⟨hC, h2, h3, h4, h5, -⟩ := h
  apply wM_eq
  simp only [mX11_now, sX11_now, wE_I, wE_V, wE_F, wE_A, wE_N, wE_1, wE_2, wE_D, wE_B, wE_If, wE_C, wE_CV, wE_SL, wE_SA, wA_0, wA_1, wC_B, wC_E, wC_And, wC_Or, wC_Not, wS_Skip, wS_Brk, wS_Cnt, wS_RetV, wS_Ret, wS_Seq, wS_Set, wS_Inc, wS_Do, wS_Put, wS_PutC, wS_Arr, wS_ArrC, wS_If, wS_Sw, wS_F0, wS_F1, wM_q, lu_ap, aL_ap, ct_0, ct_1, ct_2, ct_3, ct_4, ct_5, headD_1, List.mem_cons, List.not_mem_nil, or_false, false_or, or_true, true_or, true_and, and_true, false_and, and_false, not_true_eq_false, not_false_eq_true, if_true, if_false, nr_20, nr_24, nr_40, nr_41, nr_44, pt_lt, pt_ge, pt_eq, pt_ne, pt_gt, pt_le, pt_E, pt_N, pt_F, ite_10, ite_11, ne_eq, and_self, or_self, decide_true, decide_false, Bool.not_true, Bool.not_false, Bool.false_eq_true, Nat.reduceEqDiff, Nat.reduceAdd, Int.reduceEq, Int.reduceLT, Int.reduceLE, Int.reduceNeg, Int.reduceAdd, Int.reduceSub, Int.reduceMul, reduceCtorEq, iA, iS, iM, iD, iR, iN, lA, lS, lM, lD, lR, hC.k, hC.p4, hC.a44, hC.n44, hC.es _ h4.1 h4.2, h5, h4.1, h4.2]
theorem q_quo {x y : Int} (hx : 0 ≤ x ∧ x ≤ 2147483647) (hy : 0 < y) : mX11_quotient_ [x, y] S v = some (x / y, v) := by
  apply wM_eq
  have h0 : ¬ y = 0 := by omega
  have h1 := Int.ediv_nonneg hx.1 (Int.le_of_lt hy)
  have h2 := Int.ediv_le_self y hx.1
  simp only [mX11_quotient_, sX11_quotient_, wE_I, wE_V, wE_F, wE_A, wE_N, wE_1, wE_2, wE_D, wE_B, wE_If, wE_C, wE_CV, wE_SL, wE_SA, wA_0, wA_1, wC_B, wC_E, wC_And, wC_Or, wC_Not, wS_Skip, wS_Brk, wS_Cnt, wS_RetV, wS_Ret, wS_Seq, wS_Set, wS_Inc, wS_Do, wS_Put, wS_PutC, wS_Arr, wS_ArrC, wS_If, wS_Sw, wS_F0, wS_F1, wM_q, lu_ap, aL_ap, ct_0, ct_1, ct_2, ct_3, ct_4, ct_5, headD_1, List.mem_cons, List.not_mem_nil, or_false, false_or, or_true, true_or, true_and, and_true, false_and, and_false, not_true_eq_false, not_false_eq_true, if_true, if_false, nr_20, nr_24, nr_40, nr_41, nr_44, pt_lt, pt_ge, pt_eq, pt_ne, pt_gt, pt_le, pt_E, pt_N, pt_F, ite_10, ite_11, ne_eq, and_self, or_self, decide_true, decide_false, Bool.not_true, Bool.not_false, Bool.false_eq_true, Nat.reduceEqDiff, Nat.reduceAdd, Int.reduceEq, Int.reduceLT, Int.reduceLE, Int.reduceNeg, Int.reduceAdd, Int.reduceSub, Int.reduceMul, reduceCtorEq, iA, iS, iM, iD, iR, iN, lA, lS, lM, lD, lR, h0, tdiv_n hx.1]
  exact w32_e ⟨by omega, by omega⟩
theorem q_rem {x y : Int} (hx : 0 ≤ x ∧ x ≤ 2147483647) (hy : 0 < y) : mX11_remainder [x, y] S v = some (x % y, v) := by
  apply wM_eq
  have h0 : ¬ y = 0 := by omega
  have h1 := Int.emod_nonneg x h0
  have h2 : x % y ≤ x := by
    have := Int.ediv_nonneg hx.1 (Int.le_of_lt hy)
    have h3 := Int.mul_ediv_add_emod x y
    have h4 : 0 ≤ y * (x / y) := Int.mul_nonneg (Int.le_of_lt hy) this
    omega
  simp only [mX11_remainder, sX11_remainder, wE_I, wE_V, wE_F, wE_A, wE_N, wE_1, wE_2, wE_D, wE_B, wE_If, wE_C, wE_CV, wE_SL, wE_SA, wA_0, wA_1, wC_B, wC_E, wC_And, wC_Or, wC_Not, wS_Skip, wS_Brk, wS_Cnt, wS_RetV, wS_Ret, wS_Seq, wS_Set, wS_Inc, wS_Do, wS_Put, wS_PutC, wS_Arr, wS_ArrC, wS_If, wS_Sw, wS_F0, wS_F1, wM_q, lu_ap, aL_ap, ct_0, ct_1, ct_2, ct_3, ct_4, ct_5, headD_1, List.mem_cons, List.not_mem_nil, or_false, false_or, or_true, true_or, true_and, and_true, false_and, and_false, not_true_eq_false, not_false_eq_true, if_true, if_false, nr_20, nr_24, nr_40, nr_41, nr_44, pt_lt, pt_ge, pt_eq, pt_ne, pt_gt, pt_le, pt_E, pt_N, pt_F, ite_10, ite_11, ne_eq, and_self, or_self, decide_true, decide_false, Bool.not_true, Bool.not_false, Bool.false_eq_true, Nat.reduceEqDiff, Nat.reduceAdd, Int.reduceEq, Int.reduceLT, Int.reduceLE, Int.reduceNeg, Int.reduceAdd, Int.reduceSub, Int.reduceMul, reduceCtorEq, iA, iS, iM, iD, iR, iN, lA, lS, lM, lD, lR, h0, tmod_n hx.1]
  exact w32_e ⟨by omega, by omega⟩
/-- units of a row; a product of a period and a step -/
theorem mul_b {x y c d : Int} (hx : 1 ≤ x ∧ x ≤ c) (hy : 1 ≤ y ∧ y ≤ d) : 1 ≤ x * y ∧ x * y ≤ c * d := by
  constructor
  · have := Int.mul_le_mul hx.1 hy.1 (by omega) (by omega)
    omega
  · exact Int.mul_le_mul hx.2 hy.2 (by omega) (by omega)
def cU (v : QV) (P a : Int) : Int := v (P + (13 + a)) 1 * v P 0
def cD (v : QV) (P s a : Int) : Int := v s 0 / cU v P a
def cK (v : QV) (P s a : Int) : Int := if v (P + (13 + a)) 2 < cD v P s a then v (P + (13 + a)) 2 else cD v P s a
theorem cU_b (h : RC S v b P s) {a : Int} (ha : 0 ≤ a ∧ a < v P 2) : 1 ≤ cU v P a ∧ cU v P a ≤ 720 := by
  obtain ⟨hC, h2, h3, h4, h5, h6, h7, h8, h9, h10⟩ := h
  exact mul_b (h9 a ha.1 ha.2).1 h6
theorem cD_b (h : RC S v b P s) {a : Int} (ha : 0 ≤ a ∧ a < v P 2) : 0 ≤ cD v P s a ∧ cD v P s a ≤ 100000 ∧ cD v P s a * cU v P a ≤ v s 0 := by
  have hu := cU_b h ha
  obtain ⟨hC, h2, h3, h4, h5, h6, h7, h8, h9, h10⟩ := h
  have h1 := Int.ediv_nonneg h10.1 (show 0 ≤ cU v P a by omega)
  have h2 := Int.ediv_le_self (cU v P a) h10.1
  have h3 := Int.ediv_mul_le (v s 0) (show cU v P a ≠ 0 by omega)
  unfold cD
  exact ⟨h1, by omega, h3⟩
theorem cK_b (h : RC S v b P s) {a : Int} (ha : 0 ≤ a ∧ a < v P 2) : 0 ≤ cK v P s a ∧ cK v P s a ≤ 30 ∧ cK v P s a ≤ cD v P s a := by
  have hd := cD_b h ha
  obtain ⟨hC, h2, h3, h4, h5, h6, h7, h8, h9, h10⟩ := h
  have := (h9 a ha.1 ha.2).2.1
  unfold cK
  split <;> omega
theorem q_rowUnits (h : RC S v b P s) {a : Int} (ha : 0 ≤ a ∧ a < v P 2) : mX11_rowUnits [b, a] S v = some (cU v P a, v) := by
  have hL := h.pl
  have hu := cU_b h ha
  obtain ⟨hC, h2, h3, h4, h5, h6, h7, h8, h9, h10⟩ := h
  have h4' : a < 4 := by omega
  apply wM_eq
  simp only [mX11_rowUnits, sX11_rowUnits, wE_I, wE_V, wE_F, wE_A, wE_N, wE_1, wE_2, wE_D, wE_B, wE_If, wE_C, wE_CV, wE_SL, wE_SA, wA_0, wA_1, wC_B, wC_E, wC_And, wC_Or, wC_Not, wS_Skip, wS_Brk, wS_Cnt, wS_RetV, wS_Ret, wS_Seq, wS_Set, wS_Inc, wS_Do, wS_Put, wS_PutC, wS_Arr, wS_ArrC, wS_If, wS_Sw, wS_F0, wS_F1, wM_q, lu_ap, aL_ap, ct_0, ct_1, ct_2, ct_3, ct_4, ct_5, headD_1, List.mem_cons, List.not_mem_nil, or_false, false_or, or_true, true_or, true_and, and_true, false_and, and_false, not_true_eq_false, not_false_eq_true, if_true, if_false, nr_20, nr_24, nr_40, nr_41, nr_44, pt_lt, pt_ge, pt_eq, pt_ne, pt_gt, pt_le, pt_E, pt_N, pt_F, ite_10, ite_11, ne_eq, and_self, or_self, decide_true, decide_false, Bool.not_true, Bool.not_false, Bool.false_eq_true, Nat.reduceEqDiff, Nat.reduceAdd, Int.reduceEq, Int.reduceLT, Int.reduceLE, Int.reduceNeg, Int.reduceAdd, Int.reduceSub, Int.reduceMul, reduceCtorEq, iA, iS, iM, iD, iR, iN, lA, lS, lM, lD, lR, hC.k, h2, hL.k, hL.p4, hL.a2, hL.n2, hL.ea _ ha.1 h4', hL.a _ ha.1 h4', ha.1, h4']
  exact w32_e (z := cU v P a) ⟨by omega, by omega⟩
theorem q_rowsDone (h : RC S v b P s) {a : Int} (ha : 0 ≤ a ∧ a < v P 2) : mX11_rowsDone [b, a] S v = some (cD v P s a, v) := by
  have hu := cU_b h ha
  have ht := h.2.2.2.2.2.2.2.2.2
  apply wM_eq
  simp only [mX11_rowsDone, sX11_rowsDone, wE_I, wE_V, wE_F, wE_A, wE_N, wE_1, wE_2, wE_D, wE_B, wE_If, wE_C, wE_CV, wE_SL, wE_SA, wA_0, wA_1, wC_B, wC_E, wC_And, wC_Or, wC_Not, wS_Skip, wS_Brk, wS_Cnt, wS_RetV, wS_Ret, wS_Seq, wS_Set, wS_Inc, wS_Do, wS_Put, wS_PutC, wS_Arr, wS_ArrC, wS_If, wS_Sw, wS_F0, wS_F1, wM_q, lu_ap, aL_ap, ct_0, ct_1, ct_2, ct_3, ct_4, ct_5, headD_1, List.mem_cons, List.not_mem_nil, or_false, false_or, or_true, true_or, true_and, and_true, false_and, and_false, not_true_eq_false, not_false_eq_true, if_true, if_false, nr_20, nr_24, nr_40, nr_41, nr_44, pt_lt, pt_ge, pt_eq, pt_ne, pt_gt, pt_le, pt_E, pt_N, pt_F, ite_10, ite_11, ne_eq, and_self, or_self, decide_true, decide_false, Bool.not_true, Bool.not_false, Bool.false_eq_true, Nat.reduceEqDiff, Nat.reduceAdd, Int.reduceEq, Int.reduceLT, Int.reduceLE, Int.reduceNeg, Int.reduceAdd, Int.reduceSub, Int.reduceMul, reduceCtorEq, iA, iS, iM, iD, iR, iN, lA, lS, lM, lD, lR, h.1.k, wM_of (q_rowUnits h ha), wM_of (q_now h), h.st.k]
  rw [wM_of (q_quo ⟨ht.1, by omega⟩ (by omega))]
  exact ⟨rfl, rfl⟩
theorem q_stepsOver (h : RC S v b P s) : mX11_stepsOver [b] S v = some (v s 0 / v P 0, v) := by
  have ht := h.2.2.2.2.2.2.2.2.2
  have h6 := h.2.2.2.2.2.1
  apply wM_eq
  simp only [mX11_stepsOver, sX11_stepsOver, wE_I, wE_V, wE_F, wE_A, wE_N, wE_1, wE_2, wE_D, wE_B, wE_If, wE_C, wE_CV, wE_SL, wE_SA, wA_0, wA_1, wC_B, wC_E, wC_And, wC_Or, wC_Not, wS_Skip, wS_Brk, wS_Cnt, wS_RetV, wS_Ret, wS_Seq, wS_Set, wS_Inc, wS_Do, wS_Put, wS_PutC, wS_Arr, wS_ArrC, wS_If, wS_Sw, wS_F0, wS_F1, wM_q, lu_ap, aL_ap, ct_0, ct_1, ct_2, ct_3, ct_4, ct_5, headD_1, List.mem_cons, List.not_mem_nil, or_false, false_or, or_true, true_or, true_and, and_true, false_and, and_false, not_true_eq_false, not_false_eq_true, if_true, if_false, nr_20, nr_24, nr_40, nr_41, nr_44, pt_lt, pt_ge, pt_eq, pt_ne, pt_gt, pt_le, pt_E, pt_N, pt_F, ite_10, ite_11, ne_eq, and_self, or_self, decide_true, decide_false, Bool.not_true, Bool.not_false, Bool.false_eq_true, Nat.reduceEqDiff, Nat.reduceAdd, Int.reduceEq, Int.reduceLT, Int.reduceLE, Int.reduceNeg, Int.reduceAdd, Int.reduceSub, Int.reduceMul, reduceCtorEq, iA, iS, iM, iD, iR, iN, lA, lS, lM, lD, lR, h.1.k, wM_of (q_now h), h.st.k, h.2.1, h.pl.k]
  rw [wM_of (q_quo ⟨ht.1, by omega⟩ (by omega))]
  exact ⟨rfl, rfl⟩
theorem q_keptRows (h : RC S v b P s) {a : Int} (ha : 0 ≤ a ∧ a < v P 2) : mX11_keptRows [b, a] S v = some (cK v P s a, v) := by
  have hL := h.pl
  have h4' : a < 4 := by have := h.2.2.2.2.2.2.2.1; omega
  apply wM_eq
  simp only [mX11_keptRows, sX11_keptRows, wE_I, wE_V, wE_F, wE_A, wE_N, wE_1, wE_2, wE_D, wE_B, wE_If, wE_C, wE_CV, wE_SL, wE_SA, wA_0, wA_1, wC_B, wC_E, wC_And, wC_Or, wC_Not, wS_Skip, wS_Brk, wS_Cnt, wS_RetV, wS_Ret, wS_Seq, wS_Set, wS_Inc, wS_Do, wS_Put, wS_PutC, wS_Arr, wS_ArrC, wS_If, wS_Sw, wS_F0, wS_F1, wM_q, lu_ap, aL_ap, ct_0, ct_1, ct_2, ct_3, ct_4, ct_5, headD_1, List.mem_cons, List.not_mem_nil, or_false, false_or, or_true, true_or, true_and, and_true, false_and, and_false, not_true_eq_false, not_false_eq_true, if_true, if_false, nr_20, nr_24, nr_40, nr_41, nr_44, pt_lt, pt_ge, pt_eq, pt_ne, pt_gt, pt_le, pt_E, pt_N, pt_F, ite_10, ite_11, ne_eq, and_self, or_self, decide_true, decide_false, Bool.not_true, Bool.not_false, Bool.false_eq_true, Nat.reduceEqDiff, Nat.reduceAdd, Int.reduceEq, Int.reduceLT, Int.reduceLE, Int.reduceNeg, Int.reduceAdd, Int.reduceSub, Int.reduceMul, reduceCtorEq, iA, iS, iM, iD, iR, iN, lA, lS, lM, lD, lR, h.1.k, wM_of (q_rowsDone h ha), h.2.1, hL.k, hL.p4, hL.a2, hL.n2, hL.ea _ ha.1 h4', hL.a _ ha.1 h4', ha.1, h4']
  rfl
theorem q_rowEnd (h : RC S v b P s) {a i : Int} (ha : 0 ≤ a ∧ a < v P 2) (hi : 0 ≤ i ∧ i ≤ cD v P s a) : mX11_rowEnd [b, a, i] S v = some ((cD v P s a - i) * cU v P a, v) := by
  have hu := cU_b h ha
  have hd := cD_b h ha
  have ht := h.2.2.2.2.2.2.2.2.2
  apply wM_eq
  simp only [mX11_rowEnd, sX11_rowEnd, wE_I, wE_V, wE_F, wE_A, wE_N, wE_1, wE_2, wE_D, wE_B, wE_If, wE_C, wE_CV, wE_SL, wE_SA, wA_0, wA_1, wC_B, wC_E, wC_And, wC_Or, wC_Not, wS_Skip, wS_Brk, wS_Cnt, wS_RetV, wS_Ret, wS_Seq, wS_Set, wS_Inc, wS_Do, wS_Put, wS_PutC, wS_Arr, wS_ArrC, wS_If, wS_Sw, wS_F0, wS_F1, wM_q, lu_ap, aL_ap, ct_0, ct_1, ct_2, ct_3, ct_4, ct_5, headD_1, List.mem_cons, List.not_mem_nil, or_false, false_or, or_true, true_or, true_and, and_true, false_and, and_false, not_true_eq_false, not_false_eq_true, if_true, if_false, nr_20, nr_24, nr_40, nr_41, nr_44, pt_lt, pt_ge, pt_eq, pt_ne, pt_gt, pt_le, pt_E, pt_N, pt_F, ite_10, ite_11, ne_eq, and_self, or_self, decide_true, decide_false, Bool.not_true, Bool.not_false, Bool.false_eq_true, Nat.reduceEqDiff, Nat.reduceAdd, Int.reduceEq, Int.reduceLT, Int.reduceLE, Int.reduceNeg, Int.reduceAdd, Int.reduceSub, Int.reduceMul, reduceCtorEq, iA, iS, iM, iD, iR, iN, lA, lS, lM, lD, lR, h.1.k, wM_of (q_rowsDone h ha), wM_of (q_rowUnits h ha)]
  rw [w32_e (z := cD v P s a - i) ⟨by omega, by omega⟩]
  have h1 : (cD v P s a - i) * cU v P a ≤ cD v P s a * cU v P a := Int.mul_le_mul_of_nonneg_right (by omega) (by omega)
  have h2 : 0 ≤ (cD v P s a - i) * cU v P a := Int.mul_nonneg (by omega) (by omega)
  exact w32_e ⟨by omega, by omega⟩
theorem q_rowBegin (h : RC S v b P s) {a i : Int} (ha : 0 ≤ a ∧ a < v P 2) (hi : 0 ≤ i ∧ i ≤ cD v P s a) : mX11_rowBegin [b, a, i] S v = some ((cD v P s a - i) * cU v P a - cU v P a, v) := by
  have hu := cU_b h ha
  have hd := cD_b h ha
  have ht := h.2.2.2.2.2.2.2.2.2
  apply wM_eq
  simp only [mX11_rowBegin, sX11_rowBegin, wE_I, wE_V, wE_F, wE_A, wE_N, wE_1, wE_2, wE_D, wE_B, wE_If, wE_C, wE_CV, wE_SL, wE_SA, wA_0, wA_1, wC_B, wC_E, wC_And, wC_Or, wC_Not, wS_Skip, wS_Brk, wS_Cnt, wS_RetV, wS_Ret, wS_Seq, wS_Set, wS_Inc, wS_Do, wS_Put, wS_PutC, wS_Arr, wS_ArrC, wS_If, wS_Sw, wS_F0, wS_F1, wM_q, lu_ap, aL_ap, ct_0, ct_1, ct_2, ct_3, ct_4, ct_5, headD_1, List.mem_cons, List.not_mem_nil, or_false, false_or, or_true, true_or, true_and, and_true, false_and, and_false, not_true_eq_false, not_false_eq_true, if_true, if_false, nr_20, nr_24, nr_40, nr_41, nr_44, pt_lt, pt_ge, pt_eq, pt_ne, pt_gt, pt_le, pt_E, pt_N, pt_F, ite_10, ite_11, ne_eq, and_self, or_self, decide_true, decide_false, Bool.not_true, Bool.not_false, Bool.false_eq_true, Nat.reduceEqDiff, Nat.reduceAdd, Int.reduceEq, Int.reduceLT, Int.reduceLE, Int.reduceNeg, Int.reduceAdd, Int.reduceSub, Int.reduceMul, reduceCtorEq, iA, iS, iM, iD, iR, iN, lA, lS, lM, lD, lR, h.1.k, wM_of (q_rowEnd h ha hi), wM_of (q_rowUnits h ha)]
  have h1 : (cD v P s a - i) * cU v P a ≤ cD v P s a * cU v P a := Int.mul_le_mul_of_nonneg_right (by omega) (by omega)
  have h2 : 0 ≤ (cD v P s a - i) * cU v P a := Int.mul_nonneg (by omega) (by omega)
  exact w32_e ⟨by omega, by omega⟩
/-- what the i-th latest row tells, by the class's cells -/
def cR (v : QV) (P s a m i : Int) : Int := v (s + (28 + 7 * a) + 1) ((cD v P s a - 1 - i) % 30 * 4 + m)
theorem q_rowOf {r n m : Int} (hR : LRi S v r) (hn : 0 ≤ n) (hm : 0 ≤ m ∧ m < 4) : mX7_rowOf [r, n, m] S v = some (v (r + 1) (n % 30 * 4 + m), v) := by
  apply wM_eq
  have h1 : 0 ≤ n % 30 * 4 + m ∧ n % 30 * 4 + m < 120 := by omega
  have e1 : w32 (n % 30) = n % 30 := w32_e (by omega)
  have e2 : w32 (n % 30 * 4) = n % 30 * 4 := w32_e (by omega)
  have e3 : w32 (n % 30 * 4 + m) = n % 30 * 4 + m := w32_e (by omega)
  simp only [mX7_rowOf, sX7_rowOf, wE_I, wE_V, wE_F, wE_A, wE_N, wE_1, wE_2, wE_D, wE_B, wE_If, wE_C, wE_CV, wE_SL, wE_SA, wA_0, wA_1, wC_B, wC_E, wC_And, wC_Or, wC_Not, wS_Skip, wS_Brk, wS_Cnt, wS_RetV, wS_Ret, wS_Seq, wS_Set, wS_Inc, wS_Do, wS_Put, wS_PutC, wS_Arr, wS_ArrC, wS_If, wS_Sw, wS_F0, wS_F1, wM_q, lu_ap, aL_ap, ct_0, ct_1, ct_2, ct_3, ct_4, ct_5, headD_1, List.mem_cons, List.not_mem_nil, or_false, false_or, or_true, true_or, true_and, and_true, false_and, and_false, not_true_eq_false, not_false_eq_true, if_true, if_false, nr_20, nr_24, nr_40, nr_41, nr_44, pt_lt, pt_ge, pt_eq, pt_ne, pt_gt, pt_le, pt_E, pt_N, pt_F, ite_10, ite_11, ne_eq, and_self, or_self, decide_true, decide_false, Bool.not_true, Bool.not_false, Bool.false_eq_true, Nat.reduceEqDiff, Nat.reduceAdd, Int.reduceEq, Int.reduceLT, Int.reduceLE, Int.reduceNeg, Int.reduceAdd, Int.reduceSub, Int.reduceMul, reduceCtorEq, iA, iS, iM, iD, iR, iN, lA, lS, lM, lD, lR, hn, hm.1, hm.2, hR.k, hR.p0, hR.a1, hR.n1, tmod_n hn, e1, e2, e3, h1.1, h1.2]
theorem q_rowTold (h : RC S v b P s) {a m i : Int} (ha : 0 ≤ a ∧ a < v P 2) (hm : 0 ≤ m ∧ m < v P 1) : mX11_rowTold [b, a, m, i] S v = some (if 0 ≤ i ∧ i < cK v P s a then cR v P s a m i else -2147483648, v) := by
  have hu := cU_b h ha
  have hd := cD_b h ha
  have hk := cK_b h ha
  have hst := h.st
  have h4' : a < 4 := by have := h.2.2.2.2.2.2.2.1; omega
  have h5' : m < 4 := by have := h.2.2.2.2.2.2.1; omega
  apply wM_eq
  by_cases hi : 0 ≤ i ∧ i < cK v P s a
  · have e1 : ¬ i < 0 := by omega
    have e2 : ¬ cK v P s a ≤ i := by omega
    have e3 : w32 (cD v P s a - 1) = cD v P s a - 1 := w32_e (by omega)
    have e4 : w32 (cD v P s a - 1 - i) = cD v P s a - 1 - i := w32_e (by omega)
    simp only [mX11_rowTold, sX11_rowTold, wE_I, wE_V, wE_F, wE_A, wE_N, wE_1, wE_2, wE_D, wE_B, wE_If, wE_C, wE_CV, wE_SL, wE_SA, wA_0, wA_1, wC_B, wC_E, wC_And, wC_Or, wC_Not, wS_Skip, wS_Brk, wS_Cnt, wS_RetV, wS_Ret, wS_Seq, wS_Set, wS_Inc, wS_Do, wS_Put, wS_PutC, wS_Arr, wS_ArrC, wS_If, wS_Sw, wS_F0, wS_F1, wM_q, lu_ap, aL_ap, ct_0, ct_1, ct_2, ct_3, ct_4, ct_5, headD_1, List.mem_cons, List.not_mem_nil, or_false, false_or, or_true, true_or, true_and, and_true, false_and, and_false, not_true_eq_false, not_false_eq_true, if_true, if_false, nr_20, nr_24, nr_40, nr_41, nr_44, pt_lt, pt_ge, pt_eq, pt_ne, pt_gt, pt_le, pt_E, pt_N, pt_F, ite_10, ite_11, ne_eq, and_self, or_self, decide_true, decide_false, Bool.not_true, Bool.not_false, Bool.false_eq_true, Nat.reduceEqDiff, Nat.reduceAdd, Int.reduceEq, Int.reduceLT, Int.reduceLE, Int.reduceNeg, Int.reduceAdd, Int.reduceSub, Int.reduceMul, reduceCtorEq, iA, iS, iM, iD, iR, iN, lA, lS, lM, lD, lR, h.1.k, wM_of (q_keptRows h ha), wM_of (q_rowsDone h ha), wM_of (q_now h), hst.k, hst.p4, hst.a3, hst.n3, hst.er _ ha.1 h4', ha.1, h4', e1, e2, e3, e4, (hst.r _ ha.1 h4').k, wM_of (q_rowOf (hst.r _ ha.1 h4') (show 0 ≤ cD v P s a - 1 - i by omega) ⟨hm.1, h5'⟩), hi]
    simp [cR]
  · simp only [mX11_rowTold, sX11_rowTold, wE_I, wE_V, wE_F, wE_A, wE_N, wE_1, wE_2, wE_D, wE_B, wE_If, wE_C, wE_CV, wE_SL, wE_SA, wA_0, wA_1, wC_B, wC_E, wC_And, wC_Or, wC_Not, wS_Skip, wS_Brk, wS_Cnt, wS_RetV, wS_Ret, wS_Seq, wS_Set, wS_Inc, wS_Do, wS_Put, wS_PutC, wS_Arr, wS_ArrC, wS_If, wS_Sw, wS_F0, wS_F1, wM_q, lu_ap, aL_ap, ct_0, ct_1, ct_2, ct_3, ct_4, ct_5, headD_1, List.mem_cons, List.not_mem_nil, or_false, false_or, or_true, true_or, true_and, and_true, false_and, and_false, not_true_eq_false, not_false_eq_true, if_true, if_false, nr_20, nr_24, nr_40, nr_41, nr_44, pt_lt, pt_ge, pt_eq, pt_ne, pt_gt, pt_le, pt_E, pt_N, pt_F, ite_10, ite_11, ne_eq, and_self, or_self, decide_true, decide_false, Bool.not_true, Bool.not_false, Bool.false_eq_true, Nat.reduceEqDiff, Nat.reduceAdd, Int.reduceEq, Int.reduceLT, Int.reduceLE, Int.reduceNeg, Int.reduceAdd, Int.reduceSub, Int.reduceMul, reduceCtorEq, iA, iS, iM, iD, iR, iN, lA, lS, lM, lD, lR, h.1.k, wM_of (q_keptRows h ha), if_neg hi]
    by_cases e : i < 0
    · simp [e]
    · have e2 : cK v P s a ≤ i := by omega
      simp [e, e2]
end CQ
