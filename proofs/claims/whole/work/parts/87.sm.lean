/-! SMALL QUESTIONS over the state's row: the reference's -/
section SM
variable {S : QS} {v w : QV} {b M P B s : Int} {f : Int → Int}
theorem f_placeNow (h : LMo S v M) (hB : v M 28 = B) (hB2 : B = 0 ∨ B = 1) {m x : Int} (hm : 0 ≤ m ∧ m < 4) (hx : 0 ≤ x ∧ x ≤ 1000) (h1 : 0 ≤ f 1 ∧ f 1 ≤ 1000000) (hs : 2 ≤ v (M + 19) (4 * B + m) ∧ v (M + 19) (4 * B + m) ≤ 24) : mX12_placeNow [M, m, x] S (vf v (M + 1) f) = some ((f 1 + x) % v (M + 19) (4 * B + m), vf v (M + 1) f) := by
  have hw := fun g => h.keep (Kp.vf h (f := g))
  have hown := m_own (S := S) (v := vf v (M + 1) f) hB2 (show 0 ≤ m ∧ m ≤ 1000 by omega)
  have o1 : 0 ≤ 4 * B + m ∧ 4 * B + m < 8 := by omega
  have eB : vf v (M + 1) f M 28 = B := by rw [vf_ne (by omega)]; exact hB
  have e19 : vf v (M + 1) f (M + 19) (4 * B + m) = v (M + 19) (4 * B + m) := vf_ne (by omega)
  generalize v (M + 19) (4 * B + m) = ss at *
  have i1 : w64 (f 1 + x) = f 1 + x := w64_e (by omega)
  have g0 : 0 ≤ f 1 + x := by clear i1; omega
  have n0 : ¬ ss = 0 := by clear i1; omega
  have b1 := Int.emod_nonneg (f 1 + x) n0
  have b2 := Int.emod_lt_of_pos (f 1 + x) (show 0 < ss by clear i1; omega)
  have i2 : w32 ((f 1 + x) % ss) = (f 1 + x) % ss := by clear i1; exact w32_e (by omega)
  have i3 : w64 ((f 1 + x) % ss) = (f 1 + x) % ss := by clear i1 i2; exact w64_e (by omega)
  apply wM_eq
  simp only [mX12_placeNow, sX12_placeNow, wE_I, wE_V, wE_F, wE_A, wE_N, wE_1, wE_2, wE_D, wE_B, wE_If, wE_C, wE_CV, wE_SL, wE_SA, wA_0, wA_1, wC_B, wC_E, wC_And, wC_Or, wC_Not, wS_Skip, wS_Brk, wS_Cnt, wS_RetV, wS_Ret, wS_Seq, wS_Set, wS_Inc, wS_Do, wS_Put, wS_PutC, wS_Arr, wS_ArrC, wS_If, wS_Sw, wS_F0, wS_F1, wM_q, lu_ap, aL_ap, ct_0, ct_1, ct_2, ct_3, ct_4, ct_5, headD_1, List.mem_cons, List.not_mem_nil, or_false, false_or, or_true, true_or, true_and, and_true, false_and, and_false, not_true_eq_false, not_false_eq_true, if_true, if_false, nr_20, nr_24, nr_40, nr_41, nr_44, pt_lt, pt_ge, pt_eq, pt_ne, pt_gt, pt_le, pt_E, pt_N, pt_F, ite_10, ite_11, ne_eq, and_self, or_self, decide_true, decide_false, Bool.not_true, Bool.not_false, Bool.false_eq_true, Nat.reduceEqDiff, Nat.reduceAdd, Int.reduceEq, Int.reduceLT, Int.reduceLE, Int.reduceNeg, Int.reduceAdd, Int.reduceSub, Int.reduceMul, reduceCtorEq, iA, iS, iM, iD, iR, iN, lA, lS, lM, lD, lR, h.k, (hw _).p0, h.a1, h.n1, (hw _).p18, h.a19, h.n19, vf_is, eB, e19, o1, wM_of hown, i1, tmod_n g0, n0, i3, i2]
theorem f_many (h : LMo S v M) (hB : v M 28 = B) (hB2 : B = 0 ∨ B = 1) : mX12_many [M] S (vf v (M + 1) f) = some (v (M + 3) B, vf v (M + 1) f) := by
  have hw := fun g => h.keep (Kp.vf h (f := g))
  have o1 : 0 ≤ B ∧ B < 2 := by omega
  have eB : vf v (M + 1) f M 28 = B := by rw [vf_ne (by omega)]; exact hB
  have e3 : vf v (M + 1) f (M + 3) B = v (M + 3) B := vf_ne (by omega)
  apply wM_eq
  simp only [mX12_many, sX12_many, wE_I, wE_V, wE_F, wE_A, wE_N, wE_1, wE_2, wE_D, wE_B, wE_If, wE_C, wE_CV, wE_SL, wE_SA, wA_0, wA_1, wC_B, wC_E, wC_And, wC_Or, wC_Not, wS_Skip, wS_Brk, wS_Cnt, wS_RetV, wS_Ret, wS_Seq, wS_Set, wS_Inc, wS_Do, wS_Put, wS_PutC, wS_Arr, wS_ArrC, wS_If, wS_Sw, wS_F0, wS_F1, wM_q, lu_ap, aL_ap, ct_0, ct_1, ct_2, ct_3, ct_4, ct_5, headD_1, List.mem_cons, List.not_mem_nil, or_false, false_or, or_true, true_or, true_and, and_true, false_and, and_false, not_true_eq_false, not_false_eq_true, if_true, if_false, nr_20, nr_24, nr_40, nr_41, nr_44, pt_lt, pt_ge, pt_eq, pt_ne, pt_gt, pt_le, pt_E, pt_N, pt_F, ite_10, ite_11, ne_eq, and_self, or_self, decide_true, decide_false, Bool.not_true, Bool.not_false, Bool.false_eq_true, Nat.reduceEqDiff, Nat.reduceAdd, Int.reduceEq, Int.reduceLT, Int.reduceLE, Int.reduceNeg, Int.reduceAdd, Int.reduceSub, Int.reduceMul, reduceCtorEq, iA, iS, iM, iD, iR, iN, lA, lS, lM, lD, lR, h.k, (hw _).p2, h.a3, h.n3, eB, e3, o1]
theorem f_archivesNow (h : LMo S v M) (hB : v M 28 = B) (hB2 : B = 0 ∨ B = 1) : mX12_archivesNow [M] S (vf v (M + 1) f) = some (v (M + 4) B, vf v (M + 1) f) := by
  have hw := fun g => h.keep (Kp.vf h (f := g))
  have o1 : 0 ≤ B ∧ B < 2 := by omega
  have eB : vf v (M + 1) f M 28 = B := by rw [vf_ne (by omega)]; exact hB
  have e4 : vf v (M + 1) f (M + 4) B = v (M + 4) B := vf_ne (by omega)
  apply wM_eq
  simp only [mX12_archivesNow, sX12_archivesNow, wE_I, wE_V, wE_F, wE_A, wE_N, wE_1, wE_2, wE_D, wE_B, wE_If, wE_C, wE_CV, wE_SL, wE_SA, wA_0, wA_1, wC_B, wC_E, wC_And, wC_Or, wC_Not, wS_Skip, wS_Brk, wS_Cnt, wS_RetV, wS_Ret, wS_Seq, wS_Set, wS_Inc, wS_Do, wS_Put, wS_PutC, wS_Arr, wS_ArrC, wS_If, wS_Sw, wS_F0, wS_F1, wM_q, lu_ap, aL_ap, ct_0, ct_1, ct_2, ct_3, ct_4, ct_5, headD_1, List.mem_cons, List.not_mem_nil, or_false, false_or, or_true, true_or, true_and, and_true, false_and, and_false, not_true_eq_false, not_false_eq_true, if_true, if_false, nr_20, nr_24, nr_40, nr_41, nr_44, pt_lt, pt_ge, pt_eq, pt_ne, pt_gt, pt_le, pt_E, pt_N, pt_F, ite_10, ite_11, ne_eq, and_self, or_self, decide_true, decide_false, Bool.not_true, Bool.not_false, Bool.false_eq_true, Nat.reduceEqDiff, Nat.reduceAdd, Int.reduceEq, Int.reduceLT, Int.reduceLE, Int.reduceNeg, Int.reduceAdd, Int.reduceSub, Int.reduceMul, reduceCtorEq, iA, iS, iM, iD, iR, iN, lA, lS, lM, lD, lR, h.k, (hw _).p3, h.a4, h.n4, eB, e4, o1]
theorem f_rowsKept (h : LMo S v M) {a : Int} (ha : 0 ≤ a ∧ a < 4) (hk : 0 ≤ f (51 + a) ∧ f (51 + a) ≤ 1000) : mX12_rowsKept [M, a] S (vf v (M + 1) f) = some (f (51 + a), vf v (M + 1) f) := by
  have hw := fun g => h.keep (Kp.vf h (f := g))
  have i1 : w32 (51 + a) = 51 + a := w32_e (by omega)
  have o1 : 0 ≤ 51 + a ∧ 51 + a < 1095 := by clear i1; omega
  have i2 : w32 (f (51 + a)) = f (51 + a) := by clear i1; exact w32_e (by omega)
  apply wM_eq
  simp only [mX12_rowsKept, sX12_rowsKept, wE_I, wE_V, wE_F, wE_A, wE_N, wE_1, wE_2, wE_D, wE_B, wE_If, wE_C, wE_CV, wE_SL, wE_SA, wA_0, wA_1, wC_B, wC_E, wC_And, wC_Or, wC_Not, wS_Skip, wS_Brk, wS_Cnt, wS_RetV, wS_Ret, wS_Seq, wS_Set, wS_Inc, wS_Do, wS_Put, wS_PutC, wS_Arr, wS_ArrC, wS_If, wS_Sw, wS_F0, wS_F1, wM_q, lu_ap, aL_ap, ct_0, ct_1, ct_2, ct_3, ct_4, ct_5, headD_1, List.mem_cons, List.not_mem_nil, or_false, false_or, or_true, true_or, true_and, and_true, false_and, and_false, not_true_eq_false, not_false_eq_true, if_true, if_false, nr_20, nr_24, nr_40, nr_41, nr_44, pt_lt, pt_ge, pt_eq, pt_ne, pt_gt, pt_le, pt_E, pt_N, pt_F, ite_10, ite_11, ne_eq, and_self, or_self, decide_true, decide_false, Bool.not_true, Bool.not_false, Bool.false_eq_true, Nat.reduceEqDiff, Nat.reduceAdd, Int.reduceEq, Int.reduceLT, Int.reduceLE, Int.reduceNeg, Int.reduceAdd, Int.reduceSub, Int.reduceMul, reduceCtorEq, iA, iS, iM, iD, iR, iN, lA, lS, lM, lD, lR, h.k, (hw _).p0, h.a1, h.n1, vf_is, i1, o1, i2]
end SM
