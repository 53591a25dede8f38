/-! A STEP CLOSED: the reference's machine does closeF -/
section CT
variable {S : QS} {v w : QV} {b M P B s : Int} {f : Int → Int}
theorem f_isMeasure (h : LMo S v M) (hB : v M 28 = B) (hB2 : B = 0 ∨ B = 1) (hn : 0 ≤ v (M + 3) B ∧ v (M + 3) B ≤ 4) {m : Int} : mX12_isMeasure [M, m] S (vf v (M + 1) f) = some (if 0 ≤ m ∧ m < v (M + 3) B then 1 else 0, vf v (M + 1) f) := by
  apply wM_eq
  have e1 : w32 (v (M + 3) B - 1) = v (M + 3) B - 1 := w32_e (by omega)
  simp only [mX12_isMeasure, sX12_isMeasure, wE_I, wE_V, wE_F, wE_A, wE_N, wE_1, wE_2, wE_D, wE_B, wE_If, wE_C, wE_CV, wE_SL, wE_SA, wA_0, wA_1, wC_B, wC_E, wC_And, wC_Or, wC_Not, wS_Skip, wS_Brk, wS_Cnt, wS_RetV, wS_Ret, wS_Seq, wS_Set, wS_Inc, wS_Do, wS_Put, wS_PutC, wS_Arr, wS_ArrC, wS_If, wS_Sw, wS_F0, wS_F1, wM_q, lu_ap, aL_ap, ct_0, ct_1, ct_2, ct_3, ct_4, ct_5, headD_1, List.mem_cons, List.not_mem_nil, or_false, false_or, or_true, true_or, true_and, and_true, false_and, and_false, not_true_eq_false, not_false_eq_true, if_true, if_false, nr_20, nr_24, nr_40, nr_41, nr_44, pt_lt, pt_ge, pt_eq, pt_ne, pt_gt, pt_le, pt_E, pt_N, pt_F, ite_10, ite_11, ne_eq, and_self, or_self, decide_true, decide_false, Bool.not_true, Bool.not_false, Bool.false_eq_true, Nat.reduceEqDiff, Nat.reduceAdd, Int.reduceEq, Int.reduceLT, Int.reduceLE, Int.reduceNeg, Int.reduceAdd, Int.reduceSub, Int.reduceMul, reduceCtorEq, iA, iS, iM, iD, iR, iN, lA, lS, lM, lD, lR, h.k, wM_of (f_many h hB hB2), e1, wM_of m_isIn]
  clear e1
  exact ite_c (by omega)
theorem f_isFollowed (h : LMo S v M) (hB : v M 28 = B) (hB2 : B = 0 ∨ B = 1) (hn : 0 ≤ v (M + 3) B ∧ v (M + 3) B ≤ 4) {m : Int} (hm : 0 ≤ m ∧ m < v (M + 3) B) : mX12_isFollowed [M, m] S (vf v (M + 1) f) = some (if v (M + 18) (4 * B + m) = 0 then 0 else 1, vf v (M + 1) f) := by
  have hw := fun g => h.keep (Kp.vf h (f := g))
  have eB : vf v (M + 1) f M 28 = B := by rw [vf_ne (by omega)]; exact hB
  have e18 : vf v (M + 1) f (M + 18) (4 * B + m) = v (M + 18) (4 * B + m) := vf_ne (by omega)
  have e3 : 0 ≤ 4 * B + m ∧ 4 * B + m < 8 := by omega
  have hown := m_own (S := S) (v := vf v (M + 1) f) hB2 (show 0 ≤ m ∧ m ≤ 1000 by omega)
  apply wM_eq
  by_cases c : v (M + 18) (4 * B + m) = 0
  · simp only [mX12_isFollowed, sX12_isFollowed, wE_I, wE_V, wE_F, wE_A, wE_N, wE_1, wE_2, wE_D, wE_B, wE_If, wE_C, wE_CV, wE_SL, wE_SA, wA_0, wA_1, wC_B, wC_E, wC_And, wC_Or, wC_Not, wS_Skip, wS_Brk, wS_Cnt, wS_RetV, wS_Ret, wS_Seq, wS_Set, wS_Inc, wS_Do, wS_Put, wS_PutC, wS_Arr, wS_ArrC, wS_If, wS_Sw, wS_F0, wS_F1, wM_q, lu_ap, aL_ap, ct_0, ct_1, ct_2, ct_3, ct_4, ct_5, headD_1, List.mem_cons, List.not_mem_nil, or_false, false_or, or_true, true_or, true_and, and_true, false_and, and_false, not_true_eq_false, not_false_eq_true, if_true, if_false, nr_20, nr_24, nr_40, nr_41, nr_44, pt_lt, pt_ge, pt_eq, pt_ne, pt_gt, pt_le, pt_E, pt_N, pt_F, ite_10, ite_11, ne_eq, and_self, or_self, decide_true, decide_false, Bool.not_true, Bool.not_false, Bool.false_eq_true, Nat.reduceEqDiff, Nat.reduceAdd, Int.reduceEq, Int.reduceLT, Int.reduceLE, Int.reduceNeg, Int.reduceAdd, Int.reduceSub, Int.reduceMul, reduceCtorEq, iA, iS, iM, iD, iR, iN, lA, lS, lM, lD, lR, h.k, wM_of (f_isMeasure h hB hB2 hn), hm, (hw _).p17, h.a18, h.n18, eB, e18, wM_of hown, e3, c, decide_eq_true_eq]
  · simp only [mX12_isFollowed, sX12_isFollowed, wE_I, wE_V, wE_F, wE_A, wE_N, wE_1, wE_2, wE_D, wE_B, wE_If, wE_C, wE_CV, wE_SL, wE_SA, wA_0, wA_1, wC_B, wC_E, wC_And, wC_Or, wC_Not, wS_Skip, wS_Brk, wS_Cnt, wS_RetV, wS_Ret, wS_Seq, wS_Set, wS_Inc, wS_Do, wS_Put, wS_PutC, wS_Arr, wS_ArrC, wS_If, wS_Sw, wS_F0, wS_F1, wM_q, lu_ap, aL_ap, ct_0, ct_1, ct_2, ct_3, ct_4, ct_5, headD_1, List.mem_cons, List.not_mem_nil, or_false, false_or, or_true, true_or, true_and, and_true, false_and, and_false, not_true_eq_false, not_false_eq_true, if_true, if_false, nr_20, nr_24, nr_40, nr_41, nr_44, pt_lt, pt_ge, pt_eq, pt_ne, pt_gt, pt_le, pt_E, pt_N, pt_F, ite_10, ite_11, ne_eq, and_self, or_self, decide_true, decide_false, Bool.not_true, Bool.not_false, Bool.false_eq_true, Nat.reduceEqDiff, Nat.reduceAdd, Int.reduceEq, Int.reduceLT, Int.reduceLE, Int.reduceNeg, Int.reduceAdd, Int.reduceSub, Int.reduceMul, reduceCtorEq, iA, iS, iM, iD, iR, iN, lA, lS, lM, lD, lR, h.k, wM_of (f_isMeasure h hB hB2 hn), hm, (hw _).p17, h.a18, h.n18, eB, e18, wM_of hown, e3, c, decide_eq_true_eq]
theorem f_gatherAll (h : LMo S v M) (hB : v M 28 = B) (hB2 : B = 0 ∨ B = 1) {m x n : Int} (hm : 0 ≤ m ∧ m < 4) (hna : 0 ≤ v (M + 4) B ∧ v (M + 4) B ≤ 4) {L : QL} (m0 : L 0 = M) (m1 : L 1 = m) (m2 : L 2 = n) (m5 : L 5 = x) : wS (sSeq (sSet 7 (eI 0)) (sWhile cX12_closeStep_2 bX12_closeStep_2 uX12_closeStep_2)) L S (vf v (M + 1) f) (fun k _ L' w => k = 0 ∧ L' = lu L 7 (v (M + 4) B) ∧ w = vf v (M + 1) (itF (fun a => gatherF a m x n) (v (M + 4) B).toNat f)) := by
  have har := fun g => f_archivesNow (S := S) (f := g) h hB hB2
  generalize hN : v (M + 4) B = na at *
  simp only [wE_I, wE_V, wE_F, wE_A, wE_N, wE_1, wE_2, wE_D, wE_B, wE_If, wE_C, wE_CV, wE_SL, wE_SA, wA_0, wA_1, wC_B, wC_E, wC_And, wC_Or, wC_Not, wS_Skip, wS_Brk, wS_Cnt, wS_RetV, wS_Ret, wS_Seq, wS_Set, wS_Inc, wS_Do, wS_Put, wS_PutC, wS_Arr, wS_ArrC, wS_If, wS_Sw, wS_F0, wS_F1, wM_q, lu_ap, aL_ap, ct_0, ct_1, ct_2, ct_3, ct_4, ct_5, headD_1, List.mem_cons, List.not_mem_nil, or_false, false_or, or_true, true_or, true_and, and_true, false_and, and_false, not_true_eq_false, not_false_eq_true, if_true, if_false, nr_20, nr_24, nr_40, nr_41, nr_44, pt_lt, pt_ge, pt_eq, pt_ne, pt_gt, pt_le, pt_E, pt_N, pt_F, ite_10, ite_11, ne_eq, and_self, or_self, decide_true, decide_false, Bool.not_true, Bool.not_false, Bool.false_eq_true, Nat.reduceEqDiff, Nat.reduceAdd, Int.reduceEq, Int.reduceLT, Int.reduceLE, Int.reduceNeg, Int.reduceAdd, Int.reduceSub, Int.reduceMul, reduceCtorEq, iA, iS, iM, iD, iR, iN, lA, lS, lM, lD, lR]
  refine wS_For na.toNat (fun j L' w => L' = lu L 7 j ∧ w = vf v (M + 1) (itF (fun a => gatherF a m x n) j f)) (by omega) ?_ ?_ ?_
  · exact ⟨rfl, rfl⟩
  · rintro j L' w hj ⟨hL', rfl⟩
    have hja : (j : Int) < na := by omega
    have n0 : L' 0 = M := by rw [hL']; simp [lu_ap, m0]
    have n1 : L' 1 = m := by rw [hL']; simp [lu_ap, m1]
    have n2 : L' 2 = n := by rw [hL']; simp [lu_ap, m2]
    have n5 : L' 5 = x := by rw [hL']; simp [lu_ap, m5]
    have n7 : L' 7 = j := by rw [hL']; simp [lu_ap]
    have e1 : w32 ((j : Int) + 1) = j + 1 := w32_e (by omega)
    have hg := m_gather (S := S) (f := itF (fun a => gatherF a m x n) j f) (a := j) (m := m) (x := x) (n := n) h (by clear e1; omega) hm
    simp only [cX12_closeStep_2, bX12_closeStep_2, uX12_closeStep_2, wE_I, wE_V, wE_F, wE_A, wE_N, wE_1, wE_2, wE_D, wE_B, wE_If, wE_C, wE_CV, wE_SL, wE_SA, wA_0, wA_1, wC_B, wC_E, wC_And, wC_Or, wC_Not, wS_Skip, wS_Brk, wS_Cnt, wS_RetV, wS_Ret, wS_Seq, wS_Set, wS_Inc, wS_Do, wS_Put, wS_PutC, wS_Arr, wS_ArrC, wS_If, wS_Sw, wS_F0, wS_F1, wM_q, lu_ap, aL_ap, ct_0, ct_1, ct_2, ct_3, ct_4, ct_5, headD_1, List.mem_cons, List.not_mem_nil, or_false, false_or, or_true, true_or, true_and, and_true, false_and, and_false, not_true_eq_false, not_false_eq_true, if_true, if_false, nr_20, nr_24, nr_40, nr_41, nr_44, pt_lt, pt_ge, pt_eq, pt_ne, pt_gt, pt_le, pt_E, pt_N, pt_F, ite_10, ite_11, ne_eq, and_self, or_self, decide_true, decide_false, Bool.not_true, Bool.not_false, Bool.false_eq_true, Nat.reduceEqDiff, Nat.reduceAdd, Int.reduceEq, Int.reduceLT, Int.reduceLE, Int.reduceNeg, Int.reduceAdd, Int.reduceSub, Int.reduceMul, reduceCtorEq, iA, iS, iM, iD, iR, iN, lA, lS, lM, lD, lR, h.k, n0, n1, n2, n5, n7, wM_of (har _), wM_of hg, hja, e1]
    refine ⟨?_, rfl⟩
    rw [hL']
    funext i
    simp only [lu_ap]
    split <;> simp
  · rintro L' w ⟨hL', rfl⟩
    have e : ((na.toNat : Nat) : Int) = na := by omega
    rw [e] at hL'
    have n0 : L' 0 = M := by rw [hL']; simp [lu_ap, m0]
    have n7 : L' 7 = na := by rw [hL']; simp [lu_ap]
    simp only [cX12_closeStep_2, wE_I, wE_V, wE_F, wE_A, wE_N, wE_1, wE_2, wE_D, wE_B, wE_If, wE_C, wE_CV, wE_SL, wE_SA, wA_0, wA_1, wC_B, wC_E, wC_And, wC_Or, wC_Not, wS_Skip, wS_Brk, wS_Cnt, wS_RetV, wS_Ret, wS_Seq, wS_Set, wS_Inc, wS_Do, wS_Put, wS_PutC, wS_Arr, wS_ArrC, wS_If, wS_Sw, wS_F0, wS_F1, wM_q, lu_ap, aL_ap, ct_0, ct_1, ct_2, ct_3, ct_4, ct_5, headD_1, List.mem_cons, List.not_mem_nil, or_false, false_or, or_true, true_or, true_and, and_true, false_and, and_false, not_true_eq_false, not_false_eq_true, if_true, if_false, nr_20, nr_24, nr_40, nr_41, nr_44, pt_lt, pt_ge, pt_eq, pt_ne, pt_gt, pt_le, pt_E, pt_N, pt_F, ite_10, ite_11, ne_eq, and_self, or_self, decide_true, decide_false, Bool.not_true, Bool.not_false, Bool.false_eq_true, Nat.reduceEqDiff, Nat.reduceAdd, Int.reduceEq, Int.reduceLT, Int.reduceLE, Int.reduceNeg, Int.reduceAdd, Int.reduceSub, Int.reduceMul, reduceCtorEq, iA, iS, iM, iD, iR, iN, lA, lS, lM, lD, lR, h.k, n0, n7, wM_of (har _)]
    exact ⟨Int.lt_irrefl _, hL'⟩
theorem f_closeMeas (h : LMo S v M) (hB : v M 28 = B) (hB2 : B = 0 ∨ B = 1) (hPB : PB v M B) {m : Int} (hm : 0 ≤ m ∧ m < v (M + 3) B) (hf1 : 0 ≤ f 1 ∧ f 1 ≤ 1000000) (hFm : FIm f (3 + 12 * m) (v (M + 2) B)) (hFf : ¬ v (M + 18) (4 * B + m) = 0 → FIf f (647 + 112 * m)) {L : QL} (m0 : L 0 = M) (m1 : L 1 = m) : wS bX12_closeStep_1 L S (vf v (M + 1) f) (fun k _ L' w => k = 0 ∧ (L' 0 = M ∧ L' 1 = m) ∧ w = vf v (M + 1) (measF v M B m f)) := by
  obtain ⟨pst, pn, pna, pf, pa⟩ := hPB
  obtain ⟨tm4, tm7, tm6⟩ := hFm
  have hw := fun g => h.keep (Kp.vf h (f := g))
  have hm4 : 0 ≤ m ∧ m < 4 := by omega
  have aM := fun g z (q : 0 ≤ z ∧ z < 12) => m_atMeasure (S := S) (v := vf v (M + 1) g) hm4 q
  have qM : ∀ z, 0 ≤ z ∧ z < 12 → 0 ≤ 3 + 12 * m + z ∧ 3 + 12 * m + z < 1095 := fun z q => by omega
  have eB : ∀ g, vf v (M + 1) g M 28 = B := fun g => by rw [vf_ne (by omega)]; exact hB
  have e2 : ∀ g, vf v (M + 1) g (M + 2) B = v (M + 2) B := fun g => vf_ne (by omega)
  have o2 : 0 ≤ B ∧ B < 2 := by omega
  have r5 : 0 ≤ (5 : Int) ∧ (5 : Int) < 12 := by decide
  have r6 : 0 ≤ (6 : Int) ∧ (6 : Int) < 12 := by decide
  have r7 : 0 ≤ (7 : Int) ∧ (7 : Int) < 12 := by decide
  have r10 : 0 ≤ (10 : Int) ∧ (10 : Int) < 12 := by decide
  unfold measF
  dsimp only
  generalize hst : v (M + 2) B = st at *
  have vb : 2 * (st - f (3 + 12 * m + 7)) < st → ¬ f (3 + 12 * m + 7) = 0 ∧ 0 ≤ f (3 + 12 * m + 6) / f (3 + 12 * m + 7) ∧ f (3 + 12 * m + 6) / f (3 + 12 * m + 7) ≤ 999999000 := fun q => by
    have p : 0 < f (3 + 12 * m + 7) := by omega
    exact ⟨by omega, Int.ediv_nonneg tm6.1 (by omega), Int.ediv_le_of_le_mul p tm6.2⟩
  have gf5 : ∀ x y, fu (fu f (3 + 12 * m + 5) x) (3 + 12 * m + 10) y (3 + 12 * m + 6) = f (3 + 12 * m + 6) := fun x y => by rw [fu_ne (by omega), fu_ne (by omega)]
  generalize hkn : f (3 + 12 * m + 7) = kn at *
  generalize hsm : f (3 + 12 * m + 6) = sm at *
  have i1 : w64 (st - kn) = st - kn := w64_e (by omega)
  have i2 : w64 (2 * (st - kn)) = 2 * (st - kn) := by clear i1; exact w64_e (by omega)
  unfold bX12_closeStep_1
  refine ws_step (L' := lu L 2 kn) (w := vf v (M + 1) f) (by simp only [wE_I, wE_V, wE_F, wE_A, wE_N, wE_1, wE_2, wE_D, wE_B, wE_If, wE_C, wE_CV, wE_SL, wE_SA, wA_0, wA_1, wC_B, wC_E, wC_And, wC_Or, wC_Not, wS_Skip, wS_Brk, wS_Cnt, wS_RetV, wS_Ret, wS_Seq, wS_Set, wS_Inc, wS_Do, wS_Put, wS_PutC, wS_Arr, wS_ArrC, wS_If, wS_Sw, wS_F0, wS_F1, wM_q, lu_ap, aL_ap, ct_0, ct_1, ct_2, ct_3, ct_4, ct_5, headD_1, List.mem_cons, List.not_mem_nil, or_false, false_or, or_true, true_or, true_and, and_true, false_and, and_false, not_true_eq_false, not_false_eq_true, if_true, if_false, nr_20, nr_24, nr_40, nr_41, nr_44, pt_lt, pt_ge, pt_eq, pt_ne, pt_gt, pt_le, pt_E, pt_N, pt_F, ite_10, ite_11, ne_eq, and_self, or_self, decide_true, decide_false, Bool.not_true, Bool.not_false, Bool.false_eq_true, Nat.reduceEqDiff, Nat.reduceAdd, Int.reduceEq, Int.reduceLT, Int.reduceLE, Int.reduceNeg, Int.reduceAdd, Int.reduceSub, Int.reduceMul, reduceCtorEq, iA, iS, iM, iD, iR, iN, lA, lS, lM, lD, lR, h.k, (hw _).p0, h.a1, h.n1, vf_is, m0, m1, wM_of (aM _ _ r7), qM _ r7, hkn]) ?_
  refine ws_step (L' := lu (lu L 2 kn) 4 (if 2 * (st - kn) < st then 1 else 0)) (w := vf v (M + 1) f) ?_ ?_
  · by_cases c : 2 * (st - kn) < st <;> simp only [wE_I, wE_V, wE_F, wE_A, wE_N, wE_1, wE_2, wE_D, wE_B, wE_If, wE_C, wE_CV, wE_SL, wE_SA, wA_0, wA_1, wC_B, wC_E, wC_And, wC_Or, wC_Not, wS_Skip, wS_Brk, wS_Cnt, wS_RetV, wS_Ret, wS_Seq, wS_Set, wS_Inc, wS_Do, wS_Put, wS_PutC, wS_Arr, wS_ArrC, wS_If, wS_Sw, wS_F0, wS_F1, wM_q, lu_ap, aL_ap, ct_0, ct_1, ct_2, ct_3, ct_4, ct_5, headD_1, List.mem_cons, List.not_mem_nil, or_false, false_or, or_true, true_or, true_and, and_true, false_and, and_false, not_true_eq_false, not_false_eq_true, if_true, if_false, nr_20, nr_24, nr_40, nr_41, nr_44, pt_lt, pt_ge, pt_eq, pt_ne, pt_gt, pt_le, pt_E, pt_N, pt_F, ite_10, ite_11, ne_eq, and_self, or_self, decide_true, decide_false, Bool.not_true, Bool.not_false, Bool.false_eq_true, Nat.reduceEqDiff, Nat.reduceAdd, Int.reduceEq, Int.reduceLT, Int.reduceLE, Int.reduceNeg, Int.reduceAdd, Int.reduceSub, Int.reduceMul, reduceCtorEq, iA, iS, iM, iD, iR, iN, lA, lS, lM, lD, lR, h.k, (hw _).p1, h.a2, h.n2, eB, e2, o2, m0, m1, i1, i2, c]
  clear i1 i2
  refine ws_step (L' := lu (lu (lu L 2 kn) 4 (if 2 * (st - kn) < st then 1 else 0)) 5 (if 2 * (st - kn) < st then sm / kn else -2147483648)) (w := vf v (M + 1) f) ?_ ?_
  · by_cases c : 2 * (st - kn) < st
    · obtain ⟨v1, v2, v3⟩ := vb c
      have i3 : w64 (sm / kn) = sm / kn := w64_e (by omega)
      simp only [wE_I, wE_V, wE_F, wE_A, wE_N, wE_1, wE_2, wE_D, wE_B, wE_If, wE_C, wE_CV, wE_SL, wE_SA, wA_0, wA_1, wC_B, wC_E, wC_And, wC_Or, wC_Not, wS_Skip, wS_Brk, wS_Cnt, wS_RetV, wS_Ret, wS_Seq, wS_Set, wS_Inc, wS_Do, wS_Put, wS_PutC, wS_Arr, wS_ArrC, wS_If, wS_Sw, wS_F0, wS_F1, wM_q, lu_ap, aL_ap, ct_0, ct_1, ct_2, ct_3, ct_4, ct_5, headD_1, List.mem_cons, List.not_mem_nil, or_false, false_or, or_true, true_or, true_and, and_true, false_and, and_false, not_true_eq_false, not_false_eq_true, if_true, if_false, nr_20, nr_24, nr_40, nr_41, nr_44, pt_lt, pt_ge, pt_eq, pt_ne, pt_gt, pt_le, pt_E, pt_N, pt_F, ite_10, ite_11, ne_eq, and_self, or_self, decide_true, decide_false, Bool.not_true, Bool.not_false, Bool.false_eq_true, Nat.reduceEqDiff, Nat.reduceAdd, Int.reduceEq, Int.reduceLT, Int.reduceLE, Int.reduceNeg, Int.reduceAdd, Int.reduceSub, Int.reduceMul, reduceCtorEq, iA, iS, iM, iD, iR, iN, lA, lS, lM, lD, lR, h.k, (hw _).p0, h.a1, h.n1, vf_is, m0, m1, wM_of (aM _ _ r6), qM _ r6, hsm, c, tdiv_n tm6.1, i3, v1]
    · simp only [wE_I, wE_V, wE_F, wE_A, wE_N, wE_1, wE_2, wE_D, wE_B, wE_If, wE_C, wE_CV, wE_SL, wE_SA, wA_0, wA_1, wC_B, wC_E, wC_And, wC_Or, wC_Not, wS_Skip, wS_Brk, wS_Cnt, wS_RetV, wS_Ret, wS_Seq, wS_Set, wS_Inc, wS_Do, wS_Put, wS_PutC, wS_Arr, wS_ArrC, wS_If, wS_Sw, wS_F0, wS_F1, wM_q, lu_ap, aL_ap, ct_0, ct_1, ct_2, ct_3, ct_4, ct_5, headD_1, List.mem_cons, List.not_mem_nil, or_false, false_or, or_true, true_or, true_and, and_true, false_and, and_false, not_true_eq_false, not_false_eq_true, if_true, if_false, nr_20, nr_24, nr_40, nr_41, nr_44, pt_lt, pt_ge, pt_eq, pt_ne, pt_gt, pt_le, pt_E, pt_N, pt_F, ite_10, ite_11, ne_eq, and_self, or_self, decide_true, decide_false, Bool.not_true, Bool.not_false, Bool.false_eq_true, Nat.reduceEqDiff, Nat.reduceAdd, Int.reduceEq, Int.reduceLT, Int.reduceLE, Int.reduceNeg, Int.reduceAdd, Int.reduceSub, Int.reduceMul, reduceCtorEq, iA, iS, iM, iD, iR, iN, lA, lS, lM, lD, lR, c]
  have tval : tv (if 2 * (st - kn) < st then sm / kn else -2147483648) := by
    unfold tv
    split
    · rename_i q; have := vb q; omega
    · exact Or.inl rfl
  have ven : 2 * (st - kn) < st → True := fun _ => trivial
  generalize (if 2 * (st - kn) < st then sm / kn else -2147483648) = val at *
  generalize hL5 : lu (lu (lu L 2 kn) 4 (if 2 * (st - kn) < st then 1 else 0)) 5 val = L5
  have k0 : L5 0 = M := by rw [← hL5]; simp [lu_ap, m0]
  have k1 : L5 1 = m := by rw [← hL5]; simp [lu_ap, m1]
  have k2 : L5 2 = kn := by rw [← hL5]; simp [lu_ap]
  have k4 : L5 4 = if 2 * (st - kn) < st then 1 else 0 := by rw [← hL5]; simp [lu_ap]
  have k5 : L5 5 = val := by rw [← hL5]; simp [lu_ap]
  clear hL5
  refine ws_step (L' := L5) (w := vf v (M + 1) (fu f (3 + 12 * m + 5) val)) (by simp only [wE_I, wE_V, wE_F, wE_A, wE_N, wE_1, wE_2, wE_D, wE_B, wE_If, wE_C, wE_CV, wE_SL, wE_SA, wA_0, wA_1, wC_B, wC_E, wC_And, wC_Or, wC_Not, wS_Skip, wS_Brk, wS_Cnt, wS_RetV, wS_Ret, wS_Seq, wS_Set, wS_Inc, wS_Do, wS_Put, wS_PutC, wS_Arr, wS_ArrC, wS_If, wS_Sw, wS_F0, wS_F1, wM_q, lu_ap, aL_ap, ct_0, ct_1, ct_2, ct_3, ct_4, ct_5, headD_1, List.mem_cons, List.not_mem_nil, or_false, false_or, or_true, true_or, true_and, and_true, false_and, and_false, not_true_eq_false, not_false_eq_true, if_true, if_false, nr_20, nr_24, nr_40, nr_41, nr_44, pt_lt, pt_ge, pt_eq, pt_ne, pt_gt, pt_le, pt_E, pt_N, pt_F, ite_10, ite_11, ne_eq, and_self, or_self, decide_true, decide_false, Bool.not_true, Bool.not_false, Bool.false_eq_true, Nat.reduceEqDiff, Nat.reduceAdd, Int.reduceEq, Int.reduceLT, Int.reduceLE, Int.reduceNeg, Int.reduceAdd, Int.reduceSub, Int.reduceMul, reduceCtorEq, iA, iS, iM, iD, iR, iN, lA, lS, lM, lD, lR, h.k, (hw _).p0, h.a1, h.n1, vf_is, vf_vu, k0, k1, k5, wM_of (aM _ _ r5), qM _ r5]) ?_
  refine ws_step (L' := L5) (w := vf v (M + 1) (fu (fu f (3 + 12 * m + 5) val) (3 + 12 * m + 10) kn)) (by simp only [wE_I, wE_V, wE_F, wE_A, wE_N, wE_1, wE_2, wE_D, wE_B, wE_If, wE_C, wE_CV, wE_SL, wE_SA, wA_0, wA_1, wC_B, wC_E, wC_And, wC_Or, wC_Not, wS_Skip, wS_Brk, wS_Cnt, wS_RetV, wS_Ret, wS_Seq, wS_Set, wS_Inc, wS_Do, wS_Put, wS_PutC, wS_Arr, wS_ArrC, wS_If, wS_Sw, wS_F0, wS_F1, wM_q, lu_ap, aL_ap, ct_0, ct_1, ct_2, ct_3, ct_4, ct_5, headD_1, List.mem_cons, List.not_mem_nil, or_false, false_or, or_true, true_or, true_and, and_true, false_and, and_false, not_true_eq_false, not_false_eq_true, if_true, if_false, nr_20, nr_24, nr_40, nr_41, nr_44, pt_lt, pt_ge, pt_eq, pt_ne, pt_gt, pt_le, pt_E, pt_N, pt_F, ite_10, ite_11, ne_eq, and_self, or_self, decide_true, decide_false, Bool.not_true, Bool.not_false, Bool.false_eq_true, Nat.reduceEqDiff, Nat.reduceAdd, Int.reduceEq, Int.reduceLT, Int.reduceLE, Int.reduceNeg, Int.reduceAdd, Int.reduceSub, Int.reduceMul, reduceCtorEq, iA, iS, iM, iD, iR, iN, lA, lS, lM, lD, lR, h.k, (hw _).p0, h.a1, h.n1, vf_is, vf_vu, k0, k1, k2, wM_of (aM _ _ r10), qM _ r10]) ?_
  refine ws_step (L' := L5) (w := vf v (M + 1) (fu (fu (fu f (3 + 12 * m + 5) val) (3 + 12 * m + 10) kn) (3 + 12 * m + 6) 0)) (by simp only [wE_I, wE_V, wE_F, wE_A, wE_N, wE_1, wE_2, wE_D, wE_B, wE_If, wE_C, wE_CV, wE_SL, wE_SA, wA_0, wA_1, wC_B, wC_E, wC_And, wC_Or, wC_Not, wS_Skip, wS_Brk, wS_Cnt, wS_RetV, wS_Ret, wS_Seq, wS_Set, wS_Inc, wS_Do, wS_Put, wS_PutC, wS_Arr, wS_ArrC, wS_If, wS_Sw, wS_F0, wS_F1, wM_q, lu_ap, aL_ap, ct_0, ct_1, ct_2, ct_3, ct_4, ct_5, headD_1, List.mem_cons, List.not_mem_nil, or_false, false_or, or_true, true_or, true_and, and_true, false_and, and_false, not_true_eq_false, not_false_eq_true, if_true, if_false, nr_20, nr_24, nr_40, nr_41, nr_44, pt_lt, pt_ge, pt_eq, pt_ne, pt_gt, pt_le, pt_E, pt_N, pt_F, ite_10, ite_11, ne_eq, and_self, or_self, decide_true, decide_false, Bool.not_true, Bool.not_false, Bool.false_eq_true, Nat.reduceEqDiff, Nat.reduceAdd, Int.reduceEq, Int.reduceLT, Int.reduceLE, Int.reduceNeg, Int.reduceAdd, Int.reduceSub, Int.reduceMul, reduceCtorEq, iA, iS, iM, iD, iR, iN, lA, lS, lM, lD, lR, h.k, (hw _).p0, h.a1, h.n1, vf_is, vf_vu, k0, k1, wM_of (aM _ _ r6), qM _ r6]) ?_
  have fr4 : ∀ k, k < 3 + 12 * m + 5 ∨ 3 + 12 * m + 11 ≤ k → fu (fu (fu (fu f (3 + 12 * m + 5) val) (3 + 12 * m + 10) kn) (3 + 12 * m + 6) 0) (3 + 12 * m + 7) 0 k = f k := fun k q => by
    rw [fu_ne (by omega), fu_ne (by omega), fu_ne (by omega), fu_ne (by omega)]
  refine ws_step (L' := L5) (w := vf v (M + 1) (fu (fu (fu (fu f (3 + 12 * m + 5) val) (3 + 12 * m + 10) kn) (3 + 12 * m + 6) 0) (3 + 12 * m + 7) 0)) (by simp only [wE_I, wE_V, wE_F, wE_A, wE_N, wE_1, wE_2, wE_D, wE_B, wE_If, wE_C, wE_CV, wE_SL, wE_SA, wA_0, wA_1, wC_B, wC_E, wC_And, wC_Or, wC_Not, wS_Skip, wS_Brk, wS_Cnt, wS_RetV, wS_Ret, wS_Seq, wS_Set, wS_Inc, wS_Do, wS_Put, wS_PutC, wS_Arr, wS_ArrC, wS_If, wS_Sw, wS_F0, wS_F1, wM_q, lu_ap, aL_ap, ct_0, ct_1, ct_2, ct_3, ct_4, ct_5, headD_1, List.mem_cons, List.not_mem_nil, or_false, false_or, or_true, true_or, true_and, and_true, false_and, and_false, not_true_eq_false, not_false_eq_true, if_true, if_false, nr_20, nr_24, nr_40, nr_41, nr_44, pt_lt, pt_ge, pt_eq, pt_ne, pt_gt, pt_le, pt_E, pt_N, pt_F, ite_10, ite_11, ne_eq, and_self, or_self, decide_true, decide_false, Bool.not_true, Bool.not_false, Bool.false_eq_true, Nat.reduceEqDiff, Nat.reduceAdd, Int.reduceEq, Int.reduceLT, Int.reduceLE, Int.reduceNeg, Int.reduceAdd, Int.reduceSub, Int.reduceMul, reduceCtorEq, iA, iS, iM, iD, iR, iN, lA, lS, lM, lD, lR, h.k, (hw _).p0, h.a1, h.n1, vf_is, vf_vu, k0, k1, wM_of (aM _ _ r7), qM _ r7]) ?_
  generalize fu (fu (fu (fu f (3 + 12 * m + 5) val) (3 + 12 * m + 10) kn) (3 + 12 * m + 6) 0) (3 + 12 * m + 7) 0 = g4 at *
  have hre := m_reach (S := S) (f := g4) (x := val) h hm4
  refine ws_step (L' := L5) (w := vf v (M + 1) (if 2 * (st - kn) < st then reachF m val g4 else g4)) ?_ ?_
  · by_cases c : 2 * (st - kn) < st <;> simp only [wE_I, wE_V, wE_F, wE_A, wE_N, wE_1, wE_2, wE_D, wE_B, wE_If, wE_C, wE_CV, wE_SL, wE_SA, wA_0, wA_1, wC_B, wC_E, wC_And, wC_Or, wC_Not, wS_Skip, wS_Brk, wS_Cnt, wS_RetV, wS_Ret, wS_Seq, wS_Set, wS_Inc, wS_Do, wS_Put, wS_PutC, wS_Arr, wS_ArrC, wS_If, wS_Sw, wS_F0, wS_F1, wM_q, lu_ap, aL_ap, ct_0, ct_1, ct_2, ct_3, ct_4, ct_5, headD_1, List.mem_cons, List.not_mem_nil, or_false, false_or, or_true, true_or, true_and, and_true, false_and, and_false, not_true_eq_false, not_false_eq_true, if_true, if_false, nr_20, nr_24, nr_40, nr_41, nr_44, pt_lt, pt_ge, pt_eq, pt_ne, pt_gt, pt_le, pt_E, pt_N, pt_F, ite_10, ite_11, ne_eq, and_self, or_self, decide_true, decide_false, Bool.not_true, Bool.not_false, Bool.false_eq_true, Nat.reduceEqDiff, Nat.reduceAdd, Int.reduceEq, Int.reduceLT, Int.reduceLE, Int.reduceNeg, Int.reduceAdd, Int.reduceSub, Int.reduceMul, reduceCtorEq, iA, iS, iM, iD, iR, iN, lA, lS, lM, lD, lR, h.k, k0, k1, k4, k5, c, wM_of hre]
  have fr5 : ∀ k, k < 3 + 12 * m + 5 ∨ 3 + 12 * m + 11 ≤ k → (if 2 * (st - kn) < st then reachF m val g4 else g4) k = f k := fun k q => by
    split
    · rw [reachF_fr (by omega), fr4 k q]
    · exact fr4 k q
  generalize (if 2 * (st - kn) < st then reachF m val g4 else g4) = g5 at *
  refine ws_step (f_gatherAll h hB hB2 hm4 pna k0 k1 k2 k5) ?_
  have fr6 : ∀ k, (k < 3 + 12 * m + 5 ∨ 3 + 12 * m + 11 ≤ k) → (k < 55 ∨ 167 ≤ k) → itF (fun a => gatherF a m val kn) (v (M + 4) B).toNat g5 k = f k := fun k q q2 => by
    rw [gatherI_fr _ (fun a a0 a1 => by omega), fr5 k q]
  generalize itF (fun a => gatherF a m val kn) (v (M + 4) B).toNat g5 = g6 at *
  have l0 : lu L5 7 (v (M + 4) B) 0 = M := by simp [lu_ap, k0]
  have l1 : lu L5 7 (v (M + 4) B) 1 = m := by simp [lu_ap, k1]
  have l5 : lu L5 7 (v (M + 4) B) 5 = val := by simp [lu_ap, k5]
  generalize lu L5 7 (v (M + 4) B) = L7 at *
  have hfo := f_isFollowed (S := S) (f := g6) h hB hB2 pn hm
  by_cases c : v (M + 18) (4 * B + m) = 0
  · simp only [wE_I, wE_V, wE_F, wE_A, wE_N, wE_1, wE_2, wE_D, wE_B, wE_If, wE_C, wE_CV, wE_SL, wE_SA, wA_0, wA_1, wC_B, wC_E, wC_And, wC_Or, wC_Not, wS_Skip, wS_Brk, wS_Cnt, wS_RetV, wS_Ret, wS_Seq, wS_Set, wS_Inc, wS_Do, wS_Put, wS_PutC, wS_Arr, wS_ArrC, wS_If, wS_Sw, wS_F0, wS_F1, wM_q, lu_ap, aL_ap, ct_0, ct_1, ct_2, ct_3, ct_4, ct_5, headD_1, List.mem_cons, List.not_mem_nil, or_false, false_or, or_true, true_or, true_and, and_true, false_and, and_false, not_true_eq_false, not_false_eq_true, if_true, if_false, nr_20, nr_24, nr_40, nr_41, nr_44, pt_lt, pt_ge, pt_eq, pt_ne, pt_gt, pt_le, pt_E, pt_N, pt_F, ite_10, ite_11, ne_eq, and_self, or_self, decide_true, decide_false, Bool.not_true, Bool.not_false, Bool.false_eq_true, Nat.reduceEqDiff, Nat.reduceAdd, Int.reduceEq, Int.reduceLT, Int.reduceLE, Int.reduceNeg, Int.reduceAdd, Int.reduceSub, Int.reduceMul, reduceCtorEq, iA, iS, iM, iD, iR, iN, lA, lS, lM, lD, lR, h.k, l0, l1, l5, c, wM_of hfo]
  · have hF := hFf c
    have hF6 : FIf g6 (647 + 112 * m) := by
      obtain ⟨q0, q1, q2, q3⟩ := hF
      refine ⟨by rw [fr6 _ (by omega) (by omega)]; exact q0, by rw [fr6 _ (by omega) (by omega)]; exact q1, fun j j0 j1 => ?_, by rw [fr6 _ (by omega) (by omega)]; exact q3⟩
      rw [fr6 _ (by omega) (by omega), fr6 _ (by omega) (by omega)]
      exact q2 j j0 j1
    have hfl := f_follow (S := S) (f := g6) h hB hB2 hm4 tval (by rw [fr6 1 (by omega) (by omega)]; exact hf1) (pf m hm.1 hm.2 c) hF6
    simp only [wE_I, wE_V, wE_F, wE_A, wE_N, wE_1, wE_2, wE_D, wE_B, wE_If, wE_C, wE_CV, wE_SL, wE_SA, wA_0, wA_1, wC_B, wC_E, wC_And, wC_Or, wC_Not, wS_Skip, wS_Brk, wS_Cnt, wS_RetV, wS_Ret, wS_Seq, wS_Set, wS_Inc, wS_Do, wS_Put, wS_PutC, wS_Arr, wS_ArrC, wS_If, wS_Sw, wS_F0, wS_F1, wM_q, lu_ap, aL_ap, ct_0, ct_1, ct_2, ct_3, ct_4, ct_5, headD_1, List.mem_cons, List.not_mem_nil, or_false, false_or, or_true, true_or, true_and, and_true, false_and, and_false, not_true_eq_false, not_false_eq_true, if_true, if_false, nr_20, nr_24, nr_40, nr_41, nr_44, pt_lt, pt_ge, pt_eq, pt_ne, pt_gt, pt_le, pt_E, pt_N, pt_F, ite_10, ite_11, ne_eq, and_self, or_self, decide_true, decide_false, Bool.not_true, Bool.not_false, Bool.false_eq_true, Nat.reduceEqDiff, Nat.reduceAdd, Int.reduceEq, Int.reduceLT, Int.reduceLE, Int.reduceNeg, Int.reduceAdd, Int.reduceSub, Int.reduceMul, reduceCtorEq, iA, iS, iM, iD, iR, iN, lA, lS, lM, lD, lR, h.k, l0, l1, l5, c, wM_of hfo, wM_of hfl]
end CT
