/-! THE REFERENCE'S RATES -/
section RN
variable {S : QS} {v w : QV} {b M P B s : Int}
theorem m_width {k : Int} (h : 4 ≤ k ∧ k ≤ 20) : mX12_width [k] S v = some (p2 k, v) := by
  apply wM_eq
  simp only [mX12_width, sX12_width, wE_I, wE_V, wE_F, wE_A, wE_N, wE_1, wE_2, wE_D, wE_B, wE_If, wE_C, wE_CV, wE_SL, wE_SA, wA_0, wA_1, wC_B, wC_E, wC_And, wC_Or, wC_Not, wS_Skip, wS_Brk, wS_Cnt, wS_RetV, wS_Ret, wS_Seq, wS_Set, wS_Inc, wS_Do, wS_Put, wS_PutC, wS_Arr, wS_ArrC, wS_If, wS_Sw, wS_F0, wS_F1, wM_q, lu_ap, aL_ap, ct_0, ct_1, ct_2, ct_3, ct_4, ct_5, headD_1, List.mem_cons, List.not_mem_nil, or_false, false_or, or_true, true_or, true_and, and_true, false_and, and_false, not_true_eq_false, not_false_eq_true, if_true, if_false, nr_20, nr_24, nr_40, nr_41, nr_44, pt_lt, pt_ge, pt_eq, pt_ne, pt_gt, pt_le, pt_E, pt_N, pt_F, ite_10, ite_11, ne_eq, and_self, or_self, decide_true, decide_false, Bool.not_true, Bool.not_false, Bool.false_eq_true, Nat.reduceEqDiff, Nat.reduceAdd, Int.reduceEq, Int.reduceLT, Int.reduceLE, Int.reduceNeg, Int.reduceAdd, Int.reduceSub, Int.reduceMul, reduceCtorEq, iA, iS, iM, iD, iR, iN, lA, lS, lM, lD, lR, lSh_p h]
theorem m_isNumber (h : RM S v M B) {m n : Int} (hm : 0 ≤ m ∧ m < 4) (h2 : v (M + 8) (4 * B + m) = 2 → 4 ≤ v (M + 10) (4 * B + m) ∧ v (M + 10) (4 * B + m) ≤ 20) [Decidable (isN (v (M + 8) (4 * B + m)) (v (M + 10) (4 * B + m)) n)] : mX12_isNumber [M, m, n] S v = some (if isN (v (M + 8) (4 * B + m)) (v (M + 10) (4 * B + m)) n then 1 else 0, v) := by
  have hB := h.B2
  have o1 : 0 ≤ 4 * B + m ∧ 4 * B + m < 8 := by omega
  apply wM_eq
  by_cases hn : 0 ≤ n ∧ n ≤ 999999
  · by_cases hs : v (M + 8) (4 * B + m) = 2
    · have hk := h2 hs
      simp only [mX12_isNumber, sX12_isNumber, wE_I, wE_V, wE_F, wE_A, wE_N, wE_1, wE_2, wE_D, wE_B, wE_If, wE_C, wE_CV, wE_SL, wE_SA, wA_0, wA_1, wC_B, wC_E, wC_And, wC_Or, wC_Not, wS_Skip, wS_Brk, wS_Cnt, wS_RetV, wS_Ret, wS_Seq, wS_Set, wS_Inc, wS_Do, wS_Put, wS_PutC, wS_Arr, wS_ArrC, wS_If, wS_Sw, wS_F0, wS_F1, wM_q, lu_ap, aL_ap, ct_0, ct_1, ct_2, ct_3, ct_4, ct_5, headD_1, List.mem_cons, List.not_mem_nil, or_false, false_or, or_true, true_or, true_and, and_true, false_and, and_false, not_true_eq_false, not_false_eq_true, if_true, if_false, nr_20, nr_24, nr_40, nr_41, nr_44, pt_lt, pt_ge, pt_eq, pt_ne, pt_gt, pt_le, pt_E, pt_N, pt_F, ite_10, ite_11, ne_eq, and_self, or_self, decide_true, decide_false, Bool.not_true, Bool.not_false, Bool.false_eq_true, Nat.reduceEqDiff, Nat.reduceAdd, Int.reduceEq, Int.reduceLT, Int.reduceLE, Int.reduceNeg, Int.reduceAdd, Int.reduceSub, Int.reduceMul, reduceCtorEq, iA, iS, iM, iD, iR, iN, lA, lS, lM, lD, lR, h.1.k, h.1.p7, h.1.a8, h.1.n8, h.1.p9, h.1.a10, h.1.n10, h.2.1, wM_of (m_own h.2.2.1 (show 0 ≤ m ∧ m ≤ 1000 by omega)), o1, wM_of m_isIn, hn, hs, wM_of (m_width hk)]
      refine ite_c ?_
      unfold isN
      rw [hs]
      exact ⟨fun q => ⟨hn, fun _ => q⟩, fun q => q.2 rfl⟩
    · have : isN (v (M + 8) (4 * B + m)) (v (M + 10) (4 * B + m)) n := ⟨hn, fun q => absurd q hs⟩
      simp only [mX12_isNumber, sX12_isNumber, wE_I, wE_V, wE_F, wE_A, wE_N, wE_1, wE_2, wE_D, wE_B, wE_If, wE_C, wE_CV, wE_SL, wE_SA, wA_0, wA_1, wC_B, wC_E, wC_And, wC_Or, wC_Not, wS_Skip, wS_Brk, wS_Cnt, wS_RetV, wS_Ret, wS_Seq, wS_Set, wS_Inc, wS_Do, wS_Put, wS_PutC, wS_Arr, wS_ArrC, wS_If, wS_Sw, wS_F0, wS_F1, wM_q, lu_ap, aL_ap, ct_0, ct_1, ct_2, ct_3, ct_4, ct_5, headD_1, List.mem_cons, List.not_mem_nil, or_false, false_or, or_true, true_or, true_and, and_true, false_and, and_false, not_true_eq_false, not_false_eq_true, if_true, if_false, nr_20, nr_24, nr_40, nr_41, nr_44, pt_lt, pt_ge, pt_eq, pt_ne, pt_gt, pt_le, pt_E, pt_N, pt_F, ite_10, ite_11, ne_eq, and_self, or_self, decide_true, decide_false, Bool.not_true, Bool.not_false, Bool.false_eq_true, Nat.reduceEqDiff, Nat.reduceAdd, Int.reduceEq, Int.reduceLT, Int.reduceLE, Int.reduceNeg, Int.reduceAdd, Int.reduceSub, Int.reduceMul, reduceCtorEq, iA, iS, iM, iD, iR, iN, lA, lS, lM, lD, lR, h.1.k, h.1.p7, h.1.a8, h.1.n8, h.2.1, wM_of (m_own h.2.2.1 (show 0 ≤ m ∧ m ≤ 1000 by omega)), o1, wM_of m_isIn, hn, hs, this]
  · have : ¬ isN (v (M + 8) (4 * B + m)) (v (M + 10) (4 * B + m)) n := fun q => hn q.1
    simp only [mX12_isNumber, sX12_isNumber, wE_I, wE_V, wE_F, wE_A, wE_N, wE_1, wE_2, wE_D, wE_B, wE_If, wE_C, wE_CV, wE_SL, wE_SA, wA_0, wA_1, wC_B, wC_E, wC_And, wC_Or, wC_Not, wS_Skip, wS_Brk, wS_Cnt, wS_RetV, wS_Ret, wS_Seq, wS_Set, wS_Inc, wS_Do, wS_Put, wS_PutC, wS_Arr, wS_ArrC, wS_If, wS_Sw, wS_F0, wS_F1, wM_q, lu_ap, aL_ap, ct_0, ct_1, ct_2, ct_3, ct_4, ct_5, headD_1, List.mem_cons, List.not_mem_nil, or_false, false_or, or_true, true_or, true_and, and_true, false_and, and_false, not_true_eq_false, not_false_eq_true, if_true, if_false, nr_20, nr_24, nr_40, nr_41, nr_44, pt_lt, pt_ge, pt_eq, pt_ne, pt_gt, pt_le, pt_E, pt_N, pt_F, ite_10, ite_11, ne_eq, and_self, or_self, decide_true, decide_false, Bool.not_true, Bool.not_false, Bool.false_eq_true, Nat.reduceEqDiff, Nat.reduceAdd, Int.reduceEq, Int.reduceLT, Int.reduceLE, Int.reduceNeg, Int.reduceAdd, Int.reduceSub, Int.reduceMul, reduceCtorEq, iA, iS, iM, iD, iR, iN, lA, lS, lM, lD, lR, h.1.k, h.2.1, wM_of (m_own h.2.2.1 (show 0 ≤ m ∧ m ≤ 1000 by omega)), wM_of m_isIn, hn, this]
theorem m_wentOn {n last one two : Int} (hn : 0 ≤ n ∧ n ≤ 2000000) (hl : 0 ≤ last ∧ last ≤ 999999) (h : 4 ≤ one ∧ one < two ∧ two ≤ 20) : mX12_wentOn [n, last, one, two] S v = some (wo n last one two, v) := by
  have b1 := p2_b (k := one) (by omega)
  have b2 := p2_b (k := two) (by omega)
  have e1 : w64 (n - last) = n - last := w64_e (by omega)
  have e2 : w64 (n - last + p2 one) = n - last + p2 one := by clear e1; exact w64_e (by omega)
  have e3 : w64 (n - last + p2 two) = n - last + p2 two := by clear e1 e2; exact w64_e (by omega)
  apply wM_eq
  simp only [mX12_wentOn, sX12_wentOn, wE_I, wE_V, wE_F, wE_A, wE_N, wE_1, wE_2, wE_D, wE_B, wE_If, wE_C, wE_CV, wE_SL, wE_SA, wA_0, wA_1, wC_B, wC_E, wC_And, wC_Or, wC_Not, wS_Skip, wS_Brk, wS_Cnt, wS_RetV, wS_Ret, wS_Seq, wS_Set, wS_Inc, wS_Do, wS_Put, wS_PutC, wS_Arr, wS_ArrC, wS_If, wS_Sw, wS_F0, wS_F1, wM_q, lu_ap, aL_ap, ct_0, ct_1, ct_2, ct_3, ct_4, ct_5, headD_1, List.mem_cons, List.not_mem_nil, or_false, false_or, or_true, true_or, true_and, and_true, false_and, and_false, not_true_eq_false, not_false_eq_true, if_true, if_false, nr_20, nr_24, nr_40, nr_41, nr_44, pt_lt, pt_ge, pt_eq, pt_ne, pt_gt, pt_le, pt_E, pt_N, pt_F, ite_10, ite_11, ne_eq, and_self, or_self, decide_true, decide_false, Bool.not_true, Bool.not_false, Bool.false_eq_true, Nat.reduceEqDiff, Nat.reduceAdd, Int.reduceEq, Int.reduceLT, Int.reduceLE, Int.reduceNeg, Int.reduceAdd, Int.reduceSub, Int.reduceMul, reduceCtorEq, iA, iS, iM, iD, iR, iN, lA, lS, lM, lD, lR, e1, wM_of (m_width (k := one) (show 4 ≤ one ∧ one ≤ 20 by clear e1 e2 e3; omega)), wM_of (m_width (k := two) (show 4 ≤ two ∧ two ≤ 20 by clear e1 e2 e3; omega)), e2, e3, wo]
  clear e1 e2 e3
  by_cases q : last ≤ n
  · simp [q]
  · by_cases q2 : 0 ≤ n - last + p2 one <;> simp [q, q2]
theorem m_rateOf (h : RM S v M B) {m n span : Int} (hm : 0 ≤ m ∧ m < 4) (hr : rOk (v (M + 1) (3 + 12 * m + 1)) (v (M + 1) (3 + 12 * m + 2)) (v (M + 8) (4 * B + m)) (v (M + 1) (3 + 12 * m + 3)) (v (M + 9) (4 * B + m)) (v (M + 10) (4 * B + m)) span) [Decidable (rK (v (M + 1) (3 + 12 * m + 0)) (v (M + 1) (3 + 12 * m + 1)) (v (M + 1) (3 + 12 * m + 2)) (v (M + 8) (4 * B + m)) (v (M + 1) (3 + 12 * m + 3)) (v (M + 9) (4 * B + m)) (v (M + 10) (4 * B + m)) span n)] : mX12_rateOf [M, m, n, span] S v = some (if rK (v (M + 1) (3 + 12 * m + 0)) (v (M + 1) (3 + 12 * m + 1)) (v (M + 1) (3 + 12 * m + 2)) (v (M + 8) (4 * B + m)) (v (M + 1) (3 + 12 * m + 3)) (v (M + 9) (4 * B + m)) (v (M + 10) (4 * B + m)) span n then rI_ (v (M + 8) (4 * B + m)) (v (M + 1) (3 + 12 * m + 3)) (v (M + 9) (4 * B + m)) (v (M + 10) (4 * B + m)) span n else -2147483648, v) := by
  have hB := h.B2
  have hdec : ∀ a b c, Decidable (isN a b c) := fun _ _ _ => Classical.propDecidable _
  obtain ⟨r1, r2, r3, r4, r5⟩ := hr
  have o1 : 0 ≤ 4 * B + m ∧ 4 * B + m < 8 := by omega
  have of_ : ∀ x : Int, 0 ≤ x → x < 12 → (0 ≤ 3 + 12 * m + x ∧ 3 + 12 * m + x < 1095) := fun x g1 g2 => by omega
  have hN := m_isNumber h (n := n) hm (fun q => by have := r4 q; omega)
  have ats := fun (x : Int) (g : 0 ≤ x ∧ x < 12) => m_atMeasure (S := S) (v := v) hm g
  generalize hsil : v (M + 1) (3 + 12 * m + 0) = sil at *
  generalize hlea : v (M + 1) (3 + 12 * m + 1) = lea at *
  generalize hmos : v (M + 1) (3 + 12 * m + 2) = mos at *
  generalize hlas : v (M + 1) (3 + 12 * m + 3) = last at *
  generalize hsor : v (M + 8) (4 * B + m) = sort at *
  generalize hone : v (M + 9) (4 * B + m) = one at *
  generalize htwo : v (M + 10) (4 * B + m) = two at *
  have a0 := ats 0 (by decide)
  have a1 := ats 1 (by decide)
  have a2 := ats 2 (by decide)
  have a3 := ats 3 (by decide)
  have q0 := of_ 0 (by decide) (by decide)
  have q1 := of_ 1 (by decide) (by decide)
  have q2 := of_ 2 (by decide) (by decide)
  have q3 := of_ 3 (by decide) (by decide)
  have hown := m_own (S := S) (v := v) h.2.2.1 (show 0 ≤ m ∧ m ≤ 1000 by omega)
  apply wM_eq
  by_cases hA : (span ≤ sil ∧ isN sort two n) ∧ (sort = 2 → 0 ≤ last)
  · obtain ⟨⟨hA1, hA2⟩, hA3⟩ := hA
    have hA1' : ¬ sil < span := by omega
    have hi := hA2.1
    have c1 : w64 (1000 * lea) = 1000 * lea := w64_e (by omega)
    have c2 : w64 (1000 * mos) = 1000 * mos := by clear c1; exact w64_e (by omega)
    have c3 : w64 (1000 * n) = 1000 * n := by clear c1 c2; exact w64_e (by omega)
    have hsp : ¬ span = 0 := by clear c1 c2 c3; omega
    have hK : rK sil lea mos sort last one two span n ↔ (1000 * lea ≤ rI_ sort last one two span n ∧ rI_ sort last one two span n ≤ 1000 * mos) := ⟨fun q => q.2, fun q => ⟨⟨hA1, hA2, hA3⟩, q⟩⟩
    simp only [hK]
    have d0 : 0 ≤ 1000 * n := by clear c1 c2 c3; omega
    by_cases hs : sort = 2
    · subst hs
      have hl0 := hA3 rfl
      have hl0' : ¬ last < 0 := by clear c1 c2 c3; omega
      have r4' := r4 rfl
      have hw := wo_b (n := n) (last := last) (one := one) (two := two) ⟨hi.1, hA2.2 rfl⟩ ⟨hl0, r4'.2.2.2⟩ ⟨r4'.1, r4'.2.1, r4'.2.2.1⟩
      have hwe := m_wentOn (S := S) (v := v) (n := n) (last := last) (one := one) (two := two) (by clear c1 c2 c3; omega) (by clear c1 c2 c3; omega) ⟨r4'.1, r4'.2.1, r4'.2.2.1⟩
      have hI : rI_ 2 last one two span n = 1000 * wo n last one two / span := by
        unfold rI_
        rw [if_neg (by decide), if_neg (by decide)]
      rw [hI]
      have d1 : 0 ≤ 1000 * wo n last one two := by clear c1 c2 c3; omega
      have d2 := Int.ediv_nonneg d1 (show 0 ≤ span by clear c1 c2 c3; omega)
      have d3 := Int.ediv_le_self span d1
      generalize wo n last one two = W at *
      have e1 : w64 (1000 * W) = 1000 * W := by clear c1 c2 c3; exact w64_e (by omega)
      generalize hZ : 1000 * W / span = Z at *
      have e2 : w64 ((1000 * W).tdiv span) = Z := by clear c1 c2 c3 e1; rw [tdiv_n d1, hZ]; exact w64_e (by omega)
      have s1 : ¬ (2 : Int) = 1 := by decide
      simp only [mX12_rateOf, sX12_rateOf, wE_I, wE_V, wE_F, wE_A, wE_N, wE_1, wE_2, wE_D, wE_B, wE_If, wE_C, wE_CV, wE_SL, wE_SA, wA_0, wA_1, wC_B, wC_E, wC_And, wC_Or, wC_Not, wS_Skip, wS_Brk, wS_Cnt, wS_RetV, wS_Ret, wS_Seq, wS_Set, wS_Inc, wS_Do, wS_Put, wS_PutC, wS_Arr, wS_ArrC, wS_If, wS_Sw, wS_F0, wS_F1, wM_q, lu_ap, aL_ap, ct_0, ct_1, ct_2, ct_3, ct_4, ct_5, headD_1, List.mem_cons, List.not_mem_nil, or_false, false_or, or_true, true_or, true_and, and_true, false_and, and_false, not_true_eq_false, not_false_eq_true, if_true, if_false, nr_20, nr_24, nr_40, nr_41, nr_44, pt_lt, pt_ge, pt_eq, pt_ne, pt_gt, pt_le, pt_E, pt_N, pt_F, ite_10, ite_11, ne_eq, and_self, or_self, decide_true, decide_false, Bool.not_true, Bool.not_false, Bool.false_eq_true, Nat.reduceEqDiff, Nat.reduceAdd, Int.reduceEq, Int.reduceLT, Int.reduceLE, Int.reduceNeg, Int.reduceAdd, Int.reduceSub, Int.reduceMul, reduceCtorEq, iA, iS, iM, iD, iR, iN, lA, lS, lM, lD, lR, h.1.k, h.1.p0, h.1.a1, h.1.n1, h.1.p7, h.1.a8, h.1.n8, h.1.p8, h.1.a9, h.1.n9, h.1.p9, h.1.a10, h.1.n10, h.2.1, wM_of hown, o1, wM_of a0, wM_of a1, wM_of a2, wM_of a3, q0, q1, q2, q3, hsil, hlea, hmos, hlas, hsor, hone, htwo, hA1', wM_of hN, hA2, hl0', c1, c2, c3, hsp, s1, wM_of hwe, e1, e2, wM_of m_isIn]
      clear c1 c2 c3 e1 e2
      by_cases qq : 1000 * lea ≤ Z ∧ Z ≤ 1000 * mos <;> simp [qq]
    · by_cases h1 : sort = 1
      · subst h1
        have hI : rI_ 1 last one two span n = 1000 * n / span := by
          unfold rI_
          rw [if_neg (by decide), if_pos rfl]
        rw [hI]
        have d2 := Int.ediv_nonneg d0 (show 0 ≤ span by clear c1 c2 c3; omega)
        have d3 := Int.ediv_le_self span d0
        generalize hZ : 1000 * n / span = Z at *
        have e2 : w64 ((1000 * n).tdiv span) = Z := by clear c1 c2 c3; rw [tdiv_n d0, hZ]; exact w64_e (by omega)
        have s1 : ¬ (1 : Int) = 2 := by decide
        simp only [mX12_rateOf, sX12_rateOf, wE_I, wE_V, wE_F, wE_A, wE_N, wE_1, wE_2, wE_D, wE_B, wE_If, wE_C, wE_CV, wE_SL, wE_SA, wA_0, wA_1, wC_B, wC_E, wC_And, wC_Or, wC_Not, wS_Skip, wS_Brk, wS_Cnt, wS_RetV, wS_Ret, wS_Seq, wS_Set, wS_Inc, wS_Do, wS_Put, wS_PutC, wS_Arr, wS_ArrC, wS_If, wS_Sw, wS_F0, wS_F1, wM_q, lu_ap, aL_ap, ct_0, ct_1, ct_2, ct_3, ct_4, ct_5, headD_1, List.mem_cons, List.not_mem_nil, or_false, false_or, or_true, true_or, true_and, and_true, false_and, and_false, not_true_eq_false, not_false_eq_true, if_true, if_false, nr_20, nr_24, nr_40, nr_41, nr_44, pt_lt, pt_ge, pt_eq, pt_ne, pt_gt, pt_le, pt_E, pt_N, pt_F, ite_10, ite_11, ne_eq, and_self, or_self, decide_true, decide_false, Bool.not_true, Bool.not_false, Bool.false_eq_true, Nat.reduceEqDiff, Nat.reduceAdd, Int.reduceEq, Int.reduceLT, Int.reduceLE, Int.reduceNeg, Int.reduceAdd, Int.reduceSub, Int.reduceMul, reduceCtorEq, iA, iS, iM, iD, iR, iN, lA, lS, lM, lD, lR, h.1.k, h.1.p0, h.1.a1, h.1.n1, h.1.p7, h.1.a8, h.1.n8, h.2.1, wM_of hown, o1, wM_of a0, wM_of a1, wM_of a2, wM_of a3, q0, q1, q2, q3, hsil, hlea, hmos, hlas, hsor, hA1', wM_of hN, hA2, c1, c2, c3, hsp, s1, e2, wM_of m_isIn]
        clear c1 c2 c3 e2
        by_cases qq : 1000 * lea ≤ Z ∧ Z ≤ 1000 * mos <;> simp [qq]
      · have h0 : sort = 0 := by clear c1 c2 c3; omega
        subst h0
        have hI : rI_ 0 last one two span n = 1000 * n := by
          unfold rI_
          rw [if_pos rfl]
        rw [hI]
        have s1 : ¬ (0 : Int) = 2 := by decide
        have s2 : ¬ (0 : Int) = 1 := by decide
        simp only [mX12_rateOf, sX12_rateOf, wE_I, wE_V, wE_F, wE_A, wE_N, wE_1, wE_2, wE_D, wE_B, wE_If, wE_C, wE_CV, wE_SL, wE_SA, wA_0, wA_1, wC_B, wC_E, wC_And, wC_Or, wC_Not, wS_Skip, wS_Brk, wS_Cnt, wS_RetV, wS_Ret, wS_Seq, wS_Set, wS_Inc, wS_Do, wS_Put, wS_PutC, wS_Arr, wS_ArrC, wS_If, wS_Sw, wS_F0, wS_F1, wM_q, lu_ap, aL_ap, ct_0, ct_1, ct_2, ct_3, ct_4, ct_5, headD_1, List.mem_cons, List.not_mem_nil, or_false, false_or, or_true, true_or, true_and, and_true, false_and, and_false, not_true_eq_false, not_false_eq_true, if_true, if_false, nr_20, nr_24, nr_40, nr_41, nr_44, pt_lt, pt_ge, pt_eq, pt_ne, pt_gt, pt_le, pt_E, pt_N, pt_F, ite_10, ite_11, ne_eq, and_self, or_self, decide_true, decide_false, Bool.not_true, Bool.not_false, Bool.false_eq_true, Nat.reduceEqDiff, Nat.reduceAdd, Int.reduceEq, Int.reduceLT, Int.reduceLE, Int.reduceNeg, Int.reduceAdd, Int.reduceSub, Int.reduceMul, reduceCtorEq, iA, iS, iM, iD, iR, iN, lA, lS, lM, lD, lR, h.1.k, h.1.p0, h.1.a1, h.1.n1, h.1.p7, h.1.a8, h.1.n8, h.2.1, wM_of hown, o1, wM_of a0, wM_of a1, wM_of a2, wM_of a3, q0, q1, q2, q3, hsil, hlea, hmos, hlas, hsor, hA1', wM_of hN, hA2, c1, c2, c3, hsp, s1, s2, wM_of m_isIn]
        clear c1 c2 c3
        by_cases qq : 1000 * lea ≤ 1000 * n ∧ 1000 * n ≤ 1000 * mos <;> simp only [qq, wE_I, wE_V, wE_F, wE_A, wE_N, wE_1, wE_2, wE_D, wE_B, wE_If, wE_C, wE_CV, wE_SL, wE_SA, wA_0, wA_1, wC_B, wC_E, wC_And, wC_Or, wC_Not, wS_Skip, wS_Brk, wS_Cnt, wS_RetV, wS_Ret, wS_Seq, wS_Set, wS_Inc, wS_Do, wS_Put, wS_PutC, wS_Arr, wS_ArrC, wS_If, wS_Sw, wS_F0, wS_F1, wM_q, lu_ap, aL_ap, ct_0, ct_1, ct_2, ct_3, ct_4, ct_5, headD_1, List.mem_cons, List.not_mem_nil, or_false, false_or, or_true, true_or, true_and, and_true, false_and, and_false, not_true_eq_false, not_false_eq_true, if_true, if_false, nr_20, nr_24, nr_40, nr_41, nr_44, pt_lt, pt_ge, pt_eq, pt_ne, pt_gt, pt_le, pt_E, pt_N, pt_F, ite_10, ite_11, ne_eq, and_self, or_self, decide_true, decide_false, Bool.not_true, Bool.not_false, Bool.false_eq_true, Nat.reduceEqDiff, Nat.reduceAdd, Int.reduceEq, Int.reduceLT, Int.reduceLE, Int.reduceNeg, Int.reduceAdd, Int.reduceSub, Int.reduceMul, reduceCtorEq]
  · have hK : ¬ rK sil lea mos sort last one two span n := fun q => hA ⟨⟨q.1.1, q.1.2.1⟩, q.1.2.2⟩
    simp only [mX12_rateOf, sX12_rateOf, wE_I, wE_V, wE_F, wE_A, wE_N, wE_1, wE_2, wE_D, wE_B, wE_If, wE_C, wE_CV, wE_SL, wE_SA, wA_0, wA_1, wC_B, wC_E, wC_And, wC_Or, wC_Not, wS_Skip, wS_Brk, wS_Cnt, wS_RetV, wS_Ret, wS_Seq, wS_Set, wS_Inc, wS_Do, wS_Put, wS_PutC, wS_Arr, wS_ArrC, wS_If, wS_Sw, wS_F0, wS_F1, wM_q, lu_ap, aL_ap, ct_0, ct_1, ct_2, ct_3, ct_4, ct_5, headD_1, List.mem_cons, List.not_mem_nil, or_false, false_or, or_true, true_or, true_and, and_true, false_and, and_false, not_true_eq_false, not_false_eq_true, if_true, if_false, nr_20, nr_24, nr_40, nr_41, nr_44, pt_lt, pt_ge, pt_eq, pt_ne, pt_gt, pt_le, pt_E, pt_N, pt_F, ite_10, ite_11, ne_eq, and_self, or_self, decide_true, decide_false, Bool.not_true, Bool.not_false, Bool.false_eq_true, Nat.reduceEqDiff, Nat.reduceAdd, Int.reduceEq, Int.reduceLT, Int.reduceLE, Int.reduceNeg, Int.reduceAdd, Int.reduceSub, Int.reduceMul, reduceCtorEq, iA, iS, iM, iD, iR, iN, lA, lS, lM, lD, lR, h.1.k, h.1.p0, h.1.a1, h.1.n1, h.1.p7, h.1.a8, h.1.n8, h.2.1, wM_of hown, o1, wM_of a0, wM_of a3, q0, q3, hsil, hlas, hsor, wM_of hN, hK]
    by_cases b1 : sil < span
    · simp only [b1, wE_I, wE_V, wE_F, wE_A, wE_N, wE_1, wE_2, wE_D, wE_B, wE_If, wE_C, wE_CV, wE_SL, wE_SA, wA_0, wA_1, wC_B, wC_E, wC_And, wC_Or, wC_Not, wS_Skip, wS_Brk, wS_Cnt, wS_RetV, wS_Ret, wS_Seq, wS_Set, wS_Inc, wS_Do, wS_Put, wS_PutC, wS_Arr, wS_ArrC, wS_If, wS_Sw, wS_F0, wS_F1, wM_q, lu_ap, aL_ap, ct_0, ct_1, ct_2, ct_3, ct_4, ct_5, headD_1, List.mem_cons, List.not_mem_nil, or_false, false_or, or_true, true_or, true_and, and_true, false_and, and_false, not_true_eq_false, not_false_eq_true, if_true, if_false, nr_20, nr_24, nr_40, nr_41, nr_44, pt_lt, pt_ge, pt_eq, pt_ne, pt_gt, pt_le, pt_E, pt_N, pt_F, ite_10, ite_11, ne_eq, and_self, or_self, decide_true, decide_false, Bool.not_true, Bool.not_false, Bool.false_eq_true, Nat.reduceEqDiff, Nat.reduceAdd, Int.reduceEq, Int.reduceLT, Int.reduceLE, Int.reduceNeg, Int.reduceAdd, Int.reduceSub, Int.reduceMul, reduceCtorEq]
    · by_cases b2 : isN sort two n
      · have b3 : sort = 2 ∧ last < 0 := by
          by_cases q : sort = 2
          · refine ⟨q, ?_⟩
            by_cases q' : last < 0
            · exact q'
            · exact absurd ⟨⟨by omega, b2⟩, fun _ => by omega⟩ hA
          · exact absurd ⟨⟨by omega, b2⟩, fun z => absurd z q⟩ hA
        simp only [b1, b2, b3.1, b3.2, wE_I, wE_V, wE_F, wE_A, wE_N, wE_1, wE_2, wE_D, wE_B, wE_If, wE_C, wE_CV, wE_SL, wE_SA, wA_0, wA_1, wC_B, wC_E, wC_And, wC_Or, wC_Not, wS_Skip, wS_Brk, wS_Cnt, wS_RetV, wS_Ret, wS_Seq, wS_Set, wS_Inc, wS_Do, wS_Put, wS_PutC, wS_Arr, wS_ArrC, wS_If, wS_Sw, wS_F0, wS_F1, wM_q, lu_ap, aL_ap, ct_0, ct_1, ct_2, ct_3, ct_4, ct_5, headD_1, List.mem_cons, List.not_mem_nil, or_false, false_or, or_true, true_or, true_and, and_true, false_and, and_false, not_true_eq_false, not_false_eq_true, if_true, if_false, nr_20, nr_24, nr_40, nr_41, nr_44, pt_lt, pt_ge, pt_eq, pt_ne, pt_gt, pt_le, pt_E, pt_N, pt_F, ite_10, ite_11, ne_eq, and_self, or_self, decide_true, decide_false, Bool.not_true, Bool.not_false, Bool.false_eq_true, Nat.reduceEqDiff, Nat.reduceAdd, Int.reduceEq, Int.reduceLT, Int.reduceLE, Int.reduceNeg, Int.reduceAdd, Int.reduceSub, Int.reduceMul, reduceCtorEq]
        split <;> trivial
      · simp only [b1, b2, wE_I, wE_V, wE_F, wE_A, wE_N, wE_1, wE_2, wE_D, wE_B, wE_If, wE_C, wE_CV, wE_SL, wE_SA, wA_0, wA_1, wC_B, wC_E, wC_And, wC_Or, wC_Not, wS_Skip, wS_Brk, wS_Cnt, wS_RetV, wS_Ret, wS_Seq, wS_Set, wS_Inc, wS_Do, wS_Put, wS_PutC, wS_Arr, wS_ArrC, wS_If, wS_Sw, wS_F0, wS_F1, wM_q, lu_ap, aL_ap, ct_0, ct_1, ct_2, ct_3, ct_4, ct_5, headD_1, List.mem_cons, List.not_mem_nil, or_false, false_or, or_true, true_or, true_and, and_true, false_and, and_false, not_true_eq_false, not_false_eq_true, if_true, if_false, nr_20, nr_24, nr_40, nr_41, nr_44, pt_lt, pt_ge, pt_eq, pt_ne, pt_gt, pt_le, pt_E, pt_N, pt_F, ite_10, ite_11, ne_eq, and_self, or_self, decide_true, decide_false, Bool.not_true, Bool.not_false, Bool.false_eq_true, Nat.reduceEqDiff, Nat.reduceAdd, Int.reduceEq, Int.reduceLT, Int.reduceLE, Int.reduceNeg, Int.reduceAdd, Int.reduceSub, Int.reduceMul, reduceCtorEq]
/-- a measure's numbers on both sides -/
theorem RR.rok (h : RR S v b M P B s) {m span : Int} (hm : 0 ≤ m ∧ m < v P 1) (hs : 1 ≤ span ∧ span ≤ 1000) : rOk (v (s + (4 + 6 * m)) 1) (v (s + (4 + 6 * m)) 2) (v (P + (9 + m)) 0) (v (s + (4 + 6 * m)) 3) (v (P + (9 + m)) 1) (v (P + (9 + m)) 2) span := by
  obtain ⟨r1, r2, r3, r4, r5⟩ := h.2.2.2.2.1.2.2.2.2.1 m hm.1 hm.2
  obtain ⟨t1, t2, t3, -⟩ := h.2.2.2.2.2.1.2.2.2.1 m hm.1 hm.2
  refine ⟨r1.2, by omega, by omega, fun q => ?_, hs⟩
  have := r2 q
  exact ⟨this.2.2.1, this.2.2.2.1, this.2.2.2.2, t3.2.2.2 q⟩
end RN
