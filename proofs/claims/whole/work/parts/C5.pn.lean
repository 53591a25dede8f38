/-! STORE: what is needed next: both sides -/
theorem stp_0 {φ : Int → Int} {o : Int × Int} (h : o.1 = 0) (h2 : φ o.2 = 0) : stp φ o = (0, o.2 + 1) := by
  unfold stp; rw [if_pos h, if_pos h2]
theorem stp_f {φ : Int → Int} {o : Int × Int} (h : o.1 = 0) (h2 : ¬ φ o.2 = 0) : stp φ o = (φ o.2, o.2) := by
  unfold stp; rw [if_pos h, if_neg h2]
theorem stp_d {φ : Int → Int} {o : Int × Int} (h : ¬ o.1 = 0) : stp φ o = o := by
  unfold stp; rw [if_neg h]
section PN
variable {S : QS} {v w : QV} {M T n x : Int} {o : Int × Int}
theorem m_needO (hc : CX v M T n) (hw : Pw S v w M n) (ho : OP v w T M o) {s : Int} (hsg : isSg s) : wM mX12_need [M, s] S w (fun _ w' => OP v w' T M (stp (fKd v T s) o) ∧ Pw S v w' M n ∧ Fp M w w') := by
  have hia := m_isAtO hc hw ho hsg
  have hfa := m_failO hw ho (f := 1) (by decide)
  by_cases c : o.1 = 0
  · by_cases k : kdT v T o.2 = s
    · rw [if_pos ⟨c, k⟩] at hia
      have hk1 : kdT v T o.2 ≠ 1 := by unfold isSg at hsg; omega
      obtain ⟨h1, h2, h3, h4⟩ := OP.nx hc (show OP v w T M (0, o.2) by rw [← c]; exact ho) hk1
      rw [stp_0 c (by unfold fKd; rw [if_pos k])]
      simp only [mX12_need, sX12_need, wE_I, wE_V, wE_F, wE_A, wE_N, wE_1, wE_2, wE_D, wE_B, wE_If, wE_C, wE_CV, wE_SL, wE_SA, wA_0, wA_1, wC_B, wC_E, wC_And, wC_Or, wC_Not, wS_Skip, wS_Brk, wS_Cnt, wS_RetV, wS_Ret, wS_Seq, wS_Set, wS_Inc, wS_Do, wS_Put, wS_PutC, wS_Arr, wS_ArrC, wS_If, wS_Sw, wS_F0, wS_F1, wM_q, lu_ap, aL_ap, ct_0, ct_1, ct_2, ct_3, ct_4, ct_5, headD_1, List.mem_cons, List.not_mem_nil, or_false, false_or, or_true, true_or, true_and, and_true, false_and, and_false, not_true_eq_false, not_false_eq_true, if_true, if_false, nr_20, nr_24, nr_40, nr_41, nr_44, pt_lt, pt_ge, pt_eq, pt_ne, pt_gt, pt_le, pt_E, pt_N, pt_F, ite_10, ite_11, ne_eq, and_self, or_self, decide_true, decide_false, Bool.not_true, Bool.not_false, Bool.false_eq_true, Nat.reduceEqDiff, Nat.reduceAdd, Int.reduceEq, Int.reduceLT, Int.reduceLE, Int.reduceNeg, Int.reduceAdd, Int.reduceSub, Int.reduceMul, reduceCtorEq, iA, iS, iM, iD, iR, iN, lA, lS, lM, lD, lR, hw.1.k, wM_of hia]
      exact m_scanO hc hw h1 h2 h3 h4
    · rw [if_neg (fun z => k z.2)] at hia
      rw [stp_f c (by unfold fKd; rw [if_neg k]; decide), show fKd v T s o.2 = 1 by unfold fKd; rw [if_neg k]]
      rw [if_pos c] at hfa
      simp only [mX12_need, sX12_need, wE_I, wE_V, wE_F, wE_A, wE_N, wE_1, wE_2, wE_D, wE_B, wE_If, wE_C, wE_CV, wE_SL, wE_SA, wA_0, wA_1, wC_B, wC_E, wC_And, wC_Or, wC_Not, wS_Skip, wS_Brk, wS_Cnt, wS_RetV, wS_Ret, wS_Seq, wS_Set, wS_Inc, wS_Do, wS_Put, wS_PutC, wS_Arr, wS_ArrC, wS_If, wS_Sw, wS_F0, wS_F1, wM_q, lu_ap, aL_ap, ct_0, ct_1, ct_2, ct_3, ct_4, ct_5, headD_1, List.mem_cons, List.not_mem_nil, or_false, false_or, or_true, true_or, true_and, and_true, false_and, and_false, not_true_eq_false, not_false_eq_true, if_true, if_false, nr_20, nr_24, nr_40, nr_41, nr_44, pt_lt, pt_ge, pt_eq, pt_ne, pt_gt, pt_le, pt_E, pt_N, pt_F, ite_10, ite_11, ne_eq, and_self, or_self, decide_true, decide_false, Bool.not_true, Bool.not_false, Bool.false_eq_true, Nat.reduceEqDiff, Nat.reduceAdd, Int.reduceEq, Int.reduceLT, Int.reduceLE, Int.reduceNeg, Int.reduceAdd, Int.reduceSub, Int.reduceMul, reduceCtorEq, iA, iS, iM, iD, iR, iN, lA, lS, lM, lD, lR, hw.1.k, wM_of hia]
      exact hfa
  · rw [if_neg (fun z => c z.1)] at hia
    rw [stp_d c]
    rw [if_neg c] at hfa
    simp only [mX12_need, sX12_need, wE_I, wE_V, wE_F, wE_A, wE_N, wE_1, wE_2, wE_D, wE_B, wE_If, wE_C, wE_CV, wE_SL, wE_SA, wA_0, wA_1, wC_B, wC_E, wC_And, wC_Or, wC_Not, wS_Skip, wS_Brk, wS_Cnt, wS_RetV, wS_Ret, wS_Seq, wS_Set, wS_Inc, wS_Do, wS_Put, wS_PutC, wS_Arr, wS_ArrC, wS_If, wS_Sw, wS_F0, wS_F1, wM_q, lu_ap, aL_ap, ct_0, ct_1, ct_2, ct_3, ct_4, ct_5, headD_1, List.mem_cons, List.not_mem_nil, or_false, false_or, or_true, true_or, true_and, and_true, false_and, and_false, not_true_eq_false, not_false_eq_true, if_true, if_false, nr_20, nr_24, nr_40, nr_41, nr_44, pt_lt, pt_ge, pt_eq, pt_ne, pt_gt, pt_le, pt_E, pt_N, pt_F, ite_10, ite_11, ne_eq, and_self, or_self, decide_true, decide_false, Bool.not_true, Bool.not_false, Bool.false_eq_true, Nat.reduceEqDiff, Nat.reduceAdd, Int.reduceEq, Int.reduceLT, Int.reduceLE, Int.reduceNeg, Int.reduceAdd, Int.reduceSub, Int.reduceMul, reduceCtorEq, iA, iS, iM, iD, iR, iN, lA, lS, lM, lD, lR, hw.1.k, wM_of hia]
    exact hfa
theorem m_needWordO (hc : CX v M T n) (hw : Pw S v w M n) (ho : OP v w T M o) {j : Nat} (hj : j < 18) : wM mX12_needWord [M, (j : Int)] S w (fun _ w' => OP v w' T M (stp (fKd v T (256 + pmN j)) o) ∧ Pw S v w' M n ∧ Fp M w w') := by
  have hia := m_isWordO hw ho hj
  have hfa := m_failO hw ho (f := 1) (by decide)
  by_cases c : o.1 = 0
  · by_cases k : kdT v T o.2 = 256 + pmN j
    · rw [if_pos ⟨c, k⟩] at hia
      have hk1 : kdT v T o.2 ≠ 1 := by omega
      obtain ⟨h1, h2, h3, h4⟩ := OP.nx hc (show OP v w T M (0, o.2) by rw [← c]; exact ho) hk1
      rw [stp_0 c (by unfold fKd; rw [if_pos k])]
      simp only [mX12_needWord, sX12_needWord, wE_I, wE_V, wE_F, wE_A, wE_N, wE_1, wE_2, wE_D, wE_B, wE_If, wE_C, wE_CV, wE_SL, wE_SA, wA_0, wA_1, wC_B, wC_E, wC_And, wC_Or, wC_Not, wS_Skip, wS_Brk, wS_Cnt, wS_RetV, wS_Ret, wS_Seq, wS_Set, wS_Inc, wS_Do, wS_Put, wS_PutC, wS_Arr, wS_ArrC, wS_If, wS_Sw, wS_F0, wS_F1, wM_q, lu_ap, aL_ap, ct_0, ct_1, ct_2, ct_3, ct_4, ct_5, headD_1, List.mem_cons, List.not_mem_nil, or_false, false_or, or_true, true_or, true_and, and_true, false_and, and_false, not_true_eq_false, not_false_eq_true, if_true, if_false, nr_20, nr_24, nr_40, nr_41, nr_44, pt_lt, pt_ge, pt_eq, pt_ne, pt_gt, pt_le, pt_E, pt_N, pt_F, ite_10, ite_11, ne_eq, and_self, or_self, decide_true, decide_false, Bool.not_true, Bool.not_false, Bool.false_eq_true, Nat.reduceEqDiff, Nat.reduceAdd, Int.reduceEq, Int.reduceLT, Int.reduceLE, Int.reduceNeg, Int.reduceAdd, Int.reduceSub, Int.reduceMul, reduceCtorEq, iA, iS, iM, iD, iR, iN, lA, lS, lM, lD, lR, hw.1.k, wM_of hia]
      exact m_scanO hc hw h1 h2 h3 h4
    · rw [if_neg (fun z => k z.2)] at hia
      rw [stp_f c (by unfold fKd; rw [if_neg k]; decide), show fKd v T (256 + pmN j) o.2 = 1 by unfold fKd; rw [if_neg k]]
      rw [if_pos c] at hfa
      simp only [mX12_needWord, sX12_needWord, wE_I, wE_V, wE_F, wE_A, wE_N, wE_1, wE_2, wE_D, wE_B, wE_If, wE_C, wE_CV, wE_SL, wE_SA, wA_0, wA_1, wC_B, wC_E, wC_And, wC_Or, wC_Not, wS_Skip, wS_Brk, wS_Cnt, wS_RetV, wS_Ret, wS_Seq, wS_Set, wS_Inc, wS_Do, wS_Put, wS_PutC, wS_Arr, wS_ArrC, wS_If, wS_Sw, wS_F0, wS_F1, wM_q, lu_ap, aL_ap, ct_0, ct_1, ct_2, ct_3, ct_4, ct_5, headD_1, List.mem_cons, List.not_mem_nil, or_false, false_or, or_true, true_or, true_and, and_true, false_and, and_false, not_true_eq_false, not_false_eq_true, if_true, if_false, nr_20, nr_24, nr_40, nr_41, nr_44, pt_lt, pt_ge, pt_eq, pt_ne, pt_gt, pt_le, pt_E, pt_N, pt_F, ite_10, ite_11, ne_eq, and_self, or_self, decide_true, decide_false, Bool.not_true, Bool.not_false, Bool.false_eq_true, Nat.reduceEqDiff, Nat.reduceAdd, Int.reduceEq, Int.reduceLT, Int.reduceLE, Int.reduceNeg, Int.reduceAdd, Int.reduceSub, Int.reduceMul, reduceCtorEq, iA, iS, iM, iD, iR, iN, lA, lS, lM, lD, lR, hw.1.k, wM_of hia]
      exact hfa
  · rw [if_neg (fun z => c z.1)] at hia
    rw [stp_d c]
    rw [if_neg c] at hfa
    simp only [mX12_needWord, sX12_needWord, wE_I, wE_V, wE_F, wE_A, wE_N, wE_1, wE_2, wE_D, wE_B, wE_If, wE_C, wE_CV, wE_SL, wE_SA, wA_0, wA_1, wC_B, wC_E, wC_And, wC_Or, wC_Not, wS_Skip, wS_Brk, wS_Cnt, wS_RetV, wS_Ret, wS_Seq, wS_Set, wS_Inc, wS_Do, wS_Put, wS_PutC, wS_Arr, wS_ArrC, wS_If, wS_Sw, wS_F0, wS_F1, wM_q, lu_ap, aL_ap, ct_0, ct_1, ct_2, ct_3, ct_4, ct_5, headD_1, List.mem_cons, List.not_mem_nil, or_false, false_or, or_true, true_or, true_and, and_true, false_and, and_false, not_true_eq_false, not_false_eq_true, if_true, if_false, nr_20, nr_24, nr_40, nr_41, nr_44, pt_lt, pt_ge, pt_eq, pt_ne, pt_gt, pt_le, pt_E, pt_N, pt_F, ite_10, ite_11, ne_eq, and_self, or_self, decide_true, decide_false, Bool.not_true, Bool.not_false, Bool.false_eq_true, Nat.reduceEqDiff, Nat.reduceAdd, Int.reduceEq, Int.reduceLT, Int.reduceLE, Int.reduceNeg, Int.reduceAdd, Int.reduceSub, Int.reduceMul, reduceCtorEq, iA, iS, iM, iD, iR, iN, lA, lS, lM, lD, lR, hw.1.k, wM_of hia]
    exact hfa
theorem nu_in {y d lo hi : Int} (h : nuR y d) (hd : 0 ≤ d) (hh : hi ≤ 999999) : (lo ≤ y ∧ y ≤ hi) ↔ (lo ≤ (if d ≤ 999999 then d else 1000000) ∧ (if d ≤ 999999 then d else 1000000) ≤ hi) := by
  obtain ⟨h1, h2⟩ := h
  by_cases c : d ≤ 999999
  · rw [if_pos c, h1 c]
  · rw [if_neg c]
    have := h2 (by omega)
    omega
theorem m_numeralO (hc : CX v M T n) (hw : Pw S v w M n) (ho : OP v w T M o) {lo hi : Int} (hh : hi ≤ 999999) : wM mX12_numeral [M, lo, hi] S w (fun r w' => (OP v w' T M (stp (fNu v T lo hi) o) ∧ Pw S v w' M n ∧ Fp M w w') ∧ ((stp (fNu v T lo hi) o).1 = 0 → r = nmT v T o.2)) := by
  have hfa1 := m_failO hw ho (f := 1) (by decide)
  have hfa2 := m_failO hw ho (f := 2) (by decide)
  by_cases c : o.1 = 0
  · rw [if_pos c] at hfa1 hfa2
    obtain ⟨ho1, ho2⟩ := id ho
    rw [if_pos c] at ho2
    obtain ⟨hs, h37, h38⟩ := ho2
    obtain ⟨n1, n2, n3⟩ := hs.nu
    by_cases k : kdT v T o.2 = 3
    · have h34 := n1.mpr k
      obtain ⟨hnu, hd0⟩ := n2 h34
      have hin := nu_in (lo := lo) (hi := hi) hnu hd0 hh
      have hiv := fun u : QV => m_isIn (S := S) (v := u) (x := w M 35) (l := lo) (h := hi)
      by_cases g : lo ≤ w M 35 ∧ w M 35 ≤ hi
      · have hfn : fNu v T lo hi o.2 = 0 := by unfold fNu; rw [if_pos k, if_pos (show lo ≤ nmT v T o.2 ∧ nmT v T o.2 ≤ hi from hin.mp g)]
        have hval : w M 35 = nmT v T o.2 := by
          unfold nmT
          by_cases z : dvT v T o.2 ≤ 999999
          · rw [if_pos z]; exact hnu.1 z
          · have := hnu.2 (by omega); omega
        obtain ⟨h1, h2, h3, h4⟩ := OP.nx hc (show OP v w T M (0, o.2) by rw [← c]; exact ho) (by omega)
        rw [stp_0 c hfn]
        have hiv' := hiv w
        rw [if_pos g] at hiv'
        simp only [mX12_numeral, sX12_numeral, wE_I, wE_V, wE_F, wE_A, wE_N, wE_1, wE_2, wE_D, wE_B, wE_If, wE_C, wE_CV, wE_SL, wE_SA, wA_0, wA_1, wC_B, wC_E, wC_And, wC_Or, wC_Not, wS_Skip, wS_Brk, wS_Cnt, wS_RetV, wS_Ret, wS_Seq, wS_Set, wS_Inc, wS_Do, wS_Put, wS_PutC, wS_Arr, wS_ArrC, wS_If, wS_Sw, wS_F0, wS_F1, wM_q, lu_ap, aL_ap, ct_0, ct_1, ct_2, ct_3, ct_4, ct_5, headD_1, List.mem_cons, List.not_mem_nil, or_false, false_or, or_true, true_or, true_and, and_true, false_and, and_false, not_true_eq_false, not_false_eq_true, if_true, if_false, nr_20, nr_24, nr_40, nr_41, nr_44, pt_lt, pt_ge, pt_eq, pt_ne, pt_gt, pt_le, pt_E, pt_N, pt_F, ite_10, ite_11, ne_eq, and_self, or_self, decide_true, decide_false, Bool.not_true, Bool.not_false, Bool.false_eq_true, Nat.reduceEqDiff, Nat.reduceAdd, Int.reduceEq, Int.reduceLT, Int.reduceLE, Int.reduceNeg, Int.reduceAdd, Int.reduceSub, Int.reduceMul, reduceCtorEq, iA, iS, iM, iD, iR, iN, lA, lS, lM, lD, lR, hw.1.k, h34, h37, wM_of hiv']
        refine wM_mono (m_scanO hc hw h1 h2 h3 h4) ?_
        rintro r w' e hr
        exact ⟨hr, fun _ => hval⟩
      · have hfn : fNu v T lo hi o.2 = 2 := by unfold fNu; rw [if_pos k, if_neg (show ¬ (lo ≤ nmT v T o.2 ∧ nmT v T o.2 ≤ hi) from fun z => g (hin.mpr z))]
        rw [stp_f c (by rw [hfn]; decide), hfn]
        have hiv' := hiv w
        rw [if_neg g] at hiv'
        simp only [mX12_numeral, sX12_numeral, wE_I, wE_V, wE_F, wE_A, wE_N, wE_1, wE_2, wE_D, wE_B, wE_If, wE_C, wE_CV, wE_SL, wE_SA, wA_0, wA_1, wC_B, wC_E, wC_And, wC_Or, wC_Not, wS_Skip, wS_Brk, wS_Cnt, wS_RetV, wS_Ret, wS_Seq, wS_Set, wS_Inc, wS_Do, wS_Put, wS_PutC, wS_Arr, wS_ArrC, wS_If, wS_Sw, wS_F0, wS_F1, wM_q, lu_ap, aL_ap, ct_0, ct_1, ct_2, ct_3, ct_4, ct_5, headD_1, List.mem_cons, List.not_mem_nil, or_false, false_or, or_true, true_or, true_and, and_true, false_and, and_false, not_true_eq_false, not_false_eq_true, if_true, if_false, nr_20, nr_24, nr_40, nr_41, nr_44, pt_lt, pt_ge, pt_eq, pt_ne, pt_gt, pt_le, pt_E, pt_N, pt_F, ite_10, ite_11, ne_eq, and_self, or_self, decide_true, decide_false, Bool.not_true, Bool.not_false, Bool.false_eq_true, Nat.reduceEqDiff, Nat.reduceAdd, Int.reduceEq, Int.reduceLT, Int.reduceLE, Int.reduceNeg, Int.reduceAdd, Int.reduceSub, Int.reduceMul, reduceCtorEq, iA, iS, iM, iD, iR, iN, lA, lS, lM, lD, lR, hw.1.k, h34, wM_of hiv']
        refine wM_mono hfa2 ?_
        rintro r w' e hr
        have h37' : ¬ w' M 37 = 0 := by
          have := hr.1.2
          rw [if_neg (by simp)] at this
          dsimp only at this
          omega
        simp only [wE_I, wE_V, wE_F, wE_A, wE_N, wE_1, wE_2, wE_D, wE_B, wE_If, wE_C, wE_CV, wE_SL, wE_SA, wA_0, wA_1, wC_B, wC_E, wC_And, wC_Or, wC_Not, wS_Skip, wS_Brk, wS_Cnt, wS_RetV, wS_Ret, wS_Seq, wS_Set, wS_Inc, wS_Do, wS_Put, wS_PutC, wS_Arr, wS_ArrC, wS_If, wS_Sw, wS_F0, wS_F1, wM_q, lu_ap, aL_ap, ct_0, ct_1, ct_2, ct_3, ct_4, ct_5, headD_1, List.mem_cons, List.not_mem_nil, or_false, false_or, or_true, true_or, true_and, and_true, false_and, and_false, not_true_eq_false, not_false_eq_true, if_true, if_false, nr_20, nr_24, nr_40, nr_41, nr_44, pt_lt, pt_ge, pt_eq, pt_ne, pt_gt, pt_le, pt_E, pt_N, pt_F, ite_10, ite_11, ne_eq, and_self, or_self, decide_true, decide_false, Bool.not_true, Bool.not_false, Bool.false_eq_true, Nat.reduceEqDiff, Nat.reduceAdd, Int.reduceEq, Int.reduceLT, Int.reduceLE, Int.reduceNeg, Int.reduceAdd, Int.reduceSub, Int.reduceMul, reduceCtorEq, hr.2.1.1.k, h37']
        exact ⟨hr, fun z => absurd z id⟩
    · have h34 : ¬ w M 34 = 3 := fun z => k (n1.mp z)
      have hfn : fNu v T lo hi o.2 = 1 := by unfold fNu; rw [if_neg k]
      rw [stp_f c (by rw [hfn]; decide), hfn]
      simp only [mX12_numeral, sX12_numeral, wE_I, wE_V, wE_F, wE_A, wE_N, wE_1, wE_2, wE_D, wE_B, wE_If, wE_C, wE_CV, wE_SL, wE_SA, wA_0, wA_1, wC_B, wC_E, wC_And, wC_Or, wC_Not, wS_Skip, wS_Brk, wS_Cnt, wS_RetV, wS_Ret, wS_Seq, wS_Set, wS_Inc, wS_Do, wS_Put, wS_PutC, wS_Arr, wS_ArrC, wS_If, wS_Sw, wS_F0, wS_F1, wM_q, lu_ap, aL_ap, ct_0, ct_1, ct_2, ct_3, ct_4, ct_5, headD_1, List.mem_cons, List.not_mem_nil, or_false, false_or, or_true, true_or, true_and, and_true, false_and, and_false, not_true_eq_false, not_false_eq_true, if_true, if_false, nr_20, nr_24, nr_40, nr_41, nr_44, pt_lt, pt_ge, pt_eq, pt_ne, pt_gt, pt_le, pt_E, pt_N, pt_F, ite_10, ite_11, ne_eq, and_self, or_self, decide_true, decide_false, Bool.not_true, Bool.not_false, Bool.false_eq_true, Nat.reduceEqDiff, Nat.reduceAdd, Int.reduceEq, Int.reduceLT, Int.reduceLE, Int.reduceNeg, Int.reduceAdd, Int.reduceSub, Int.reduceMul, reduceCtorEq, iA, iS, iM, iD, iR, iN, lA, lS, lM, lD, lR, hw.1.k, h34]
      refine wM_mono hfa1 ?_
      rintro r w' e hr
      have h37' : ¬ w' M 37 = 0 := by
        have := hr.1.2
        rw [if_neg (by simp)] at this
        dsimp only at this
        omega
      simp only [wE_I, wE_V, wE_F, wE_A, wE_N, wE_1, wE_2, wE_D, wE_B, wE_If, wE_C, wE_CV, wE_SL, wE_SA, wA_0, wA_1, wC_B, wC_E, wC_And, wC_Or, wC_Not, wS_Skip, wS_Brk, wS_Cnt, wS_RetV, wS_Ret, wS_Seq, wS_Set, wS_Inc, wS_Do, wS_Put, wS_PutC, wS_Arr, wS_ArrC, wS_If, wS_Sw, wS_F0, wS_F1, wM_q, lu_ap, aL_ap, ct_0, ct_1, ct_2, ct_3, ct_4, ct_5, headD_1, List.mem_cons, List.not_mem_nil, or_false, false_or, or_true, true_or, true_and, and_true, false_and, and_false, not_true_eq_false, not_false_eq_true, if_true, if_false, nr_20, nr_24, nr_40, nr_41, nr_44, pt_lt, pt_ge, pt_eq, pt_ne, pt_gt, pt_le, pt_E, pt_N, pt_F, ite_10, ite_11, ne_eq, and_self, or_self, decide_true, decide_false, Bool.not_true, Bool.not_false, Bool.false_eq_true, Nat.reduceEqDiff, Nat.reduceAdd, Int.reduceEq, Int.reduceLT, Int.reduceLE, Int.reduceNeg, Int.reduceAdd, Int.reduceSub, Int.reduceMul, reduceCtorEq, hr.2.1.1.k, h37']
      exact ⟨hr, fun z => absurd z id⟩
  · rw [if_neg c] at hfa1 hfa2
    rw [stp_d c]
    have fin : ∀ w', (OP v w' T M o ∧ Pw S v w' M n ∧ Fp M w w') → ¬ w' M 37 = 0 := fun w' hr => by
      have := hr.1.2
      rw [if_neg c] at this
      omega
    have h37 : ¬ w M 37 = 0 := by
      have := ho.2
      rw [if_neg c] at this
      omega
    by_cases h34 : w M 34 = 3
    · have hiv := fun u : QV => m_isIn (S := S) (v := u) (x := w M 35) (l := lo) (h := hi)
      by_cases g : lo ≤ w M 35 ∧ w M 35 ≤ hi
      · have hiv' := hiv w
        rw [if_pos g] at hiv'
        simp only [mX12_numeral, sX12_numeral, wE_I, wE_V, wE_F, wE_A, wE_N, wE_1, wE_2, wE_D, wE_B, wE_If, wE_C, wE_CV, wE_SL, wE_SA, wA_0, wA_1, wC_B, wC_E, wC_And, wC_Or, wC_Not, wS_Skip, wS_Brk, wS_Cnt, wS_RetV, wS_Ret, wS_Seq, wS_Set, wS_Inc, wS_Do, wS_Put, wS_PutC, wS_Arr, wS_ArrC, wS_If, wS_Sw, wS_F0, wS_F1, wM_q, lu_ap, aL_ap, ct_0, ct_1, ct_2, ct_3, ct_4, ct_5, headD_1, List.mem_cons, List.not_mem_nil, or_false, false_or, or_true, true_or, true_and, and_true, false_and, and_false, not_true_eq_false, not_false_eq_true, if_true, if_false, nr_20, nr_24, nr_40, nr_41, nr_44, pt_lt, pt_ge, pt_eq, pt_ne, pt_gt, pt_le, pt_E, pt_N, pt_F, ite_10, ite_11, ne_eq, and_self, or_self, decide_true, decide_false, Bool.not_true, Bool.not_false, Bool.false_eq_true, Nat.reduceEqDiff, Nat.reduceAdd, Int.reduceEq, Int.reduceLT, Int.reduceLE, Int.reduceNeg, Int.reduceAdd, Int.reduceSub, Int.reduceMul, reduceCtorEq, iA, iS, iM, iD, iR, iN, lA, lS, lM, lD, lR, hw.1.k, h34, h37, wM_of hiv']
        exact ⟨⟨ho, hw, Fp.rf⟩, fun z => absurd z c⟩
      · have hiv' := hiv w
        rw [if_neg g] at hiv'
        simp only [mX12_numeral, sX12_numeral, wE_I, wE_V, wE_F, wE_A, wE_N, wE_1, wE_2, wE_D, wE_B, wE_If, wE_C, wE_CV, wE_SL, wE_SA, wA_0, wA_1, wC_B, wC_E, wC_And, wC_Or, wC_Not, wS_Skip, wS_Brk, wS_Cnt, wS_RetV, wS_Ret, wS_Seq, wS_Set, wS_Inc, wS_Do, wS_Put, wS_PutC, wS_Arr, wS_ArrC, wS_If, wS_Sw, wS_F0, wS_F1, wM_q, lu_ap, aL_ap, ct_0, ct_1, ct_2, ct_3, ct_4, ct_5, headD_1, List.mem_cons, List.not_mem_nil, or_false, false_or, or_true, true_or, true_and, and_true, false_and, and_false, not_true_eq_false, not_false_eq_true, if_true, if_false, nr_20, nr_24, nr_40, nr_41, nr_44, pt_lt, pt_ge, pt_eq, pt_ne, pt_gt, pt_le, pt_E, pt_N, pt_F, ite_10, ite_11, ne_eq, and_self, or_self, decide_true, decide_false, Bool.not_true, Bool.not_false, Bool.false_eq_true, Nat.reduceEqDiff, Nat.reduceAdd, Int.reduceEq, Int.reduceLT, Int.reduceLE, Int.reduceNeg, Int.reduceAdd, Int.reduceSub, Int.reduceMul, reduceCtorEq, iA, iS, iM, iD, iR, iN, lA, lS, lM, lD, lR, hw.1.k, h34, wM_of hiv']
        refine wM_mono hfa2 ?_
        rintro r w' e hr
        simp only [wE_I, wE_V, wE_F, wE_A, wE_N, wE_1, wE_2, wE_D, wE_B, wE_If, wE_C, wE_CV, wE_SL, wE_SA, wA_0, wA_1, wC_B, wC_E, wC_And, wC_Or, wC_Not, wS_Skip, wS_Brk, wS_Cnt, wS_RetV, wS_Ret, wS_Seq, wS_Set, wS_Inc, wS_Do, wS_Put, wS_PutC, wS_Arr, wS_ArrC, wS_If, wS_Sw, wS_F0, wS_F1, wM_q, lu_ap, aL_ap, ct_0, ct_1, ct_2, ct_3, ct_4, ct_5, headD_1, List.mem_cons, List.not_mem_nil, or_false, false_or, or_true, true_or, true_and, and_true, false_and, and_false, not_true_eq_false, not_false_eq_true, if_true, if_false, nr_20, nr_24, nr_40, nr_41, nr_44, pt_lt, pt_ge, pt_eq, pt_ne, pt_gt, pt_le, pt_E, pt_N, pt_F, ite_10, ite_11, ne_eq, and_self, or_self, decide_true, decide_false, Bool.not_true, Bool.not_false, Bool.false_eq_true, Nat.reduceEqDiff, Nat.reduceAdd, Int.reduceEq, Int.reduceLT, Int.reduceLE, Int.reduceNeg, Int.reduceAdd, Int.reduceSub, Int.reduceMul, reduceCtorEq, hr.2.1.1.k, fin w' hr]
        exact ⟨hr, fun z => absurd z c⟩
    · simp only [mX12_numeral, sX12_numeral, wE_I, wE_V, wE_F, wE_A, wE_N, wE_1, wE_2, wE_D, wE_B, wE_If, wE_C, wE_CV, wE_SL, wE_SA, wA_0, wA_1, wC_B, wC_E, wC_And, wC_Or, wC_Not, wS_Skip, wS_Brk, wS_Cnt, wS_RetV, wS_Ret, wS_Seq, wS_Set, wS_Inc, wS_Do, wS_Put, wS_PutC, wS_Arr, wS_ArrC, wS_If, wS_Sw, wS_F0, wS_F1, wM_q, lu_ap, aL_ap, ct_0, ct_1, ct_2, ct_3, ct_4, ct_5, headD_1, List.mem_cons, List.not_mem_nil, or_false, false_or, or_true, true_or, true_and, and_true, false_and, and_false, not_true_eq_false, not_false_eq_true, if_true, if_false, nr_20, nr_24, nr_40, nr_41, nr_44, pt_lt, pt_ge, pt_eq, pt_ne, pt_gt, pt_le, pt_E, pt_N, pt_F, ite_10, ite_11, ne_eq, and_self, or_self, decide_true, decide_false, Bool.not_true, Bool.not_false, Bool.false_eq_true, Nat.reduceEqDiff, Nat.reduceAdd, Int.reduceEq, Int.reduceLT, Int.reduceLE, Int.reduceNeg, Int.reduceAdd, Int.reduceSub, Int.reduceMul, reduceCtorEq, iA, iS, iM, iD, iR, iN, lA, lS, lM, lD, lR, hw.1.k, h34]
      refine wM_mono hfa1 ?_
      rintro r w' e hr
      simp only [wE_I, wE_V, wE_F, wE_A, wE_N, wE_1, wE_2, wE_D, wE_B, wE_If, wE_C, wE_CV, wE_SL, wE_SA, wA_0, wA_1, wC_B, wC_E, wC_And, wC_Or, wC_Not, wS_Skip, wS_Brk, wS_Cnt, wS_RetV, wS_Ret, wS_Seq, wS_Set, wS_Inc, wS_Do, wS_Put, wS_PutC, wS_Arr, wS_ArrC, wS_If, wS_Sw, wS_F0, wS_F1, wM_q, lu_ap, aL_ap, ct_0, ct_1, ct_2, ct_3, ct_4, ct_5, headD_1, List.mem_cons, List.not_mem_nil, or_false, false_or, or_true, true_or, true_and, and_true, false_and, and_false, not_true_eq_false, not_false_eq_true, if_true, if_false, nr_20, nr_24, nr_40, nr_41, nr_44, pt_lt, pt_ge, pt_eq, pt_ne, pt_gt, pt_le, pt_E, pt_N, pt_F, ite_10, ite_11, ne_eq, and_self, or_self, decide_true, decide_false, Bool.not_true, Bool.not_false, Bool.false_eq_true, Nat.reduceEqDiff, Nat.reduceAdd, Int.reduceEq, Int.reduceLT, Int.reduceLE, Int.reduceNeg, Int.reduceAdd, Int.reduceSub, Int.reduceMul, reduceCtorEq, hr.2.1.1.k, fin w' hr]
      exact ⟨hr, fun z => absurd z c⟩
/-- the class's parser: at token i -/
def PS (S : QS) (v : QV) (T x P : Int) (i : Int) : Prop := LTp S v T ∧ LPs S v x ∧ v x 0 = T ∧ v x 1 = P ∧ v x 2 = i ∧ (0 ≤ i ∧ i < nTk v T) ∧ TK v T ∧ (0 ≤ v T 1 ∧ v T 1 ≤ 1000) ∧ (∀ k, 0 ≤ k → k < v T 1 → 0 ≤ v (T + 1) k ∧ v (T + 1) k ≤ 255) ∧ (T + 5 = x)
theorem q_isT1 {i : Int} (h : LTp S v T) (h0 : 0 ≤ i) (h1 : i < v T 5) : mX10_isToken [T, i] S v = some (1, v) := by
  have g : 0 ≤ i := h0
  apply wM_eq
  simp only [mX10_isToken, sX10_isToken, wE_I, wE_V, wE_F, wE_A, wE_N, wE_1, wE_2, wE_D, wE_B, wE_If, wE_C, wE_CV, wE_SL, wE_SA, wA_0, wA_1, wC_B, wC_E, wC_And, wC_Or, wC_Not, wS_Skip, wS_Brk, wS_Cnt, wS_RetV, wS_Ret, wS_Seq, wS_Set, wS_Inc, wS_Do, wS_Put, wS_PutC, wS_Arr, wS_ArrC, wS_If, wS_Sw, wS_F0, wS_F1, wM_q, lu_ap, aL_ap, ct_0, ct_1, ct_2, ct_3, ct_4, ct_5, headD_1, List.mem_cons, List.not_mem_nil, or_false, false_or, or_true, true_or, true_and, and_true, false_and, and_false, not_true_eq_false, not_false_eq_true, if_true, if_false, nr_20, nr_24, nr_40, nr_41, nr_44, pt_lt, pt_ge, pt_eq, pt_ne, pt_gt, pt_le, pt_E, pt_N, pt_F, ite_10, ite_11, ne_eq, and_self, or_self, decide_true, decide_false, Bool.not_true, Bool.not_false, Bool.false_eq_true, Nat.reduceEqDiff, Nat.reduceAdd, Int.reduceEq, Int.reduceLT, Int.reduceLE, Int.reduceNeg, Int.reduceAdd, Int.reduceSub, Int.reduceMul, reduceCtorEq, iA, iS, iM, iD, iR, iN, lA, lS, lM, lD, lR, h.k, g, h1]
theorem q_isT0 {i : Int} (h : LTp S v T) (h0 : 0 ≤ i) (h1 : ¬ i < v T 5) : mX10_isToken [T, i] S v = some (0, v) := by
  have g : 0 ≤ i := h0
  apply wM_eq
  simp only [mX10_isToken, sX10_isToken, wE_I, wE_V, wE_F, wE_A, wE_N, wE_1, wE_2, wE_D, wE_B, wE_If, wE_C, wE_CV, wE_SL, wE_SA, wA_0, wA_1, wC_B, wC_E, wC_And, wC_Or, wC_Not, wS_Skip, wS_Brk, wS_Cnt, wS_RetV, wS_Ret, wS_Seq, wS_Set, wS_Inc, wS_Do, wS_Put, wS_PutC, wS_Arr, wS_ArrC, wS_If, wS_Sw, wS_F0, wS_F1, wM_q, lu_ap, aL_ap, ct_0, ct_1, ct_2, ct_3, ct_4, ct_5, headD_1, List.mem_cons, List.not_mem_nil, or_false, false_or, or_true, true_or, true_and, and_true, false_and, and_false, not_true_eq_false, not_false_eq_true, if_true, if_false, nr_20, nr_24, nr_40, nr_41, nr_44, pt_lt, pt_ge, pt_eq, pt_ne, pt_gt, pt_le, pt_E, pt_N, pt_F, ite_10, ite_11, ne_eq, and_self, or_self, decide_true, decide_false, Bool.not_true, Bool.not_false, Bool.false_eq_true, Nat.reduceEqDiff, Nat.reduceAdd, Int.reduceEq, Int.reduceLT, Int.reduceLE, Int.reduceNeg, Int.reduceAdd, Int.reduceSub, Int.reduceMul, reduceCtorEq, iA, iS, iM, iD, iR, iN, lA, lS, lM, lD, lR, h.k, g, h1]
theorem q_kindAt {i : Int} (h : LTp S v T) (hT : TK v T) (hi : 0 ≤ i) : mX10_kindAt [T, i] S v = some (kdT v T i, v) := by
  apply wM_eq
  by_cases c : i < v T 5
  · have hq := q_isT1 h hi c
    have o1 : 0 ≤ i ∧ i < 1000 := by have := hT.1; unfold nTk at this; omega
    rw [kd_r c]
    simp only [mX10_kindAt, sX10_kindAt, wE_I, wE_V, wE_F, wE_A, wE_N, wE_1, wE_2, wE_D, wE_B, wE_If, wE_C, wE_CV, wE_SL, wE_SA, wA_0, wA_1, wC_B, wC_E, wC_And, wC_Or, wC_Not, wS_Skip, wS_Brk, wS_Cnt, wS_RetV, wS_Ret, wS_Seq, wS_Set, wS_Inc, wS_Do, wS_Put, wS_PutC, wS_Arr, wS_ArrC, wS_If, wS_Sw, wS_F0, wS_F1, wM_q, lu_ap, aL_ap, ct_0, ct_1, ct_2, ct_3, ct_4, ct_5, headD_1, List.mem_cons, List.not_mem_nil, or_false, false_or, or_true, true_or, true_and, and_true, false_and, and_false, not_true_eq_false, not_false_eq_true, if_true, if_false, nr_20, nr_24, nr_40, nr_41, nr_44, pt_lt, pt_ge, pt_eq, pt_ne, pt_gt, pt_le, pt_E, pt_N, pt_F, ite_10, ite_11, ne_eq, and_self, or_self, decide_true, decide_false, Bool.not_true, Bool.not_false, Bool.false_eq_true, Nat.reduceEqDiff, Nat.reduceAdd, Int.reduceEq, Int.reduceLT, Int.reduceLE, Int.reduceNeg, Int.reduceAdd, Int.reduceSub, Int.reduceMul, reduceCtorEq, iA, iS, iM, iD, iR, iN, lA, lS, lM, lD, lR, h.k, wM_of hq, h.p2, h.a2, h.n2, o1]
  · have hq := q_isT0 h hi c
    rw [kd_e c]
    simp only [mX10_kindAt, sX10_kindAt, wE_I, wE_V, wE_F, wE_A, wE_N, wE_1, wE_2, wE_D, wE_B, wE_If, wE_C, wE_CV, wE_SL, wE_SA, wA_0, wA_1, wC_B, wC_E, wC_And, wC_Or, wC_Not, wS_Skip, wS_Brk, wS_Cnt, wS_RetV, wS_Ret, wS_Seq, wS_Set, wS_Inc, wS_Do, wS_Put, wS_PutC, wS_Arr, wS_ArrC, wS_If, wS_Sw, wS_F0, wS_F1, wM_q, lu_ap, aL_ap, ct_0, ct_1, ct_2, ct_3, ct_4, ct_5, headD_1, List.mem_cons, List.not_mem_nil, or_false, false_or, or_true, true_or, true_and, and_true, false_and, and_false, not_true_eq_false, not_false_eq_true, if_true, if_false, nr_20, nr_24, nr_40, nr_41, nr_44, pt_lt, pt_ge, pt_eq, pt_ne, pt_gt, pt_le, pt_E, pt_N, pt_F, ite_10, ite_11, ne_eq, and_self, or_self, decide_true, decide_false, Bool.not_true, Bool.not_false, Bool.false_eq_true, Nat.reduceEqDiff, Nat.reduceAdd, Int.reduceEq, Int.reduceLT, Int.reduceLE, Int.reduceNeg, Int.reduceAdd, Int.reduceSub, Int.reduceMul, reduceCtorEq, iA, iS, iM, iD, iR, iN, lA, lS, lM, lD, lR, h.k, wM_of hq]
theorem q_placeOf {i : Int} (h : LTp S v T) (hT : TK v T) (hi : 0 ≤ i) : mX10_placeOf [T, i] S v = some (stT v T i, v) := by
  apply wM_eq
  by_cases c : i < v T 5
  · have hq := q_isT1 h hi c
    have o1 : 0 ≤ i ∧ i < 1000 := by have := hT.1; unfold nTk at this; omega
    rw [st_r c]
    simp only [mX10_placeOf, sX10_placeOf, wE_I, wE_V, wE_F, wE_A, wE_N, wE_1, wE_2, wE_D, wE_B, wE_If, wE_C, wE_CV, wE_SL, wE_SA, wA_0, wA_1, wC_B, wC_E, wC_And, wC_Or, wC_Not, wS_Skip, wS_Brk, wS_Cnt, wS_RetV, wS_Ret, wS_Seq, wS_Set, wS_Inc, wS_Do, wS_Put, wS_PutC, wS_Arr, wS_ArrC, wS_If, wS_Sw, wS_F0, wS_F1, wM_q, lu_ap, aL_ap, ct_0, ct_1, ct_2, ct_3, ct_4, ct_5, headD_1, List.mem_cons, List.not_mem_nil, or_false, false_or, or_true, true_or, true_and, and_true, false_and, and_false, not_true_eq_false, not_false_eq_true, if_true, if_false, nr_20, nr_24, nr_40, nr_41, nr_44, pt_lt, pt_ge, pt_eq, pt_ne, pt_gt, pt_le, pt_E, pt_N, pt_F, ite_10, ite_11, ne_eq, and_self, or_self, decide_true, decide_false, Bool.not_true, Bool.not_false, Bool.false_eq_true, Nat.reduceEqDiff, Nat.reduceAdd, Int.reduceEq, Int.reduceLT, Int.reduceLE, Int.reduceNeg, Int.reduceAdd, Int.reduceSub, Int.reduceMul, reduceCtorEq, iA, iS, iM, iD, iR, iN, lA, lS, lM, lD, lR, h.k, wM_of hq, h.p3, h.a3, h.n3, o1]
  · have hq := q_isT0 h hi c
    rw [st_e c]
    simp only [mX10_placeOf, sX10_placeOf, wE_I, wE_V, wE_F, wE_A, wE_N, wE_1, wE_2, wE_D, wE_B, wE_If, wE_C, wE_CV, wE_SL, wE_SA, wA_0, wA_1, wC_B, wC_E, wC_And, wC_Or, wC_Not, wS_Skip, wS_Brk, wS_Cnt, wS_RetV, wS_Ret, wS_Seq, wS_Set, wS_Inc, wS_Do, wS_Put, wS_PutC, wS_Arr, wS_ArrC, wS_If, wS_Sw, wS_F0, wS_F1, wM_q, lu_ap, aL_ap, ct_0, ct_1, ct_2, ct_3, ct_4, ct_5, headD_1, List.mem_cons, List.not_mem_nil, or_false, false_or, or_true, true_or, true_and, and_true, false_and, and_false, not_true_eq_false, not_false_eq_true, if_true, if_false, nr_20, nr_24, nr_40, nr_41, nr_44, pt_lt, pt_ge, pt_eq, pt_ne, pt_gt, pt_le, pt_E, pt_N, pt_F, ite_10, ite_11, ne_eq, and_self, or_self, decide_true, decide_false, Bool.not_true, Bool.not_false, Bool.false_eq_true, Nat.reduceEqDiff, Nat.reduceAdd, Int.reduceEq, Int.reduceLT, Int.reduceLE, Int.reduceNeg, Int.reduceAdd, Int.reduceSub, Int.reduceMul, reduceCtorEq, iA, iS, iM, iD, iR, iN, lA, lS, lM, lD, lR, h.k, wM_of hq]
theorem TK_q {T : Int} {v u : QV} (h : ∀ a k, T ≤ a → a ≤ T + 4 → u a k = v a k) (hT : TK v T) : TK u T := by
  have e1 : u (T + 1) = v (T + 1) := funext fun k => h _ _ (by omega) (by omega)
  have eT : ∀ k, u T k = v T k := fun k => h _ _ (by omega) (by omega)
  unfold TK tkO lsO at hT ⊢
  simp only [eT, e1, kd_q h, st_q h, sp_q h, nt_q h]
  exact hT
theorem q_kind {P i : Int} (h : PS S v T x P i) : mX5_kind [x] S v = some (kdT v T i, v) := by
  obtain ⟨h1, h2, h3, h4, h5, h6, h7, -⟩ := h
  have hq := q_kindAt h1 h7 h6.1
  apply wM_eq
  simp only [mX5_kind, sX5_kind, wE_I, wE_V, wE_F, wE_A, wE_N, wE_1, wE_2, wE_D, wE_B, wE_If, wE_C, wE_CV, wE_SL, wE_SA, wA_0, wA_1, wC_B, wC_E, wC_And, wC_Or, wC_Not, wS_Skip, wS_Brk, wS_Cnt, wS_RetV, wS_Ret, wS_Seq, wS_Set, wS_Inc, wS_Do, wS_Put, wS_PutC, wS_Arr, wS_ArrC, wS_If, wS_Sw, wS_F0, wS_F1, wM_q, lu_ap, aL_ap, ct_0, ct_1, ct_2, ct_3, ct_4, ct_5, headD_1, List.mem_cons, List.not_mem_nil, or_false, false_or, or_true, true_or, true_and, and_true, false_and, and_false, not_true_eq_false, not_false_eq_true, if_true, if_false, nr_20, nr_24, nr_40, nr_41, nr_44, pt_lt, pt_ge, pt_eq, pt_ne, pt_gt, pt_le, pt_E, pt_N, pt_F, ite_10, ite_11, ne_eq, and_self, or_self, decide_true, decide_false, Bool.not_true, Bool.not_false, Bool.false_eq_true, Nat.reduceEqDiff, Nat.reduceAdd, Int.reduceEq, Int.reduceLT, Int.reduceLE, Int.reduceNeg, Int.reduceAdd, Int.reduceSub, Int.reduceMul, reduceCtorEq, iA, iS, iM, iD, iR, iN, lA, lS, lM, lD, lR, h2.k, h3, h5, h1.k, wM_of hq]
theorem q_fail {P i f : Int} (h : PS S v T x P i) : mX5_fail [x, f] S v = some (0, vu (vu v x 3 f) x 4 (stT v T i)) := by
  obtain ⟨h1, h2, h3, h4, h5, h6, h7, -, -, h8⟩ := h
  have y0 : vu v x 3 f x 0 = T := by rw [vu_ne (by simp)]; exact h3
  have y2 : vu v x 3 f x 2 = i := by rw [vu_ne (by simp)]; exact h5
  have yT : ∀ a k, T ≤ a → a ≤ T + 4 → vu v x 3 f a k = v a k := fun a k _ ha => vu_ne (fun e => by omega)
  have hq := q_placeOf (h1.keep (Kp.rf.vuc (a := x) (i := 3) (z := f) (by rw [h2.k]; rfl))) (TK_q yT h7) h6.1
  rw [st_q yT] at hq
  apply wM_eq
  simp only [mX5_fail, sX5_fail, wE_I, wE_V, wE_F, wE_A, wE_N, wE_1, wE_2, wE_D, wE_B, wE_If, wE_C, wE_CV, wE_SL, wE_SA, wA_0, wA_1, wC_B, wC_E, wC_And, wC_Or, wC_Not, wS_Skip, wS_Brk, wS_Cnt, wS_RetV, wS_Ret, wS_Seq, wS_Set, wS_Inc, wS_Do, wS_Put, wS_PutC, wS_Arr, wS_ArrC, wS_If, wS_Sw, wS_F0, wS_F1, wM_q, lu_ap, aL_ap, ct_0, ct_1, ct_2, ct_3, ct_4, ct_5, headD_1, List.mem_cons, List.not_mem_nil, or_false, false_or, or_true, true_or, true_and, and_true, false_and, and_false, not_true_eq_false, not_false_eq_true, if_true, if_false, nr_20, nr_24, nr_40, nr_41, nr_44, pt_lt, pt_ge, pt_eq, pt_ne, pt_gt, pt_le, pt_E, pt_N, pt_F, ite_10, ite_11, ne_eq, and_self, or_self, decide_true, decide_false, Bool.not_true, Bool.not_false, Bool.false_eq_true, Nat.reduceEqDiff, Nat.reduceAdd, Int.reduceEq, Int.reduceLT, Int.reduceLE, Int.reduceNeg, Int.reduceAdd, Int.reduceSub, Int.reduceMul, reduceCtorEq, iA, iS, iM, iD, iR, iN, lA, lS, lM, lD, lR, h2.k, y0, y2, h1.k, wM_of hq]
theorem q_take {P i k : Int} (h : PS S v T x P i) : mX5_take [x, k] S v = if kdT v T i = k then some (1, vu v x 2 (i + 1)) else some (0, vu (vu v x 3 1) x 4 (stT v T i)) := by
  have hk := q_kind h
  have hf := q_fail (f := 1) h
  obtain ⟨h1, h2, h3, h4, h5, h6, h7, -⟩ := h
  have e1 : w32 (i + 1) = i + 1 := by have := h7.1; exact w32_e (by omega)
  by_cases c : kdT v T i = k
  · rw [if_pos c]
    apply wM_eq
    simp only [mX5_take, sX5_take, wE_I, wE_V, wE_F, wE_A, wE_N, wE_1, wE_2, wE_D, wE_B, wE_If, wE_C, wE_CV, wE_SL, wE_SA, wA_0, wA_1, wC_B, wC_E, wC_And, wC_Or, wC_Not, wS_Skip, wS_Brk, wS_Cnt, wS_RetV, wS_Ret, wS_Seq, wS_Set, wS_Inc, wS_Do, wS_Put, wS_PutC, wS_Arr, wS_ArrC, wS_If, wS_Sw, wS_F0, wS_F1, wM_q, lu_ap, aL_ap, ct_0, ct_1, ct_2, ct_3, ct_4, ct_5, headD_1, List.mem_cons, List.not_mem_nil, or_false, false_or, or_true, true_or, true_and, and_true, false_and, and_false, not_true_eq_false, not_false_eq_true, if_true, if_false, nr_20, nr_24, nr_40, nr_41, nr_44, pt_lt, pt_ge, pt_eq, pt_ne, pt_gt, pt_le, pt_E, pt_N, pt_F, ite_10, ite_11, ne_eq, and_self, or_self, decide_true, decide_false, Bool.not_true, Bool.not_false, Bool.false_eq_true, Nat.reduceEqDiff, Nat.reduceAdd, Int.reduceEq, Int.reduceLT, Int.reduceLE, Int.reduceNeg, Int.reduceAdd, Int.reduceSub, Int.reduceMul, reduceCtorEq, iA, iS, iM, iD, iR, iN, lA, lS, lM, lD, lR, h2.k, wM_of hk, c, h5, e1]
  · rw [if_neg c]
    apply wM_eq
    simp only [mX5_take, sX5_take, wE_I, wE_V, wE_F, wE_A, wE_N, wE_1, wE_2, wE_D, wE_B, wE_If, wE_C, wE_CV, wE_SL, wE_SA, wA_0, wA_1, wC_B, wC_E, wC_And, wC_Or, wC_Not, wS_Skip, wS_Brk, wS_Cnt, wS_RetV, wS_Ret, wS_Seq, wS_Set, wS_Inc, wS_Do, wS_Put, wS_PutC, wS_Arr, wS_ArrC, wS_If, wS_Sw, wS_F0, wS_F1, wM_q, lu_ap, aL_ap, ct_0, ct_1, ct_2, ct_3, ct_4, ct_5, headD_1, List.mem_cons, List.not_mem_nil, or_false, false_or, or_true, true_or, true_and, and_true, false_and, and_false, not_true_eq_false, not_false_eq_true, if_true, if_false, nr_20, nr_24, nr_40, nr_41, nr_44, pt_lt, pt_ge, pt_eq, pt_ne, pt_gt, pt_le, pt_E, pt_N, pt_F, ite_10, ite_11, ne_eq, and_self, or_self, decide_true, decide_false, Bool.not_true, Bool.not_false, Bool.false_eq_true, Nat.reduceEqDiff, Nat.reduceAdd, Int.reduceEq, Int.reduceLT, Int.reduceLE, Int.reduceNeg, Int.reduceAdd, Int.reduceSub, Int.reduceMul, reduceCtorEq, iA, iS, iM, iD, iR, iN, lA, lS, lM, lD, lR, h2.k, wM_of hk, c, wM_of hf]
theorem dvV_le {c : Int → Int} {p : Int} {a : Nat} : ∀ b : Nat, a ≤ b → (∀ k : Nat, k < b → isDg (c (p + k))) → dvV c p a ≤ dvV c p b
  | 0, h, _ => by rw [show a = 0 by omega]; exact Int.le_refl _
  | b + 1, h, hd => by
    by_cases e : a = b + 1
    · rw [e]; exact Int.le_refl _
    · have i1 := dvV_le (c := c) (p := p) (a := a) b (by omega) (fun k hk => hd k (by omega))
      have i2 := dvV_n b (fun k hk => hd k (by omega))
      have i3 := hd b (by omega)
      show _ ≤ 10 * dvV c p b + (c (p + b) - 48)
      omega
theorem q_numberOf {P i : Int} (h : PS S v T x P i) (hk : kdT v T i = 3) : mX10_numberOf [T, i] S v = some (nmT v T i, v) := by
  obtain ⟨h1, h2, h3, h4, h5, h6, h7, h9, h10, h8⟩ := h
  have hi : i < nTk v T - 1 := kd_lt (by rw [hk]; decide)
  have hi5 : i < v T 5 := by unfold nTk at hi; omega
  have o1 : 0 ≤ i ∧ i < 1000 := by have := h7.1; omega
  have hqt := q_isT1 h1 h6.1 hi5
  obtain ⟨⟨s0, s1, s2⟩, s3, s4, s5⟩ := h7.2.2.1 i h6.1 hi
  have hdg : isDg (v (T + 1) (stT v T i)) := by
    by_cases cl : isLe (v (T + 1) (stT v T i))
    · rcases s4.1 cl with ⟨i', -, -, e⟩ | ⟨e, -⟩ <;> omega
    · by_cases cd : isDg (v (T + 1) (stT v T i))
      · exact cd
      · have := s4.2.2 cl cd
        unfold isSg at this
        omega
  have hrun := dgRun hdg (s3.2.1 hdg)
  unfold nmT dvT
  generalize hp' : stT v T i = p at *
  generalize hq' : spT v T i = q at *
  have hp : v (T + 3) i = p := by rw [← hp']; exact (st_r hi5).symm
  have hq : v (T + 4) i = q := by rw [← hq']; exact (sp_r hi5).symm
  apply wM_eq
  simp only [mX10_numberOf, sX10_numberOf, wE_I, wE_V, wE_F, wE_A, wE_N, wE_1, wE_2, wE_D, wE_B, wE_If, wE_C, wE_CV, wE_SL, wE_SA, wA_0, wA_1, wC_B, wC_E, wC_And, wC_Or, wC_Not, wS_Skip, wS_Brk, wS_Cnt, wS_RetV, wS_Ret, wS_Seq, wS_Set, wS_Inc, wS_Do, wS_Put, wS_PutC, wS_Arr, wS_ArrC, wS_If, wS_Sw, wS_F0, wS_F1, wM_q, lu_ap, aL_ap, ct_0, ct_1, ct_2, ct_3, ct_4, ct_5, headD_1, List.mem_cons, List.not_mem_nil, or_false, false_or, or_true, true_or, true_and, and_true, false_and, and_false, not_true_eq_false, not_false_eq_true, if_true, if_false, nr_20, nr_24, nr_40, nr_41, nr_44, pt_lt, pt_ge, pt_eq, pt_ne, pt_gt, pt_le, pt_E, pt_N, pt_F, ite_10, ite_11, ne_eq, and_self, or_self, decide_true, decide_false, Bool.not_true, Bool.not_false, Bool.false_eq_true, Nat.reduceEqDiff, Nat.reduceAdd, Int.reduceEq, Int.reduceLT, Int.reduceLE, Int.reduceNeg, Int.reduceAdd, Int.reduceSub, Int.reduceMul, reduceCtorEq, iA, iS, iM, iD, iR, iN, lA, lS, lM, lD, lR, h1.k, wM_of hqt, h1.p3, h1.a3, h1.n3, o1, hp]
  refine wS_While (fun k L w => ∃ j : Nat, (L 0 = T ∧ L 1 = i ∧ L 2 = dvV (v (T + 1)) p j ∧ L 3 = p + j) ∧ ((j : Int) ≤ q - p ∧ (k : Int) = q - p - j) ∧ dvV (v (T + 1)) p j ≤ 999999 ∧ w = v) (q - p).toNat (by omega) ?_ ?_
  · exact ⟨0, ⟨by simp [lu_ap, aL_ap, ct_0, ct_1, ct_2], by simp [lu_ap, aL_ap, ct_0, ct_1, ct_2], by simp [lu_ap, dvV], by simp [lu_ap]⟩, by omega, by simp only [dvV]; decide, rfl⟩
  · rintro k L w ⟨j, ⟨l0, l1, l2, l3⟩, ⟨hj, hkj⟩, hle, rfl⟩
    have hd0 := dvV_n j (fun k hk => hrun k (by omega))
    by_cases c : (j : Int) < q - p
    · have hdj := hrun j (by omega)
      have hstep : dvV (w (T + 1)) p (j + 1) = 10 * dvV (w (T + 1)) p j + (w (T + 1) (p + j) - 48) := rfl
      have hmono := dvV_le (a := j + 1) (q - p).toNat (by omega) hrun
      have clt : p + (j : Int) < q := by omega
      have o2 : 0 ≤ p + (j : Int) ∧ p + (j : Int) < 1000 := by omega
      generalize hD : dvV (w (T + 1)) p j = D at *
      have ex : D * 10 + (w (T + 1) (p + j) - 48) = 10 * D + (w (T + 1) (p + j) - 48) := by omega
      have nk : k - 1 < k := by omega
      have nj : (((j + 1 : Nat)) : Int) ≤ q - p ∧ ((k - 1 : Nat) : Int) = q - p - ((j + 1 : Nat) : Int) := by omega
      have np : p + (j : Int) + 1 = p + ((j + 1 : Nat) : Int) := by omega
      have e1 : w32 (D * 10) = D * 10 := w32_e (by omega)
      have e2 : w32 (w (T + 1) (p + j) - 48) = w (T + 1) (p + j) - 48 := by clear e1; exact w32_e (by omega)
      have e3 : w32 (10 * D + (w (T + 1) (p + j) - 48)) = 10 * D + (w (T + 1) (p + j) - 48) := by clear e1 e2; exact w32_e (by omega)
      have e4 : w32 (p + (j : Int) + 1) = p + j + 1 := by clear e1 e2 e3; exact w32_e (by omega)
      by_cases cb : 999999 < 10 * D + (w (T + 1) (p + j) - 48)
      · simp only [cX10_numberOf_1, bX10_numberOf_1, wE_I, wE_V, wE_F, wE_A, wE_N, wE_1, wE_2, wE_D, wE_B, wE_If, wE_C, wE_CV, wE_SL, wE_SA, wA_0, wA_1, wC_B, wC_E, wC_And, wC_Or, wC_Not, wS_Skip, wS_Brk, wS_Cnt, wS_RetV, wS_Ret, wS_Seq, wS_Set, wS_Inc, wS_Do, wS_Put, wS_PutC, wS_Arr, wS_ArrC, wS_If, wS_Sw, wS_F0, wS_F1, wM_q, lu_ap, aL_ap, ct_0, ct_1, ct_2, ct_3, ct_4, ct_5, headD_1, List.mem_cons, List.not_mem_nil, or_false, false_or, or_true, true_or, true_and, and_true, false_and, and_false, not_true_eq_false, not_false_eq_true, if_true, if_false, nr_20, nr_24, nr_40, nr_41, nr_44, pt_lt, pt_ge, pt_eq, pt_ne, pt_gt, pt_le, pt_E, pt_N, pt_F, ite_10, ite_11, ne_eq, and_self, or_self, decide_true, decide_false, Bool.not_true, Bool.not_false, Bool.false_eq_true, Nat.reduceEqDiff, Nat.reduceAdd, Int.reduceEq, Int.reduceLT, Int.reduceLE, Int.reduceNeg, Int.reduceAdd, Int.reduceSub, Int.reduceMul, reduceCtorEq, iA, iS, iM, iD, iR, iN, lA, lS, lM, lD, lR, l0, l1, l2, l3, h1.k, h1.p4, h1.a4, h1.n4, o1, hq, clt, h1.p0, h1.a1, h1.n1, o2, e1, e2, ex, e3, cb]
        rw [if_neg (by clear e1 e2 e3 e4; omega)]
      · have hle2 : 10 * D + (w (T + 1) (p + j) - 48) ≤ 999999 := by clear e1 e2 e3 e4; omega
        simp only [cX10_numberOf_1, bX10_numberOf_1, uX10_numberOf_1, wE_I, wE_V, wE_F, wE_A, wE_N, wE_1, wE_2, wE_D, wE_B, wE_If, wE_C, wE_CV, wE_SL, wE_SA, wA_0, wA_1, wC_B, wC_E, wC_And, wC_Or, wC_Not, wS_Skip, wS_Brk, wS_Cnt, wS_RetV, wS_Ret, wS_Seq, wS_Set, wS_Inc, wS_Do, wS_Put, wS_PutC, wS_Arr, wS_ArrC, wS_If, wS_Sw, wS_F0, wS_F1, wM_q, lu_ap, aL_ap, ct_0, ct_1, ct_2, ct_3, ct_4, ct_5, headD_1, List.mem_cons, List.not_mem_nil, or_false, false_or, or_true, true_or, true_and, and_true, false_and, and_false, not_true_eq_false, not_false_eq_true, if_true, if_false, nr_20, nr_24, nr_40, nr_41, nr_44, pt_lt, pt_ge, pt_eq, pt_ne, pt_gt, pt_le, pt_E, pt_N, pt_F, ite_10, ite_11, ne_eq, and_self, or_self, decide_true, decide_false, Bool.not_true, Bool.not_false, Bool.false_eq_true, Nat.reduceEqDiff, Nat.reduceAdd, Int.reduceEq, Int.reduceLT, Int.reduceLE, Int.reduceNeg, Int.reduceAdd, Int.reduceSub, Int.reduceMul, reduceCtorEq, iA, iS, iM, iD, iR, iN, lA, lS, lM, lD, lR, l0, l1, l2, l3, h1.k, h1.p4, h1.a4, h1.n4, o1, hq, clt, h1.p0, h1.a1, h1.n1, o2, e1, e2, ex, e3, cb, e4]
        exact ⟨k - 1, nk, j + 1, ⟨hstep.symm, np⟩, nj, by rw [hstep]; exact hle2⟩
    · have je : (q - p).toNat = j := by omega
      have cn : ¬ p + (j : Int) < q := by omega
      simp only [cX10_numberOf_1, wE_I, wE_V, wE_F, wE_A, wE_N, wE_1, wE_2, wE_D, wE_B, wE_If, wE_C, wE_CV, wE_SL, wE_SA, wA_0, wA_1, wC_B, wC_E, wC_And, wC_Or, wC_Not, wS_Skip, wS_Brk, wS_Cnt, wS_RetV, wS_Ret, wS_Seq, wS_Set, wS_Inc, wS_Do, wS_Put, wS_PutC, wS_Arr, wS_ArrC, wS_If, wS_Sw, wS_F0, wS_F1, wM_q, lu_ap, aL_ap, ct_0, ct_1, ct_2, ct_3, ct_4, ct_5, headD_1, List.mem_cons, List.not_mem_nil, or_false, false_or, or_true, true_or, true_and, and_true, false_and, and_false, not_true_eq_false, not_false_eq_true, if_true, if_false, nr_20, nr_24, nr_40, nr_41, nr_44, pt_lt, pt_ge, pt_eq, pt_ne, pt_gt, pt_le, pt_E, pt_N, pt_F, ite_10, ite_11, ne_eq, and_self, or_self, decide_true, decide_false, Bool.not_true, Bool.not_false, Bool.false_eq_true, Nat.reduceEqDiff, Nat.reduceAdd, Int.reduceEq, Int.reduceLT, Int.reduceLE, Int.reduceNeg, Int.reduceAdd, Int.reduceSub, Int.reduceMul, reduceCtorEq, iA, iS, iM, iD, iR, iN, lA, lS, lM, lD, lR, l0, l1, l2, l3, h1.k, h1.p4, h1.a4, h1.n4, o1, hq, cn]
      rw [je, if_pos hle]
theorem q_takeNumber {P i lo hi : Int} (h : PS S v T x P i) : mX5_takeNumber [x, lo, hi] S v = if fNu v T lo hi i = 0 then some (nmT v T i, vu v x 2 (i + 1)) else some (-1, vu (vu v x 3 (fNu v T lo hi i)) x 4 (stT v T i)) := by
  have hk := q_kind h
  have hf1 := q_fail (f := 1) h
  have hf2 := q_fail (f := 2) h
  by_cases c : kdT v T i = 3
  · have hn := q_numberOf h c
    obtain ⟨h1, h2, h3, h4, h5, h6, h7, -⟩ := h
    have e1 : w32 (i + 1) = i + 1 := by have := h7.1; exact w32_e (by omega)
    by_cases g : lo ≤ nmT v T i ∧ nmT v T i ≤ hi
    · have hfn : fNu v T lo hi i = 0 := by unfold fNu; rw [if_pos c, if_pos g]
      rw [hfn, if_pos rfl]
      have g1 : ¬ nmT v T i < lo := by clear e1; omega
      have g2 : ¬ hi < nmT v T i := by clear e1; omega
      apply wM_eq
      simp only [mX5_takeNumber, sX5_takeNumber, wE_I, wE_V, wE_F, wE_A, wE_N, wE_1, wE_2, wE_D, wE_B, wE_If, wE_C, wE_CV, wE_SL, wE_SA, wA_0, wA_1, wC_B, wC_E, wC_And, wC_Or, wC_Not, wS_Skip, wS_Brk, wS_Cnt, wS_RetV, wS_Ret, wS_Seq, wS_Set, wS_Inc, wS_Do, wS_Put, wS_PutC, wS_Arr, wS_ArrC, wS_If, wS_Sw, wS_F0, wS_F1, wM_q, lu_ap, aL_ap, ct_0, ct_1, ct_2, ct_3, ct_4, ct_5, headD_1, List.mem_cons, List.not_mem_nil, or_false, false_or, or_true, true_or, true_and, and_true, false_and, and_false, not_true_eq_false, not_false_eq_true, if_true, if_false, nr_20, nr_24, nr_40, nr_41, nr_44, pt_lt, pt_ge, pt_eq, pt_ne, pt_gt, pt_le, pt_E, pt_N, pt_F, ite_10, ite_11, ne_eq, and_self, or_self, decide_true, decide_false, Bool.not_true, Bool.not_false, Bool.false_eq_true, Nat.reduceEqDiff, Nat.reduceAdd, Int.reduceEq, Int.reduceLT, Int.reduceLE, Int.reduceNeg, Int.reduceAdd, Int.reduceSub, Int.reduceMul, reduceCtorEq, iA, iS, iM, iD, iR, iN, lA, lS, lM, lD, lR, h2.k, wM_of hk, c, h3, h5, h1.k, wM_of hn, g1, g2, e1]
    · have hfn : fNu v T lo hi i = 2 := by unfold fNu; rw [if_pos c, if_neg g]
      rw [hfn, if_neg (by decide)]
      apply wM_eq
      by_cases g1 : nmT v T i < lo
      · simp only [mX5_takeNumber, sX5_takeNumber, wE_I, wE_V, wE_F, wE_A, wE_N, wE_1, wE_2, wE_D, wE_B, wE_If, wE_C, wE_CV, wE_SL, wE_SA, wA_0, wA_1, wC_B, wC_E, wC_And, wC_Or, wC_Not, wS_Skip, wS_Brk, wS_Cnt, wS_RetV, wS_Ret, wS_Seq, wS_Set, wS_Inc, wS_Do, wS_Put, wS_PutC, wS_Arr, wS_ArrC, wS_If, wS_Sw, wS_F0, wS_F1, wM_q, lu_ap, aL_ap, ct_0, ct_1, ct_2, ct_3, ct_4, ct_5, headD_1, List.mem_cons, List.not_mem_nil, or_false, false_or, or_true, true_or, true_and, and_true, false_and, and_false, not_true_eq_false, not_false_eq_true, if_true, if_false, nr_20, nr_24, nr_40, nr_41, nr_44, pt_lt, pt_ge, pt_eq, pt_ne, pt_gt, pt_le, pt_E, pt_N, pt_F, ite_10, ite_11, ne_eq, and_self, or_self, decide_true, decide_false, Bool.not_true, Bool.not_false, Bool.false_eq_true, Nat.reduceEqDiff, Nat.reduceAdd, Int.reduceEq, Int.reduceLT, Int.reduceLE, Int.reduceNeg, Int.reduceAdd, Int.reduceSub, Int.reduceMul, reduceCtorEq, iA, iS, iM, iD, iR, iN, lA, lS, lM, lD, lR, h2.k, wM_of hk, c, h3, h5, h1.k, wM_of hn, g1, wM_of hf2]
      · have g2 : hi < nmT v T i := by clear e1; omega
        simp only [mX5_takeNumber, sX5_takeNumber, wE_I, wE_V, wE_F, wE_A, wE_N, wE_1, wE_2, wE_D, wE_B, wE_If, wE_C, wE_CV, wE_SL, wE_SA, wA_0, wA_1, wC_B, wC_E, wC_And, wC_Or, wC_Not, wS_Skip, wS_Brk, wS_Cnt, wS_RetV, wS_Ret, wS_Seq, wS_Set, wS_Inc, wS_Do, wS_Put, wS_PutC, wS_Arr, wS_ArrC, wS_If, wS_Sw, wS_F0, wS_F1, wM_q, lu_ap, aL_ap, ct_0, ct_1, ct_2, ct_3, ct_4, ct_5, headD_1, List.mem_cons, List.not_mem_nil, or_false, false_or, or_true, true_or, true_and, and_true, false_and, and_false, not_true_eq_false, not_false_eq_true, if_true, if_false, nr_20, nr_24, nr_40, nr_41, nr_44, pt_lt, pt_ge, pt_eq, pt_ne, pt_gt, pt_le, pt_E, pt_N, pt_F, ite_10, ite_11, ne_eq, and_self, or_self, decide_true, decide_false, Bool.not_true, Bool.not_false, Bool.false_eq_true, Nat.reduceEqDiff, Nat.reduceAdd, Int.reduceEq, Int.reduceLT, Int.reduceLE, Int.reduceNeg, Int.reduceAdd, Int.reduceSub, Int.reduceMul, reduceCtorEq, iA, iS, iM, iD, iR, iN, lA, lS, lM, lD, lR, h2.k, wM_of hk, c, h3, h5, h1.k, wM_of hn, g1, g2, wM_of hf2]
  · have hfn : fNu v T lo hi i = 1 := by unfold fNu; rw [if_neg c]
    rw [hfn, if_neg (by decide)]
    apply wM_eq
    simp only [mX5_takeNumber, sX5_takeNumber, wE_I, wE_V, wE_F, wE_A, wE_N, wE_1, wE_2, wE_D, wE_B, wE_If, wE_C, wE_CV, wE_SL, wE_SA, wA_0, wA_1, wC_B, wC_E, wC_And, wC_Or, wC_Not, wS_Skip, wS_Brk, wS_Cnt, wS_RetV, wS_Ret, wS_Seq, wS_Set, wS_Inc, wS_Do, wS_Put, wS_PutC, wS_Arr, wS_ArrC, wS_If, wS_Sw, wS_F0, wS_F1, wM_q, lu_ap, aL_ap, ct_0, ct_1, ct_2, ct_3, ct_4, ct_5, headD_1, List.mem_cons, List.not_mem_nil, or_false, false_or, or_true, true_or, true_and, and_true, false_and, and_false, not_true_eq_false, not_false_eq_true, if_true, if_false, nr_20, nr_24, nr_40, nr_41, nr_44, pt_lt, pt_ge, pt_eq, pt_ne, pt_gt, pt_le, pt_E, pt_N, pt_F, ite_10, ite_11, ne_eq, and_self, or_self, decide_true, decide_false, Bool.not_true, Bool.not_false, Bool.false_eq_true, Nat.reduceEqDiff, Nat.reduceAdd, Int.reduceEq, Int.reduceLT, Int.reduceLE, Int.reduceNeg, Int.reduceAdd, Int.reduceSub, Int.reduceMul, reduceCtorEq, iA, iS, iM, iD, iR, iN, lA, lS, lM, lD, lR, h.2.1.k, wM_of hk, c, wM_of hf1]
end PN
