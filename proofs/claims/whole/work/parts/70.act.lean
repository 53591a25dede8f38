/-! ACTS: kept, taken back, done again; boxes -/
theorem w32_S {j : Nat} (h : j < 1000000) : w32 ((j : Int) + 1) = ((j + 1 : Nat) : Int) := by
  have e : w32 ((j : Int) + 1) = (j : Int) + 1 := w32_e (by omega)
  rw [e]; rfl
section AM
variable {S : QS} {v w : QV} {b M P B s : Int}
theorem m_swapAll (h : LMo S v M) (hq : 0 ≤ v M 58 ∧ v M 58 ≤ 12) : wM mX12_swapAll [M] S v (fun _ w => (∀ k, 0 ≤ k → k < 1095 → w (M + 1) k = v (M + 36) (1095 * v M 58 + k)) ∧ (∀ i, w (M + 36) i = if 1095 * v M 58 ≤ i ∧ i < 1095 * v M 58 + 1095 then v (M + 1) (i - 1095 * v M 58) else v (M + 36) i) ∧ ∀ a k, a ≠ M + 1 → a ≠ M + 36 → w a k = v a k) := by
  generalize hQ : v M 58 = q at *
  simp only [mX12_swapAll, sX12_swapAll, wE_I, wE_V, wE_F, wE_A, wE_N, wE_1, wE_2, wE_D, wE_B, wE_If, wE_C, wE_CV, wE_SL, wE_SA, wA_0, wA_1, wC_B, wC_E, wC_And, wC_Or, wC_Not, wS_Skip, wS_Brk, wS_Cnt, wS_RetV, wS_Ret, wS_Seq, wS_Set, wS_Inc, wS_Do, wS_Put, wS_PutC, wS_Arr, wS_ArrC, wS_If, wS_Sw, wS_F0, wS_F1, wM_q, lu_ap, aL_ap, ct_0, ct_1, ct_2, ct_3, ct_4, ct_5, headD_1, List.mem_cons, List.not_mem_nil, or_false, false_or, or_true, true_or, true_and, and_true, false_and, and_false, not_true_eq_false, not_false_eq_true, if_true, if_false, nr_20, nr_24, nr_40, nr_41, nr_44, pt_lt, pt_ge, pt_eq, pt_ne, pt_gt, pt_le, pt_E, pt_N, pt_F, ite_10, ite_11, ne_eq, and_self, or_self, decide_true, decide_false, Bool.not_true, Bool.not_false, Bool.false_eq_true, Nat.reduceEqDiff, Nat.reduceAdd, Int.reduceEq, Int.reduceLT, Int.reduceLE, Int.reduceNeg, Int.reduceAdd, Int.reduceSub, Int.reduceMul, reduceCtorEq, iA, iS, iM, iD, iR, iN, lA, lS, lM, lD, lR]
  refine wS_For 1095 (fun j L w => (L 0 = M ∧ L 1 = j) ∧ (∀ k, 0 ≤ k → w (M + 1) k = if k < j then v (M + 36) (1095 * q + k) else v (M + 1) k) ∧ (∀ i, w (M + 36) i = if 1095 * q ≤ i ∧ i < 1095 * q + j then v (M + 1) (i - 1095 * q) else v (M + 36) i) ∧ (∀ a k, a ≠ M + 1 → a ≠ M + 36 → w a k = v a k) ∧ Kp S v w) (by decide) ?_ ?_ ?_
  · refine ⟨by simp [lu_ap, aL_ap, ct_0, ct_2], fun k hk => (if_neg (by omega)).symm, fun i => (if_neg (by omega)).symm, fun _ _ _ _ => rfl, Kp.rf⟩
  · rintro j L w hj ⟨⟨m0, m1⟩, h1, h2, h3, hk⟩
    have hw := h.keep hk
    have hwq : w M 58 = q := (h3 _ _ (by omega) (by omega)).trans hQ
    have e1 : w32 (w32 (1095 * q) + (j : Int)) = 1095 * q + j := by rw [w32_e (z := 1095 * q) (by omega)]; exact w32_e (by omega)
    have o1 : 0 ≤ 1095 * q + (j : Int) ∧ 1095 * q + (j : Int) < 14235 := by clear e1; omega
    have o2 : 0 ≤ (j : Int) ∧ (j : Int) < 1095 := by clear e1; omega
    have n1 : ¬ M = M + 36 := by omega
    have n2 : ¬ M + 1 = M + 36 := by omega
    simp only [cX12_swapAll_1, bX12_swapAll_1, uX12_swapAll_1, wE_I, wE_V, wE_F, wE_A, wE_N, wE_1, wE_2, wE_D, wE_B, wE_If, wE_C, wE_CV, wE_SL, wE_SA, wA_0, wA_1, wC_B, wC_E, wC_And, wC_Or, wC_Not, wS_Skip, wS_Brk, wS_Cnt, wS_RetV, wS_Ret, wS_Seq, wS_Set, wS_Inc, wS_Do, wS_Put, wS_PutC, wS_Arr, wS_ArrC, wS_If, wS_Sw, wS_F0, wS_F1, wM_q, lu_ap, aL_ap, ct_0, ct_1, ct_2, ct_3, ct_4, ct_5, headD_1, List.mem_cons, List.not_mem_nil, or_false, false_or, or_true, true_or, true_and, and_true, false_and, and_false, not_true_eq_false, not_false_eq_true, if_true, if_false, nr_20, nr_24, nr_40, nr_41, nr_44, pt_lt, pt_ge, pt_eq, pt_ne, pt_gt, pt_le, pt_E, pt_N, pt_F, ite_10, ite_11, ne_eq, and_self, or_self, decide_true, decide_false, Bool.not_true, Bool.not_false, Bool.false_eq_true, Nat.reduceEqDiff, Nat.reduceAdd, Int.reduceEq, Int.reduceLT, Int.reduceLE, Int.reduceNeg, Int.reduceAdd, Int.reduceSub, Int.reduceMul, reduceCtorEq, iA, iS, iM, iD, iR, iN, lA, lS, lM, lD, lR, m0, m1, hw.k, hw.p0, hw.a1, hw.n1, hw.p55, hw.a36, hw.n36, hwq, e1, o1, o2, n1, n2, vu_ne, w32_S (show j < 1000000 by clear e1; omega)]
    clear e1
    have g1 : w (M + 36) (1095 * q + j) = v (M + 36) (1095 * q + j) := by rw [h2, if_neg (by omega)]
    have g2 : w (M + 1) j = v (M + 1) j := by rw [h1 _ o2.1, if_neg (by omega)]
    refine ⟨fun k hk0 => ?_, fun i => ?_, fun a k ha hb => ?_, ?_⟩
    · rw [vu_ap]
      by_cases e : k = j
      · rw [if_pos ⟨rfl, e⟩, if_pos (by omega), e, g1]
      · rw [if_neg (fun z => e z.2), vu_ne (fun z => n2 z.1), h1 k hk0]
        by_cases e2 : k < j
        · rw [if_pos e2, if_pos (by omega)]
        · rw [if_neg e2, if_neg (by omega)]
    · rw [vu_ne (by omega), vu_ap]
      by_cases e : i = 1095 * q + j
      · rw [if_pos ⟨rfl, e⟩, if_pos (by omega), e, g2]
        congr 1
        omega
      · rw [if_neg (fun z => e z.2), h2]
        by_cases e2 : 1095 * q ≤ i ∧ i < 1095 * q + j
        · rw [if_pos e2, if_pos (by omega)]
        · rw [if_neg e2, if_neg (by omega)]
    · rw [vu_ne (fun z => ha z.1), vu_ne (fun z => hb z.1)]
      exact h3 a k ha hb
    · exact fun a k c1 c2 => (Km.vu (S := S) (Km.vu (S := S) (v := w) Km.rf (by rw [hw.a36]; rfl)) (by rw [hw.a1]; rfl) a k c2).trans (hk a k c1 c2)
  · rintro L w ⟨⟨m0, m1⟩, h1, h2, h3, hk⟩
    simp only [cX12_swapAll_1, wE_I, wE_V, wE_F, wE_A, wE_N, wE_1, wE_2, wE_D, wE_B, wE_If, wE_C, wE_CV, wE_SL, wE_SA, wA_0, wA_1, wC_B, wC_E, wC_And, wC_Or, wC_Not, wS_Skip, wS_Brk, wS_Cnt, wS_RetV, wS_Ret, wS_Seq, wS_Set, wS_Inc, wS_Do, wS_Put, wS_PutC, wS_Arr, wS_ArrC, wS_If, wS_Sw, wS_F0, wS_F1, wM_q, lu_ap, aL_ap, ct_0, ct_1, ct_2, ct_3, ct_4, ct_5, headD_1, List.mem_cons, List.not_mem_nil, or_false, false_or, or_true, true_or, true_and, and_true, false_and, and_false, not_true_eq_false, not_false_eq_true, if_true, if_false, nr_20, nr_24, nr_40, nr_41, nr_44, pt_lt, pt_ge, pt_eq, pt_ne, pt_gt, pt_le, pt_E, pt_N, pt_F, ite_10, ite_11, ne_eq, and_self, or_self, decide_true, decide_false, Bool.not_true, Bool.not_false, Bool.false_eq_true, Nat.reduceEqDiff, Nat.reduceAdd, Int.reduceEq, Int.reduceLT, Int.reduceLE, Int.reduceNeg, Int.reduceAdd, Int.reduceSub, Int.reduceMul, reduceCtorEq, iA, iS, iM, iD, iR, iN, lA, lS, lM, lD, lR, m1]
    refine ⟨by decide, fun k k0 k1 => ?_, h2, h3⟩
    rw [h1 k k0, if_pos (by omega)]
theorem m_keepAct (h : LMo S v M) (hq : 0 ≤ v M 58 ∧ v M 58 ≤ 12) {q d : Int} (hQ : q = if v M 58 = 12 then 11 else v M 58) (hD : d = if v M 58 = 12 then 1095 else 0) : wM mX12_keepAct [M] S v (fun _ w => (w M 58 = q + 1 ∧ w M 59 = 0) ∧ (∀ i, 0 ≤ i → i < 1095 * q → w (M + 36) i = v (M + 36) (i + d)) ∧ (∀ k, 0 ≤ k → k < 1095 → w (M + 36) (1095 * q + k) = v (M + 1) k) ∧ ∀ a k, (a = M → k ≠ 58 ∧ k ≠ 59) → a ≠ M + 36 → w a k = v a k) := by
  have n1 : ¬ M = M + 36 := by omega
  have n2 : ¬ M + 1 = M + 36 := by omega
  -- the second loop, from any memory that the first leaves
  have second : ∀ u : QV, Kp S v u → u M 58 = q → (∀ k, u (M + 1) k = v (M + 1) k) → (∀ i, 0 ≤ i → i < 1095 * q → u (M + 36) i = v (M + 36) (i + d)) → (∀ a k, (a = M → k ≠ 58 ∧ k ≠ 59) → a ≠ M + 36 → u a k = v a k) → ∀ L : QL, L 0 = M → L 1 = 0 → wS (sWhile cX12_keepAct_2 bX12_keepAct_2 uX12_keepAct_2) L S u (fun k _ L w => k = 0 ∧ L 0 = M ∧ w M 58 = q ∧ (∀ i, 0 ≤ i → i < 1095 * q → w (M + 36) i = v (M + 36) (i + d)) ∧ (∀ k, 0 ≤ k → k < 1095 → w (M + 36) (1095 * q + k) = v (M + 1) k) ∧ (∀ a k, (a = M → k ≠ 58 ∧ k ≠ 59) → a ≠ M + 36 → w a k = v a k) ∧ Kp S v w) := by
    intro u hk hu h1 h2 h3 L l0 l1
    have hq12 : 0 ≤ q ∧ q ≤ 11 := by rw [hQ]; split <;> omega
    refine wS_For 1095 (fun j L w => (L 0 = M ∧ L 1 = j) ∧ w M 58 = q ∧ (∀ i, 0 ≤ i → i < 1095 * q → w (M + 36) i = v (M + 36) (i + d)) ∧ (∀ k : Int, 0 ≤ k → k < j → w (M + 36) (1095 * q + k) = v (M + 1) k) ∧ (∀ a k, (a = M → k ≠ 58 ∧ k ≠ 59) → a ≠ M + 36 → w a k = v a k) ∧ Kp S v w) (by decide) ?_ ?_ ?_
    · exact ⟨⟨l0, l1⟩, hu, h2, fun k k0 k1 => by omega, h3, hk⟩
    · rintro j L w hj ⟨⟨m0, m1⟩, hw58, f1, f2, f3, hk⟩
      have hw := h.keep hk
      have e1 : w32 (w32 (1095 * q) + (j : Int)) = 1095 * q + j := by rw [w32_e (z := 1095 * q) (by omega)]; exact w32_e (by omega)
      have o1 : 0 ≤ 1095 * q + (j : Int) ∧ 1095 * q + (j : Int) < 14235 := by clear e1; omega
      have o2 : 0 ≤ (j : Int) ∧ (j : Int) < 1095 := by clear e1; omega
      have g1 : w (M + 1) j = v (M + 1) j := f3 _ _ (by clear e1; omega) n2
      simp only [cX12_keepAct_2, bX12_keepAct_2, uX12_keepAct_2, wE_I, wE_V, wE_F, wE_A, wE_N, wE_1, wE_2, wE_D, wE_B, wE_If, wE_C, wE_CV, wE_SL, wE_SA, wA_0, wA_1, wC_B, wC_E, wC_And, wC_Or, wC_Not, wS_Skip, wS_Brk, wS_Cnt, wS_RetV, wS_Ret, wS_Seq, wS_Set, wS_Inc, wS_Do, wS_Put, wS_PutC, wS_Arr, wS_ArrC, wS_If, wS_Sw, wS_F0, wS_F1, wM_q, lu_ap, aL_ap, ct_0, ct_1, ct_2, ct_3, ct_4, ct_5, headD_1, List.mem_cons, List.not_mem_nil, or_false, false_or, or_true, true_or, true_and, and_true, false_and, and_false, not_true_eq_false, not_false_eq_true, if_true, if_false, nr_20, nr_24, nr_40, nr_41, nr_44, pt_lt, pt_ge, pt_eq, pt_ne, pt_gt, pt_le, pt_E, pt_N, pt_F, ite_10, ite_11, ne_eq, and_self, or_self, decide_true, decide_false, Bool.not_true, Bool.not_false, Bool.false_eq_true, Nat.reduceEqDiff, Nat.reduceAdd, Int.reduceEq, Int.reduceLT, Int.reduceLE, Int.reduceNeg, Int.reduceAdd, Int.reduceSub, Int.reduceMul, reduceCtorEq, iA, iS, iM, iD, iR, iN, lA, lS, lM, lD, lR, m0, m1, hw.k, hw.p0, hw.a1, hw.n1, hw.p55, hw.a36, hw.n36, hw58, e1, o1, o2, g1, w32_S (show j < 1000000 by clear e1; omega)]
      clear e1
      refine ⟨by rw [vu_ne (fun z => n1 z.1)]; exact hw58, fun i i0 i1 => by rw [vu_ne (by omega)]; exact f1 i i0 i1, fun k k0 k1 => ?_, fun a k ha hb => by rw [vu_ne (fun z => hb z.1)]; exact f3 a k ha hb, fun a k c1 c2 => (Km.vu (S := S) (v := w) Km.rf (by rw [hw.a36]; rfl) a k c2).trans (hk a k c1 c2)⟩
      rw [vu_ap]
      by_cases e : k = j
      · rw [if_pos ⟨rfl, by omega⟩, e]
      · rw [if_neg (fun z => e (by omega))]
        exact f2 k k0 (by omega)
    · rintro L w ⟨⟨m0, m1⟩, hw58, f1, f2, f3, hk⟩
      simp only [cX12_keepAct_2, wE_I, wE_V, wE_F, wE_A, wE_N, wE_1, wE_2, wE_D, wE_B, wE_If, wE_C, wE_CV, wE_SL, wE_SA, wA_0, wA_1, wC_B, wC_E, wC_And, wC_Or, wC_Not, wS_Skip, wS_Brk, wS_Cnt, wS_RetV, wS_Ret, wS_Seq, wS_Set, wS_Inc, wS_Do, wS_Put, wS_PutC, wS_Arr, wS_ArrC, wS_If, wS_Sw, wS_F0, wS_F1, wM_q, lu_ap, aL_ap, ct_0, ct_1, ct_2, ct_3, ct_4, ct_5, headD_1, List.mem_cons, List.not_mem_nil, or_false, false_or, or_true, true_or, true_and, and_true, false_and, and_false, not_true_eq_false, not_false_eq_true, if_true, if_false, nr_20, nr_24, nr_40, nr_41, nr_44, pt_lt, pt_ge, pt_eq, pt_ne, pt_gt, pt_le, pt_E, pt_N, pt_F, ite_10, ite_11, ne_eq, and_self, or_self, decide_true, decide_false, Bool.not_true, Bool.not_false, Bool.false_eq_true, Nat.reduceEqDiff, Nat.reduceAdd, Int.reduceEq, Int.reduceLT, Int.reduceLE, Int.reduceNeg, Int.reduceAdd, Int.reduceSub, Int.reduceMul, reduceCtorEq, iA, iS, iM, iD, iR, iN, lA, lS, lM, lD, lR, m1]
      exact ⟨by decide, m0, hw58, f1, f2, f3, hk⟩
  have fin : ∀ w : QV, Kp S v w → w M 58 = q → (∀ i, 0 ≤ i → i < 1095 * q → w (M + 36) i = v (M + 36) (i + d)) → (∀ k, 0 ≤ k → k < 1095 → w (M + 36) (1095 * q + k) = v (M + 1) k) → (∀ a k, (a = M → k ≠ 58 ∧ k ≠ 59) → a ≠ M + 36 → w a k = v a k) → S.1 M = 13 ∧ (vu (vu w M 58 (w32 (q + 1))) M 59 0 M 58 = q + 1 ∧ vu (vu w M 58 (w32 (q + 1))) M 59 0 M 59 = 0) ∧ (∀ i, 0 ≤ i → i < 1095 * q → vu (vu w M 58 (w32 (q + 1))) M 59 0 (M + 36) i = v (M + 36) (i + d)) ∧ (∀ k, 0 ≤ k → k < 1095 → vu (vu w M 58 (w32 (q + 1))) M 59 0 (M + 36) (1095 * q + k) = v (M + 1) k) ∧ ∀ a k, (a = M → k ≠ 58 ∧ k ≠ 59) → a ≠ M + 36 → vu (vu w M 58 (w32 (q + 1))) M 59 0 a k = v a k := by
    intro w _ _ f1 f2 f3
    have hq12 : 0 ≤ q ∧ q ≤ 11 := by rw [hQ]; split <;> omega
    refine ⟨h.k, ⟨?_, vu_is⟩, fun i i0 i1 => ?_, fun k k0 k1 => ?_, fun a k ha hb => ?_⟩
    · rw [vu_ne (by omega), vu_is]; exact w32_e (by omega)
    · rw [vu_ne (by omega), vu_ne (by omega)]; exact f1 i i0 i1
    · rw [vu_ne (by omega), vu_ne (by omega)]; exact f2 k k0 k1
    · rw [vu_ne (fun z => (ha z.1).2 z.2), vu_ne (fun z => (ha z.1).1 z.2)]; exact f3 a k ha hb
  by_cases h12 : v M 58 = 12
  · rw [if_pos h12] at hQ hD
    simp only [mX12_keepAct, sX12_keepAct, wE_I, wE_V, wE_F, wE_A, wE_N, wE_1, wE_2, wE_D, wE_B, wE_If, wE_C, wE_CV, wE_SL, wE_SA, wA_0, wA_1, wC_B, wC_E, wC_And, wC_Or, wC_Not, wS_Skip, wS_Brk, wS_Cnt, wS_RetV, wS_Ret, wS_Seq, wS_Set, wS_Inc, wS_Do, wS_Put, wS_PutC, wS_Arr, wS_ArrC, wS_If, wS_Sw, wS_F0, wS_F1, wM_q, lu_ap, aL_ap, ct_0, ct_1, ct_2, ct_3, ct_4, ct_5, headD_1, List.mem_cons, List.not_mem_nil, or_false, false_or, or_true, true_or, true_and, and_true, false_and, and_false, not_true_eq_false, not_false_eq_true, if_true, if_false, nr_20, nr_24, nr_40, nr_41, nr_44, pt_lt, pt_ge, pt_eq, pt_ne, pt_gt, pt_le, pt_E, pt_N, pt_F, ite_10, ite_11, ne_eq, and_self, or_self, decide_true, decide_false, Bool.not_true, Bool.not_false, Bool.false_eq_true, Nat.reduceEqDiff, Nat.reduceAdd, Int.reduceEq, Int.reduceLT, Int.reduceLE, Int.reduceNeg, Int.reduceAdd, Int.reduceSub, Int.reduceMul, reduceCtorEq, iA, iS, iM, iD, iR, iN, lA, lS, lM, lD, lR, h.k, h12]
    refine wS_For 13140 (fun j L w => (L 0 = M ∧ L 1 = j) ∧ (∀ i, w (M + 36) i = if 0 ≤ i ∧ i < j then v (M + 36) (i + 1095) else v (M + 36) i) ∧ (∀ a k, a ≠ M + 36 → w a k = v a k) ∧ Kp S v w) (by decide) ?_ ?_ ?_
    · refine ⟨by simp [lu_ap, aL_ap, ct_0, ct_2], fun i => (if_neg (by omega)).symm, fun _ _ _ => rfl, Kp.rf⟩
    · rintro j L w hj ⟨⟨m0, m1⟩, h1, h2, hk⟩
      have hw := h.keep hk
      have e1 : w32 ((j : Int) + 1095) = j + 1095 := w32_e (by omega)
      have o1 : 0 ≤ (j : Int) + 1095 ∧ (j : Int) + 1095 < 14235 := by clear e1; omega
      have o2 : 0 ≤ (j : Int) ∧ (j : Int) < 14235 := by clear e1; omega
      have o3 : (j : Int) < 13140 := by clear e1; omega
      have g1 : w (M + 36) ((j : Int) + 1095) = v (M + 36) (j + 1095) := by clear e1; rw [h1, if_neg (by omega)]
      simp only [cX12_keepAct_1, bX12_keepAct_1, uX12_keepAct_1, wE_I, wE_V, wE_F, wE_A, wE_N, wE_1, wE_2, wE_D, wE_B, wE_If, wE_C, wE_CV, wE_SL, wE_SA, wA_0, wA_1, wC_B, wC_E, wC_And, wC_Or, wC_Not, wS_Skip, wS_Brk, wS_Cnt, wS_RetV, wS_Ret, wS_Seq, wS_Set, wS_Inc, wS_Do, wS_Put, wS_PutC, wS_Arr, wS_ArrC, wS_If, wS_Sw, wS_F0, wS_F1, wM_q, lu_ap, aL_ap, ct_0, ct_1, ct_2, ct_3, ct_4, ct_5, headD_1, List.mem_cons, List.not_mem_nil, or_false, false_or, or_true, true_or, true_and, and_true, false_and, and_false, not_true_eq_false, not_false_eq_true, if_true, if_false, nr_20, nr_24, nr_40, nr_41, nr_44, pt_lt, pt_ge, pt_eq, pt_ne, pt_gt, pt_le, pt_E, pt_N, pt_F, ite_10, ite_11, ne_eq, and_self, or_self, decide_true, decide_false, Bool.not_true, Bool.not_false, Bool.false_eq_true, Nat.reduceEqDiff, Nat.reduceAdd, Int.reduceEq, Int.reduceLT, Int.reduceLE, Int.reduceNeg, Int.reduceAdd, Int.reduceSub, Int.reduceMul, reduceCtorEq, iA, iS, iM, iD, iR, iN, lA, lS, lM, lD, lR, m0, m1, hw.k, hw.p55, hw.a36, hw.n36, e1, o1, o2, o3, g1, w32_S (show j < 1000000 by clear e1; omega)]
      clear e1
      refine ⟨fun i => ?_, fun a k hb => by rw [vu_ne (fun z => hb z.1)]; exact h2 a k hb, fun a k c1 c2 => (Km.vu (S := S) (v := w) Km.rf (by rw [hw.a36]; rfl) a k c2).trans (hk a k c1 c2)⟩
      rw [vu_ap]
      by_cases e : i = j
      · rw [if_pos ⟨rfl, e⟩, if_pos (by omega), e]
      · rw [if_neg (fun z => e z.2), h1]
        by_cases e2 : 0 ≤ i ∧ i < j
        · rw [if_pos e2, if_pos (by omega)]
        · rw [if_neg e2, if_neg (by omega)]
    · rintro L w ⟨⟨m0, m1⟩, h1, h2, hk⟩
      have hw := h.keep hk
      have e58 : w M 58 = 12 := (h2 _ _ n1).trans h12
      have e11 : w32 11 = q := by rw [hQ]; decide
      simp only [cX12_keepAct_1, wE_I, wE_V, wE_F, wE_A, wE_N, wE_1, wE_2, wE_D, wE_B, wE_If, wE_C, wE_CV, wE_SL, wE_SA, wA_0, wA_1, wC_B, wC_E, wC_And, wC_Or, wC_Not, wS_Skip, wS_Brk, wS_Cnt, wS_RetV, wS_Ret, wS_Seq, wS_Set, wS_Inc, wS_Do, wS_Put, wS_PutC, wS_Arr, wS_ArrC, wS_If, wS_Sw, wS_F0, wS_F1, wM_q, lu_ap, aL_ap, ct_0, ct_1, ct_2, ct_3, ct_4, ct_5, headD_1, List.mem_cons, List.not_mem_nil, or_false, false_or, or_true, true_or, true_and, and_true, false_and, and_false, not_true_eq_false, not_false_eq_true, if_true, if_false, nr_20, nr_24, nr_40, nr_41, nr_44, pt_lt, pt_ge, pt_eq, pt_ne, pt_gt, pt_le, pt_E, pt_N, pt_F, ite_10, ite_11, ne_eq, and_self, or_self, decide_true, decide_false, Bool.not_true, Bool.not_false, Bool.false_eq_true, Nat.reduceEqDiff, Nat.reduceAdd, Int.reduceEq, Int.reduceLT, Int.reduceLE, Int.reduceNeg, Int.reduceAdd, Int.reduceSub, Int.reduceMul, reduceCtorEq, iA, iS, iM, iD, iR, iN, lA, lS, lM, lD, lR, m0, m1, hw.k, e58]
      refine ⟨by decide, ?_⟩
      rw [e11]
      have hk2 : Kp S v (vu w M 58 q) := fun a k c1 c2 => (Km.vu (S := S) (v := w) Km.rf (by rw [hw.k]; rfl) a k c2).trans (hk a k c1 c2)
      refine wS_mono (second (vu w M 58 q) hk2 vu_is (fun k => by rw [vu_ne (by omega)]; exact h2 _ _ n2) (fun i i0 i1 => by rw [vu_ne (by omega), h1, if_pos (by omega), hD]) (fun a k ha hb => by rw [vu_ne (fun z => (ha z.1).1 z.2)]; exact h2 a k hb) _ (by simp [lu_ap, m0]) (by simp [lu_ap])) ?_
      rintro k z L u ⟨rfl, l0, f0, f1, f2, f3, fk⟩
      have := fin u fk f0 f1 f2 f3
      simp only [wE_I, wE_V, wE_F, wE_A, wE_N, wE_1, wE_2, wE_D, wE_B, wE_If, wE_C, wE_CV, wE_SL, wE_SA, wA_0, wA_1, wC_B, wC_E, wC_And, wC_Or, wC_Not, wS_Skip, wS_Brk, wS_Cnt, wS_RetV, wS_Ret, wS_Seq, wS_Set, wS_Inc, wS_Do, wS_Put, wS_PutC, wS_Arr, wS_ArrC, wS_If, wS_Sw, wS_F0, wS_F1, wM_q, lu_ap, aL_ap, ct_0, ct_1, ct_2, ct_3, ct_4, ct_5, headD_1, List.mem_cons, List.not_mem_nil, or_false, false_or, or_true, true_or, true_and, and_true, false_and, and_false, not_true_eq_false, not_false_eq_true, if_true, if_false, nr_20, nr_24, nr_40, nr_41, nr_44, pt_lt, pt_ge, pt_eq, pt_ne, pt_gt, pt_le, pt_E, pt_N, pt_F, ite_10, ite_11, ne_eq, and_self, or_self, decide_true, decide_false, Bool.not_true, Bool.not_false, Bool.false_eq_true, Nat.reduceEqDiff, Nat.reduceAdd, Int.reduceEq, Int.reduceLT, Int.reduceLE, Int.reduceNeg, Int.reduceAdd, Int.reduceSub, Int.reduceMul, reduceCtorEq, iA, iS, iM, iD, iR, iN, lA, lS, lM, lD, lR, l0, f0, this.1] at this ⊢
      exact this
  · rw [if_neg h12] at hQ hD
    simp only [mX12_keepAct, sX12_keepAct, wE_I, wE_V, wE_F, wE_A, wE_N, wE_1, wE_2, wE_D, wE_B, wE_If, wE_C, wE_CV, wE_SL, wE_SA, wA_0, wA_1, wC_B, wC_E, wC_And, wC_Or, wC_Not, wS_Skip, wS_Brk, wS_Cnt, wS_RetV, wS_Ret, wS_Seq, wS_Set, wS_Inc, wS_Do, wS_Put, wS_PutC, wS_Arr, wS_ArrC, wS_If, wS_Sw, wS_F0, wS_F1, wM_q, lu_ap, aL_ap, ct_0, ct_1, ct_2, ct_3, ct_4, ct_5, headD_1, List.mem_cons, List.not_mem_nil, or_false, false_or, or_true, true_or, true_and, and_true, false_and, and_false, not_true_eq_false, not_false_eq_true, if_true, if_false, nr_20, nr_24, nr_40, nr_41, nr_44, pt_lt, pt_ge, pt_eq, pt_ne, pt_gt, pt_le, pt_E, pt_N, pt_F, ite_10, ite_11, ne_eq, and_self, or_self, decide_true, decide_false, Bool.not_true, Bool.not_false, Bool.false_eq_true, Nat.reduceEqDiff, Nat.reduceAdd, Int.reduceEq, Int.reduceLT, Int.reduceLE, Int.reduceNeg, Int.reduceAdd, Int.reduceSub, Int.reduceMul, reduceCtorEq, iA, iS, iM, iD, iR, iN, lA, lS, lM, lD, lR, h.k, h12]
    refine wS_mono (second v Kp.rf hQ.symm (fun _ => rfl) (fun i _ _ => by rw [hD, Int.add_zero]) (fun _ _ _ _ => rfl) _ (by simp [lu_ap, aL_ap]) (by simp [lu_ap])) ?_
    rintro k z L u ⟨rfl, l0, f0, f1, f2, f3, fk⟩
    have := fin u fk f0 f1 f2 f3
    simp only [wE_I, wE_V, wE_F, wE_A, wE_N, wE_1, wE_2, wE_D, wE_B, wE_If, wE_C, wE_CV, wE_SL, wE_SA, wA_0, wA_1, wC_B, wC_E, wC_And, wC_Or, wC_Not, wS_Skip, wS_Brk, wS_Cnt, wS_RetV, wS_Ret, wS_Seq, wS_Set, wS_Inc, wS_Do, wS_Put, wS_PutC, wS_Arr, wS_ArrC, wS_If, wS_Sw, wS_F0, wS_F1, wM_q, lu_ap, aL_ap, ct_0, ct_1, ct_2, ct_3, ct_4, ct_5, headD_1, List.mem_cons, List.not_mem_nil, or_false, false_or, or_true, true_or, true_and, and_true, false_and, and_false, not_true_eq_false, not_false_eq_true, if_true, if_false, nr_20, nr_24, nr_40, nr_41, nr_44, pt_lt, pt_ge, pt_eq, pt_ne, pt_gt, pt_le, pt_E, pt_N, pt_F, ite_10, ite_11, ne_eq, and_self, or_self, decide_true, decide_false, Bool.not_true, Bool.not_false, Bool.false_eq_true, Nat.reduceEqDiff, Nat.reduceAdd, Int.reduceEq, Int.reduceLT, Int.reduceLE, Int.reduceNeg, Int.reduceAdd, Int.reduceSub, Int.reduceMul, reduceCtorEq, iA, iS, iM, iD, iR, iN, lA, lS, lM, lD, lR, l0, f0, this.1] at this ⊢
    exact this
theorem m_image (h : LMo S v M) {x : Int} (hx : 0 ≤ x ∧ x ≤ 1) : wM mX12_image [M, x] S v (fun r w => r = w32 (v (M + 1) 0) ∧ (∀ i, w (M + 37) i = if 1095 * x ≤ i ∧ i < 1095 * x + 1095 then v (M + 1) (i - 1095 * x) else v (M + 37) i) ∧ (∀ y, w (M + 38) y = if y = x then 1 else v (M + 38) y) ∧ ∀ a k, a ≠ M + 37 → a ≠ M + 38 → w a k = v a k) := by
  have n1 : ¬ M = M + 37 := by omega
  have n2 : ¬ M + 1 = M + 37 := by omega
  have n3 : ¬ M + 1 = M + 38 := by omega
  have n4 : ¬ M = M + 38 := by omega
  simp only [mX12_image, sX12_image, wE_I, wE_V, wE_F, wE_A, wE_N, wE_1, wE_2, wE_D, wE_B, wE_If, wE_C, wE_CV, wE_SL, wE_SA, wA_0, wA_1, wC_B, wC_E, wC_And, wC_Or, wC_Not, wS_Skip, wS_Brk, wS_Cnt, wS_RetV, wS_Ret, wS_Seq, wS_Set, wS_Inc, wS_Do, wS_Put, wS_PutC, wS_Arr, wS_ArrC, wS_If, wS_Sw, wS_F0, wS_F1, wM_q, lu_ap, aL_ap, ct_0, ct_1, ct_2, ct_3, ct_4, ct_5, headD_1, List.mem_cons, List.not_mem_nil, or_false, false_or, or_true, true_or, true_and, and_true, false_and, and_false, not_true_eq_false, not_false_eq_true, if_true, if_false, nr_20, nr_24, nr_40, nr_41, nr_44, pt_lt, pt_ge, pt_eq, pt_ne, pt_gt, pt_le, pt_E, pt_N, pt_F, ite_10, ite_11, ne_eq, and_self, or_self, decide_true, decide_false, Bool.not_true, Bool.not_false, Bool.false_eq_true, Nat.reduceEqDiff, Nat.reduceAdd, Int.reduceEq, Int.reduceLT, Int.reduceLE, Int.reduceNeg, Int.reduceAdd, Int.reduceSub, Int.reduceMul, reduceCtorEq, iA, iS, iM, iD, iR, iN, lA, lS, lM, lD, lR, wM_of m_isIn, hx]
  refine wS_For 1095 (fun j L w => (L 0 = M ∧ L 1 = x ∧ L 2 = j) ∧ (∀ i, w (M + 37) i = if 1095 * x ≤ i ∧ i < 1095 * x + j then v (M + 1) (i - 1095 * x) else v (M + 37) i) ∧ (∀ a k, a ≠ M + 37 → w a k = v a k) ∧ Kp S v w) (by decide) ?_ ?_ ?_
  · refine ⟨by simp [lu_ap, aL_ap, ct_0, ct_2], fun i => (if_neg (by omega)).symm, fun _ _ _ => rfl, Kp.rf⟩
  · rintro j L w hj ⟨⟨m0, m1, m2⟩, h2, h3, hk⟩
    have hw := h.keep hk
    have e1 : w32 (w32 (1095 * x) + (j : Int)) = 1095 * x + j := by rw [w32_e (z := 1095 * x) (by omega)]; exact w32_e (by omega)
    have o1 : 0 ≤ 1095 * x + (j : Int) ∧ 1095 * x + (j : Int) < 2190 := by clear e1; omega
    have o2 : 0 ≤ (j : Int) ∧ (j : Int) < 1095 := by clear e1; omega
    have g1 : w (M + 1) j = v (M + 1) j := h3 _ _ n2
    simp only [cX12_image_1, bX12_image_1, uX12_image_1, wE_I, wE_V, wE_F, wE_A, wE_N, wE_1, wE_2, wE_D, wE_B, wE_If, wE_C, wE_CV, wE_SL, wE_SA, wA_0, wA_1, wC_B, wC_E, wC_And, wC_Or, wC_Not, wS_Skip, wS_Brk, wS_Cnt, wS_RetV, wS_Ret, wS_Seq, wS_Set, wS_Inc, wS_Do, wS_Put, wS_PutC, wS_Arr, wS_ArrC, wS_If, wS_Sw, wS_F0, wS_F1, wM_q, lu_ap, aL_ap, ct_0, ct_1, ct_2, ct_3, ct_4, ct_5, headD_1, List.mem_cons, List.not_mem_nil, or_false, false_or, or_true, true_or, true_and, and_true, false_and, and_false, not_true_eq_false, not_false_eq_true, if_true, if_false, nr_20, nr_24, nr_40, nr_41, nr_44, pt_lt, pt_ge, pt_eq, pt_ne, pt_gt, pt_le, pt_E, pt_N, pt_F, ite_10, ite_11, ne_eq, and_self, or_self, decide_true, decide_false, Bool.not_true, Bool.not_false, Bool.false_eq_true, Nat.reduceEqDiff, Nat.reduceAdd, Int.reduceEq, Int.reduceLT, Int.reduceLE, Int.reduceNeg, Int.reduceAdd, Int.reduceSub, Int.reduceMul, reduceCtorEq, iA, iS, iM, iD, iR, iN, lA, lS, lM, lD, lR, m0, m1, m2, hw.k, hw.p0, hw.a1, hw.n1, hw.p56, hw.a37, hw.n37, e1, o1, o2, g1, w32_S (show j < 1000000 by clear e1; omega)]
    clear e1
    refine ⟨fun i => ?_, fun a k hb => by rw [vu_ne (fun z => hb z.1)]; exact h3 a k hb, fun a k c1 c2 => (Km.vu (S := S) (v := w) Km.rf (by rw [hw.a37]; rfl) a k c2).trans (hk a k c1 c2)⟩
    rw [vu_ap]
    by_cases e : i = 1095 * x + j
    · rw [if_pos ⟨rfl, e⟩, if_pos (by omega), e]
      congr 1
      omega
    · rw [if_neg (fun z => e z.2), h2]
      by_cases e2 : 1095 * x ≤ i ∧ i < 1095 * x + j
      · rw [if_pos e2, if_pos (by omega)]
      · rw [if_neg e2, if_neg (by omega)]
  · rintro L w ⟨⟨m0, m1, m2⟩, h2, h3, hk⟩
    have hw := h.keep hk
    have o1 : 0 ≤ x ∧ x < 2 := by omega
    have g1 : w (M + 1) 0 = v (M + 1) 0 := h3 _ _ n2
    simp only [cX12_image_1, wE_I, wE_V, wE_F, wE_A, wE_N, wE_1, wE_2, wE_D, wE_B, wE_If, wE_C, wE_CV, wE_SL, wE_SA, wA_0, wA_1, wC_B, wC_E, wC_And, wC_Or, wC_Not, wS_Skip, wS_Brk, wS_Cnt, wS_RetV, wS_Ret, wS_Seq, wS_Set, wS_Inc, wS_Do, wS_Put, wS_PutC, wS_Arr, wS_ArrC, wS_If, wS_Sw, wS_F0, wS_F1, wM_q, lu_ap, aL_ap, ct_0, ct_1, ct_2, ct_3, ct_4, ct_5, headD_1, List.mem_cons, List.not_mem_nil, or_false, false_or, or_true, true_or, true_and, and_true, false_and, and_false, not_true_eq_false, not_false_eq_true, if_true, if_false, nr_20, nr_24, nr_40, nr_41, nr_44, pt_lt, pt_ge, pt_eq, pt_ne, pt_gt, pt_le, pt_E, pt_N, pt_F, ite_10, ite_11, ne_eq, and_self, or_self, decide_true, decide_false, Bool.not_true, Bool.not_false, Bool.false_eq_true, Nat.reduceEqDiff, Nat.reduceAdd, Int.reduceEq, Int.reduceLT, Int.reduceLE, Int.reduceNeg, Int.reduceAdd, Int.reduceSub, Int.reduceMul, reduceCtorEq, iA, iS, iM, iD, iR, iN, lA, lS, lM, lD, lR, m0, m1, m2, hw.k, hw.p0, hw.a1, hw.n1, hw.p57, hw.a38, hw.n38, o1, n3, n4, vu_ne, g1]
    refine ⟨by decide, fun i => by rw [vu_ne (by omega)]; exact h2 i, fun y => ?_, fun a k ha hb => by rw [vu_ne (fun z => hb z.1)]; exact h3 a k ha⟩
    rw [vu_ap]
    by_cases e : y = x
    · rw [if_pos ⟨rfl, e⟩, if_pos e]; rfl
    · rw [if_neg (fun z => e z.2), if_neg e]
      exact h3 _ _ (by omega)
theorem m_back (h : LMo S v M) {x : Int} (hx : 0 ≤ x ∧ x ≤ 1) (hb : ¬ v (M + 38) x = 0) : wM mX12_back [M, x] S v (fun r w => r = w32 (v (M + 37) (1095 * x)) ∧ (∀ k, 0 ≤ k → k < 1095 → w (M + 1) k = v (M + 37) (1095 * x + k)) ∧ (w M 58 = 0 ∧ w M 59 = 0) ∧ ∀ a k, (a = M → k ≠ 58 ∧ k ≠ 59) → a ≠ M + 1 → w a k = v a k) := by
  have n1 : ¬ M = M + 1 := by omega
  have n2 : ¬ M + 37 = M + 1 := by omega
  have n3 : ¬ M + 1 = M := by omega
  have o1 : 0 ≤ x ∧ x < 2 := by omega
  simp only [mX12_back, sX12_back, wE_I, wE_V, wE_F, wE_A, wE_N, wE_1, wE_2, wE_D, wE_B, wE_If, wE_C, wE_CV, wE_SL, wE_SA, wA_0, wA_1, wC_B, wC_E, wC_And, wC_Or, wC_Not, wS_Skip, wS_Brk, wS_Cnt, wS_RetV, wS_Ret, wS_Seq, wS_Set, wS_Inc, wS_Do, wS_Put, wS_PutC, wS_Arr, wS_ArrC, wS_If, wS_Sw, wS_F0, wS_F1, wM_q, lu_ap, aL_ap, ct_0, ct_1, ct_2, ct_3, ct_4, ct_5, headD_1, List.mem_cons, List.not_mem_nil, or_false, false_or, or_true, true_or, true_and, and_true, false_and, and_false, not_true_eq_false, not_false_eq_true, if_true, if_false, nr_20, nr_24, nr_40, nr_41, nr_44, pt_lt, pt_ge, pt_eq, pt_ne, pt_gt, pt_le, pt_E, pt_N, pt_F, ite_10, ite_11, ne_eq, and_self, or_self, decide_true, decide_false, Bool.not_true, Bool.not_false, Bool.false_eq_true, Nat.reduceEqDiff, Nat.reduceAdd, Int.reduceEq, Int.reduceLT, Int.reduceLE, Int.reduceNeg, Int.reduceAdd, Int.reduceSub, Int.reduceMul, reduceCtorEq, iA, iS, iM, iD, iR, iN, lA, lS, lM, lD, lR, wM_of m_isIn, hx, h.k, h.p57, h.a38, h.n38, o1, hb]
  refine wS_For 1095 (fun j L w => (L 0 = M ∧ L 1 = x ∧ L 2 = j) ∧ (∀ k : Int, 0 ≤ k → k < j → w (M + 1) k = v (M + 37) (1095 * x + k)) ∧ (∀ a k, a ≠ M + 1 → w a k = v a k) ∧ Kp S v w) (by decide) ?_ ?_ ?_
  · refine ⟨by simp [lu_ap, aL_ap, ct_0, ct_2], fun k k0 k1 => by omega, fun _ _ _ => rfl, Kp.rf⟩
  · rintro j L w hj ⟨⟨m0, m1, m2⟩, h2, h3, hk⟩
    have hw := h.keep hk
    have e1 : w32 (w32 (1095 * x) + (j : Int)) = 1095 * x + j := by rw [w32_e (z := 1095 * x) (by omega)]; exact w32_e (by omega)
    have o1 : 0 ≤ 1095 * x + (j : Int) ∧ 1095 * x + (j : Int) < 2190 := by clear e1; omega
    have o2 : 0 ≤ (j : Int) ∧ (j : Int) < 1095 := by clear e1; omega
    have g1 : w (M + 37) (1095 * x + j) = v (M + 37) (1095 * x + j) := h3 _ _ n2
    simp only [cX12_back_1, bX12_back_1, uX12_back_1, wE_I, wE_V, wE_F, wE_A, wE_N, wE_1, wE_2, wE_D, wE_B, wE_If, wE_C, wE_CV, wE_SL, wE_SA, wA_0, wA_1, wC_B, wC_E, wC_And, wC_Or, wC_Not, wS_Skip, wS_Brk, wS_Cnt, wS_RetV, wS_Ret, wS_Seq, wS_Set, wS_Inc, wS_Do, wS_Put, wS_PutC, wS_Arr, wS_ArrC, wS_If, wS_Sw, wS_F0, wS_F1, wM_q, lu_ap, aL_ap, ct_0, ct_1, ct_2, ct_3, ct_4, ct_5, headD_1, List.mem_cons, List.not_mem_nil, or_false, false_or, or_true, true_or, true_and, and_true, false_and, and_false, not_true_eq_false, not_false_eq_true, if_true, if_false, nr_20, nr_24, nr_40, nr_41, nr_44, pt_lt, pt_ge, pt_eq, pt_ne, pt_gt, pt_le, pt_E, pt_N, pt_F, ite_10, ite_11, ne_eq, and_self, or_self, decide_true, decide_false, Bool.not_true, Bool.not_false, Bool.false_eq_true, Nat.reduceEqDiff, Nat.reduceAdd, Int.reduceEq, Int.reduceLT, Int.reduceLE, Int.reduceNeg, Int.reduceAdd, Int.reduceSub, Int.reduceMul, reduceCtorEq, iA, iS, iM, iD, iR, iN, lA, lS, lM, lD, lR, m0, m1, m2, hw.k, hw.p0, hw.a1, hw.n1, hw.p56, hw.a37, hw.n37, e1, o1, o2, g1, w32_S (show j < 1000000 by clear e1; omega)]
    clear e1
    refine ⟨fun k k0 k1 => ?_, fun a k hb => by rw [vu_ne (fun z => hb z.1)]; exact h3 a k hb, fun a k c1 c2 => (Km.vu (S := S) (v := w) Km.rf (by rw [hw.a1]; rfl) a k c2).trans (hk a k c1 c2)⟩
    rw [vu_ap]
    by_cases e : k = j
    · rw [if_pos ⟨rfl, e⟩, e]
    · rw [if_neg (fun z => e z.2)]
      exact h2 k k0 (by omega)
  · rintro L w ⟨⟨m0, m1, m2⟩, h2, h3, hk⟩
    have hw := h.keep hk
    have g0 : w (M + 1) 0 = v (M + 37) (1095 * x) := by rw [h2 0 (by decide) (by decide), Int.add_zero]
    have gp : vu (vu w M 58 0) M 59 0 M 0 = M + 1 := by rw [vu_ne (by omega), vu_ne (by omega)]; exact hw.p0
    have gq : vu (vu w M 58 0) M 59 0 (M + 1) 0 = v (M + 37) (1095 * x) := by rw [vu_ne (by omega), vu_ne (by omega)]; exact g0
    simp only [cX12_back_1, wE_I, wE_V, wE_F, wE_A, wE_N, wE_1, wE_2, wE_D, wE_B, wE_If, wE_C, wE_CV, wE_SL, wE_SA, wA_0, wA_1, wC_B, wC_E, wC_And, wC_Or, wC_Not, wS_Skip, wS_Brk, wS_Cnt, wS_RetV, wS_Ret, wS_Seq, wS_Set, wS_Inc, wS_Do, wS_Put, wS_PutC, wS_Arr, wS_ArrC, wS_If, wS_Sw, wS_F0, wS_F1, wM_q, lu_ap, aL_ap, ct_0, ct_1, ct_2, ct_3, ct_4, ct_5, headD_1, List.mem_cons, List.not_mem_nil, or_false, false_or, or_true, true_or, true_and, and_true, false_and, and_false, not_true_eq_false, not_false_eq_true, if_true, if_false, nr_20, nr_24, nr_40, nr_41, nr_44, pt_lt, pt_ge, pt_eq, pt_ne, pt_gt, pt_le, pt_E, pt_N, pt_F, ite_10, ite_11, ne_eq, and_self, or_self, decide_true, decide_false, Bool.not_true, Bool.not_false, Bool.false_eq_true, Nat.reduceEqDiff, Nat.reduceAdd, Int.reduceEq, Int.reduceLT, Int.reduceLE, Int.reduceNeg, Int.reduceAdd, Int.reduceSub, Int.reduceMul, reduceCtorEq, iA, iS, iM, iD, iR, iN, lA, lS, lM, lD, lR, m0, m1, m2, hw.k, hw.a1, hw.n1, gp, gq]
    refine ⟨by decide, fun k k0 k1 => by rw [vu_ne (by omega), vu_ne (by omega)]; exact h2 k k0 (by omega), ⟨by rw [vu_ne (by omega)]; exact vu_is, vu_is⟩, fun a k ha hb => ?_⟩
    rw [vu_ne (fun z => (ha z.1).2 z.2), vu_ne (fun z => (ha z.1).1 z.2)]
    exact h3 a k hb
end AM
