/-! WOULD: both -/
theorem vlV_tv {stp sm kn : Int} (hk : 0 ≤ kn ∧ kn ≤ stp) (hs : 1 ≤ stp) (hm : 0 ≤ sm ∧ sm ≤ 999999000 * kn) : tv (vlV stp sm kn) := by
  unfold vlV tv
  split
  · have p : 0 < kn := by omega
    exact Or.inr ⟨Int.ediv_nonneg hm.1 (Int.le_of_lt p), Int.ediv_le_of_le_mul p hm.2⟩
  · exact Or.inl rfl
theorem tv_32 {x : Int} (h : tv x) : w32 x = x := by
  unfold tv at h
  exact w32_e (by omega)
section GW
variable {S : QS} {v w : QV} {b M P B s : Int} {f F : Int → Int}
theorem m_aside (h : LMo S v M) {L : QL} (m0 : L 0 = M) : wS (sSeq (sSet 5 (eI 0)) (sWhile cX12_would_1 bX12_would_1 uX12_would_1)) L S v (fun k _ L' w => k = 0 ∧ (∀ i, i ≠ 5 → L' i = L i) ∧ Km S v w ∧ (∀ k, 0 ≤ k → k < 1095 → w (M + 35) k = v (M + 1) k) ∧ ∀ a k, a ≠ M + 35 → w a k = v a k) := by
  simp only [wE_I, wE_V, wE_F, wE_A, wE_N, wE_1, wE_2, wE_D, wE_B, wE_If, wE_C, wE_CV, wE_SL, wE_SA, wA_0, wA_1, wC_B, wC_E, wC_And, wC_Or, wC_Not, wS_Skip, wS_Brk, wS_Cnt, wS_RetV, wS_Ret, wS_Seq, wS_Set, wS_Inc, wS_Do, wS_Put, wS_PutC, wS_Arr, wS_ArrC, wS_If, wS_Sw, wS_F0, wS_F1, wM_q, lu_ap, aL_ap, ct_0, ct_1, ct_2, ct_3, ct_4, ct_5, headD_1, List.mem_cons, List.not_mem_nil, or_false, false_or, or_true, true_or, true_and, and_true, false_and, and_false, not_true_eq_false, not_false_eq_true, if_true, if_false, nr_20, nr_24, nr_40, nr_41, nr_44, pt_lt, pt_ge, pt_eq, pt_ne, pt_gt, pt_le, pt_E, pt_N, pt_F, ite_10, ite_11, ne_eq, and_self, or_self, decide_true, decide_false, Bool.not_true, Bool.not_false, Bool.false_eq_true, Nat.reduceEqDiff, Nat.reduceAdd, Int.reduceEq, Int.reduceLT, Int.reduceLE, Int.reduceNeg, Int.reduceAdd, Int.reduceSub, Int.reduceMul, reduceCtorEq, iA, iS, iM, iD, iR, iN, lA, lS, lM, lD, lR]
  refine wS_For 1095 (fun j L' w => ((∀ i, i ≠ 5 → L' i = L i) ∧ L' 5 = j) ∧ Km S v w ∧ (∀ k, 0 ≤ k → k < (j : Int) → w (M + 35) k = v (M + 1) k) ∧ ∀ a k, a ≠ M + 35 → w a k = v a k) (by decide) ?_ ?_ ?_
  · exact ⟨⟨fun i hi => by simp [lu_ap, hi], by simp [lu_ap]⟩, Km.rf, fun k k0 k1 => by omega, fun _ _ _ => rfl⟩
  · rintro j L' w hj ⟨⟨lf, l5⟩, hk, hd, hf⟩
    have hw := h.keep hk.p
    have hj5 : (j : Int) < 1095 := by omega
    have hjr : 0 ≤ (j : Int) ∧ (j : Int) < 1095 := by omega
    have l0 : L' 0 = M := by rw [lf 0 (by decide)]; exact m0
    have e1 : w32 ((j : Int) + 1) = j + 1 := w32_e (by omega)
    have w1 : w (M + 1) j = v (M + 1) j := hf _ _ (by clear e1; omega)
    simp only [cX12_would_1, bX12_would_1, uX12_would_1, wE_I, wE_V, wE_F, wE_A, wE_N, wE_1, wE_2, wE_D, wE_B, wE_If, wE_C, wE_CV, wE_SL, wE_SA, wA_0, wA_1, wC_B, wC_E, wC_And, wC_Or, wC_Not, wS_Skip, wS_Brk, wS_Cnt, wS_RetV, wS_Ret, wS_Seq, wS_Set, wS_Inc, wS_Do, wS_Put, wS_PutC, wS_Arr, wS_ArrC, wS_If, wS_Sw, wS_F0, wS_F1, wM_q, lu_ap, aL_ap, ct_0, ct_1, ct_2, ct_3, ct_4, ct_5, headD_1, List.mem_cons, List.not_mem_nil, or_false, false_or, or_true, true_or, true_and, and_true, false_and, and_false, not_true_eq_false, not_false_eq_true, if_true, if_false, nr_20, nr_24, nr_40, nr_41, nr_44, pt_lt, pt_ge, pt_eq, pt_ne, pt_gt, pt_le, pt_E, pt_N, pt_F, ite_10, ite_11, ne_eq, and_self, or_self, decide_true, decide_false, Bool.not_true, Bool.not_false, Bool.false_eq_true, Nat.reduceEqDiff, Nat.reduceAdd, Int.reduceEq, Int.reduceLT, Int.reduceLE, Int.reduceNeg, Int.reduceAdd, Int.reduceSub, Int.reduceMul, reduceCtorEq, iA, iS, iM, iD, iR, iN, lA, lS, lM, lD, lR, l0, l5, hj5, h.k, hw.p54, h.a35, h.n35, hw.p0, h.a1, h.n1, hjr, w1, e1]
    clear e1
    refine ⟨⟨fun i hi => ?_, rfl⟩, hk.vu (by rw [h.a35]; rfl), fun k k0 k1 => ?_, fun a k ha => by rw [vu_ne (fun q => ha q.1)]; exact hf a k ha⟩
    · simp only [hi, if_false]
      exact lf i hi
    · by_cases e : k = j
      · rw [e, vu_is]
      · rw [vu_ne (fun q => e q.2)]; exact hd k k0 (by omega)
  · rintro L' w ⟨⟨lf, l5⟩, hk, hd, hf⟩
    have l52 : L' 5 = 1095 := by omega
    simp only [cX12_would_1, wE_I, wE_V, wE_F, wE_A, wE_N, wE_1, wE_2, wE_D, wE_B, wE_If, wE_C, wE_CV, wE_SL, wE_SA, wA_0, wA_1, wC_B, wC_E, wC_And, wC_Or, wC_Not, wS_Skip, wS_Brk, wS_Cnt, wS_RetV, wS_Ret, wS_Seq, wS_Set, wS_Inc, wS_Do, wS_Put, wS_PutC, wS_Arr, wS_ArrC, wS_If, wS_Sw, wS_F0, wS_F1, wM_q, lu_ap, aL_ap, ct_0, ct_1, ct_2, ct_3, ct_4, ct_5, headD_1, List.mem_cons, List.not_mem_nil, or_false, false_or, or_true, true_or, true_and, and_true, false_and, and_false, not_true_eq_false, not_false_eq_true, if_true, if_false, nr_20, nr_24, nr_40, nr_41, nr_44, pt_lt, pt_ge, pt_eq, pt_ne, pt_gt, pt_le, pt_E, pt_N, pt_F, ite_10, ite_11, ne_eq, and_self, or_self, decide_true, decide_false, Bool.not_true, Bool.not_false, Bool.false_eq_true, Nat.reduceEqDiff, Nat.reduceAdd, Int.reduceEq, Int.reduceLT, Int.reduceLE, Int.reduceNeg, Int.reduceAdd, Int.reduceSub, Int.reduceMul, reduceCtorEq, iA, iS, iM, iD, iR, iN, lA, lS, lM, lD, lR, l52]
    exact ⟨lf, hk, hd, hf⟩
theorem m_restore (h : LMo S v M) {L : QL} (m0 : L 0 = M) : wS (sSeq (sSet 8 (eI 0)) (sWhile cX12_would_2 bX12_would_2 uX12_would_2)) L S v (fun k _ L' w => k = 0 ∧ (∀ i, i ≠ 8 → L' i = L i) ∧ Km S v w ∧ (∀ k, 0 ≤ k → k < 1095 → w (M + 1) k = v (M + 35) k) ∧ (∀ k, (k < 0 ∨ 1095 ≤ k) → w (M + 1) k = v (M + 1) k) ∧ ∀ a k, a ≠ M + 1 → w a k = v a k) := by
  simp only [wE_I, wE_V, wE_F, wE_A, wE_N, wE_1, wE_2, wE_D, wE_B, wE_If, wE_C, wE_CV, wE_SL, wE_SA, wA_0, wA_1, wC_B, wC_E, wC_And, wC_Or, wC_Not, wS_Skip, wS_Brk, wS_Cnt, wS_RetV, wS_Ret, wS_Seq, wS_Set, wS_Inc, wS_Do, wS_Put, wS_PutC, wS_Arr, wS_ArrC, wS_If, wS_Sw, wS_F0, wS_F1, wM_q, lu_ap, aL_ap, ct_0, ct_1, ct_2, ct_3, ct_4, ct_5, headD_1, List.mem_cons, List.not_mem_nil, or_false, false_or, or_true, true_or, true_and, and_true, false_and, and_false, not_true_eq_false, not_false_eq_true, if_true, if_false, nr_20, nr_24, nr_40, nr_41, nr_44, pt_lt, pt_ge, pt_eq, pt_ne, pt_gt, pt_le, pt_E, pt_N, pt_F, ite_10, ite_11, ne_eq, and_self, or_self, decide_true, decide_false, Bool.not_true, Bool.not_false, Bool.false_eq_true, Nat.reduceEqDiff, Nat.reduceAdd, Int.reduceEq, Int.reduceLT, Int.reduceLE, Int.reduceNeg, Int.reduceAdd, Int.reduceSub, Int.reduceMul, reduceCtorEq, iA, iS, iM, iD, iR, iN, lA, lS, lM, lD, lR]
  refine wS_For 1095 (fun j L' w => ((∀ i, i ≠ 8 → L' i = L i) ∧ L' 8 = j) ∧ Km S v w ∧ (∀ k, 0 ≤ k → k < (j : Int) → w (M + 1) k = v (M + 35) k) ∧ (∀ k, (k < 0 ∨ 1095 ≤ k) → w (M + 1) k = v (M + 1) k) ∧ ∀ a k, a ≠ M + 1 → w a k = v a k) (by decide) ?_ ?_ ?_
  · exact ⟨⟨fun i hi => by simp [lu_ap, hi], by simp [lu_ap]⟩, Km.rf, fun k k0 k1 => by omega, fun _ _ => rfl, fun _ _ _ => rfl⟩
  · rintro j L' w hj ⟨⟨lf, l5⟩, hk, hd, ho, hf⟩
    have hw := h.keep hk.p
    have hj5 : (j : Int) < 1095 := by omega
    have hjr : 0 ≤ (j : Int) ∧ (j : Int) < 1095 := by omega
    have l0 : L' 0 = M := by rw [lf 0 (by decide)]; exact m0
    have e1 : w32 ((j : Int) + 1) = j + 1 := w32_e (by omega)
    have w1 : w (M + 35) j = v (M + 35) j := hf _ _ (by clear e1; omega)
    simp only [cX12_would_2, bX12_would_2, uX12_would_2, wE_I, wE_V, wE_F, wE_A, wE_N, wE_1, wE_2, wE_D, wE_B, wE_If, wE_C, wE_CV, wE_SL, wE_SA, wA_0, wA_1, wC_B, wC_E, wC_And, wC_Or, wC_Not, wS_Skip, wS_Brk, wS_Cnt, wS_RetV, wS_Ret, wS_Seq, wS_Set, wS_Inc, wS_Do, wS_Put, wS_PutC, wS_Arr, wS_ArrC, wS_If, wS_Sw, wS_F0, wS_F1, wM_q, lu_ap, aL_ap, ct_0, ct_1, ct_2, ct_3, ct_4, ct_5, headD_1, List.mem_cons, List.not_mem_nil, or_false, false_or, or_true, true_or, true_and, and_true, false_and, and_false, not_true_eq_false, not_false_eq_true, if_true, if_false, nr_20, nr_24, nr_40, nr_41, nr_44, pt_lt, pt_ge, pt_eq, pt_ne, pt_gt, pt_le, pt_E, pt_N, pt_F, ite_10, ite_11, ne_eq, and_self, or_self, decide_true, decide_false, Bool.not_true, Bool.not_false, Bool.false_eq_true, Nat.reduceEqDiff, Nat.reduceAdd, Int.reduceEq, Int.reduceLT, Int.reduceLE, Int.reduceNeg, Int.reduceAdd, Int.reduceSub, Int.reduceMul, reduceCtorEq, iA, iS, iM, iD, iR, iN, lA, lS, lM, lD, lR, l0, l5, hj5, h.k, hw.p54, h.a35, h.n35, hw.p0, h.a1, h.n1, hjr, w1, e1]
    clear e1
    refine ⟨⟨fun i hi => ?_, rfl⟩, hk.vu (by rw [h.a1]; rfl), fun k k0 k1 => ?_, fun k hk2 => ?_, fun a k ha => by rw [vu_ne (fun q => ha q.1)]; exact hf a k ha⟩
    · simp only [hi, if_false]
      exact lf i hi
    · by_cases e : k = j
      · rw [e, vu_is]
      · rw [vu_ne (fun q => e q.2)]; exact hd k k0 (by omega)
    · rw [vu_ne (by omega)]; exact ho k hk2
  · rintro L' w ⟨⟨lf, l5⟩, hk, hd, ho, hf⟩
    have l52 : L' 8 = 1095 := by omega
    simp only [cX12_would_2, wE_I, wE_V, wE_F, wE_A, wE_N, wE_1, wE_2, wE_D, wE_B, wE_If, wE_C, wE_CV, wE_SL, wE_SA, wA_0, wA_1, wC_B, wC_E, wC_And, wC_Or, wC_Not, wS_Skip, wS_Brk, wS_Cnt, wS_RetV, wS_Ret, wS_Seq, wS_Set, wS_Inc, wS_Do, wS_Put, wS_PutC, wS_Arr, wS_ArrC, wS_If, wS_Sw, wS_F0, wS_F1, wM_q, lu_ap, aL_ap, ct_0, ct_1, ct_2, ct_3, ct_4, ct_5, headD_1, List.mem_cons, List.not_mem_nil, or_false, false_or, or_true, true_or, true_and, and_true, false_and, and_false, not_true_eq_false, not_false_eq_true, if_true, if_false, nr_20, nr_24, nr_40, nr_41, nr_44, pt_lt, pt_ge, pt_eq, pt_ne, pt_gt, pt_le, pt_E, pt_N, pt_F, ite_10, ite_11, ne_eq, and_self, or_self, decide_true, decide_false, Bool.not_true, Bool.not_false, Bool.false_eq_true, Nat.reduceEqDiff, Nat.reduceAdd, Int.reduceEq, Int.reduceLT, Int.reduceLE, Int.reduceNeg, Int.reduceAdd, Int.reduceSub, Int.reduceMul, reduceCtorEq, iA, iS, iM, iD, iR, iN, lA, lS, lM, lD, lR, l52]
    exact ⟨lf, hk, hd, ho, hf⟩
theorem m_would (h : LMo S v M) (hRM : RM S v M B) (hP : PB v M B) {l x m y : Int} (hl : 1 ≤ l ∧ l ≤ 1000) (hc : v (M + 1) 0 + l ≤ 100000) (hm : 0 ≤ m ∧ m < v (M + 3) B) (hy : 0 ≤ y ∧ y ≤ 2) (hr : ∀ m, 0 ≤ m → m < v (M + 3) B → FIh v M B l m (v (M + 1))) (h2 : 0 ≤ v (M + 1) 2 ∧ v (M + 1) 2 ≤ 1000000) (hF : FI v M B (v (M + 1)) (v (M + 1) 0 % v (M + 2) B)) : wM mX12_would [M, l, x, m, y] S v (fun r u => r = w32 (if y = 0 then goF v M B l (fun k => if k = m then x else 0) (v (M + 1)) (3 + 12 * m + 4) else if y = 1 then goF v M B l (fun k => if k = m then x else 0) (v (M + 1)) (3 + 12 * m + 5) else (v (M + 1) 0 + l) / v (M + 2) B - v (M + 1) 1) ∧ Kp S v u ∧ ∀ a k, a ≠ M + 32 → a ≠ M + 35 → u a k = v a k) := by
  have hn4 := hP.2.1
  have hm4 : 0 ≤ m ∧ m < 4 := by omega
  have q1 := m_canRead hRM (l := l) (by omega)
  rw [if_pos ⟨hl, hc⟩] at q1
  have q2 := m_isMeasure hRM (m := m)
  rw [if_pos hm] at q2
  have q3 : ∀ u : QV, mX12_isIn [y, 0, 2] S u = some (1, u) := fun u => by
    have := m_isIn (S := S) (v := u) (x := y) (l := 0) (h := 2)
    rw [if_pos hy] at this
    exact this
  simp only [mX12_would, sX12_would, wM_q]
  generalize hL : aL 0 [2, 0, 0, 0, 0] [M, l, x, m, y] = L
  have m0 : L 0 = M := by rw [← hL]; simp [lu_ap, aL_ap, ct_0, ct_1, ct_2]
  have m1 : L 1 = l := by rw [← hL]; simp [lu_ap, aL_ap, ct_0, ct_1, ct_2]
  have m2 : L 2 = x := by rw [← hL]; simp [lu_ap, aL_ap, ct_0, ct_1, ct_2]
  have m3 : L 3 = m := by rw [← hL]; simp [lu_ap, aL_ap, ct_0, ct_1, ct_2]
  have m4 : L 4 = y := by rw [← hL]; simp [lu_ap, aL_ap, ct_0, ct_1, ct_2]
  clear hL
  refine ws_step (L' := L) (w := v) (by simp only [wE_I, wE_V, wE_F, wE_A, wE_N, wE_1, wE_2, wE_D, wE_B, wE_If, wE_C, wE_CV, wE_SL, wE_SA, wA_0, wA_1, wC_B, wC_E, wC_And, wC_Or, wC_Not, wS_Skip, wS_Brk, wS_Cnt, wS_RetV, wS_Ret, wS_Seq, wS_Set, wS_Inc, wS_Do, wS_Put, wS_PutC, wS_Arr, wS_ArrC, wS_If, wS_Sw, wS_F0, wS_F1, wM_q, lu_ap, aL_ap, ct_0, ct_1, ct_2, ct_3, ct_4, ct_5, headD_1, List.mem_cons, List.not_mem_nil, or_false, false_or, or_true, true_or, true_and, and_true, false_and, and_false, not_true_eq_false, not_false_eq_true, if_true, if_false, nr_20, nr_24, nr_40, nr_41, nr_44, pt_lt, pt_ge, pt_eq, pt_ne, pt_gt, pt_le, pt_E, pt_N, pt_F, ite_10, ite_11, ne_eq, and_self, or_self, decide_true, decide_false, Bool.not_true, Bool.not_false, Bool.false_eq_true, Nat.reduceEqDiff, Nat.reduceAdd, Int.reduceEq, Int.reduceLT, Int.reduceLE, Int.reduceNeg, Int.reduceAdd, Int.reduceSub, Int.reduceMul, reduceCtorEq, iA, iS, iM, iD, iR, iN, lA, lS, lM, lD, lR, m0, m1, m3, m4, h.k, wM_of q1, wM_of q2, wM_of (q3 _)]) ?_
  rw [wS_Seq]
  refine wS_mono (m_aside h m0) ?_
  rintro k z L1 w1 ⟨rfl, lf, hk1, hd1, hf1⟩
  rw [if_pos rfl]
  have l0 : L1 0 = M := by rw [lf 0 (by decide)]; exact m0
  have l1 : L1 1 = l := by rw [lf 1 (by decide)]; exact m1
  have l2 : L1 2 = x := by rw [lf 2 (by decide)]; exact m2
  have l3 : L1 3 = m := by rw [lf 3 (by decide)]; exact m3
  have l4 : L1 4 = y := by rw [lf 4 (by decide)]; exact m4
  have hM1 := h.keep hk1.p
  have hgv := m_give (S := S) (v := w1) (x0 := 0) (x1 := 0) (x2 := 0) (x3 := 0) hM1
  refine ws_step (L' := L1) (w := vu (vu (vu (vu w1 (M + 32) 0 0) (M + 32) 1 0) (M + 32) 2 0) (M + 32) 3 0) (by simp only [wE_I, wE_V, wE_F, wE_A, wE_N, wE_1, wE_2, wE_D, wE_B, wE_If, wE_C, wE_CV, wE_SL, wE_SA, wA_0, wA_1, wC_B, wC_E, wC_And, wC_Or, wC_Not, wS_Skip, wS_Brk, wS_Cnt, wS_RetV, wS_Ret, wS_Seq, wS_Set, wS_Inc, wS_Do, wS_Put, wS_PutC, wS_Arr, wS_ArrC, wS_If, wS_Sw, wS_F0, wS_F1, wM_q, lu_ap, aL_ap, ct_0, ct_1, ct_2, ct_3, ct_4, ct_5, headD_1, List.mem_cons, List.not_mem_nil, or_false, false_or, or_true, true_or, true_and, and_true, false_and, and_false, not_true_eq_false, not_false_eq_true, if_true, if_false, nr_20, nr_24, nr_40, nr_41, nr_44, pt_lt, pt_ge, pt_eq, pt_ne, pt_gt, pt_le, pt_E, pt_N, pt_F, ite_10, ite_11, ne_eq, and_self, or_self, decide_true, decide_false, Bool.not_true, Bool.not_false, Bool.false_eq_true, Nat.reduceEqDiff, Nat.reduceAdd, Int.reduceEq, Int.reduceLT, Int.reduceLE, Int.reduceNeg, Int.reduceAdd, Int.reduceSub, Int.reduceMul, reduceCtorEq, iA, iS, iM, iD, iR, iN, lA, lS, lM, lD, lR, l0, h.k, wM_of hgv]) ?_
  have kw2 := hk1.p.tr (Km.of kX12_give hgv).p
  have n0 : ¬ M = M + 32 := by omega
  have hM2 := h.keep kw2
  have w2f : ∀ a k, a ≠ M + 32 → vu (vu (vu (vu w1 (M + 32) 0 0) (M + 32) 1 0) (M + 32) 2 0) (M + 32) 3 0 a k = w1 a k := fun a k ha => by
    rw [vu_ne (fun e => ha e.1), vu_ne (fun e => ha e.1), vu_ne (fun e => ha e.1), vu_ne (fun e => ha e.1)]
  have w2n : ∀ k, 0 ≤ k → k < 4 → vu (vu (vu (vu w1 (M + 32) 0 0) (M + 32) 1 0) (M + 32) 2 0) (M + 32) 3 0 (M + 32) k = 0 := fun k k0 k1 => by
    have : k = 0 ∨ k = 1 ∨ k = 2 ∨ k = 3 := by omega
    rcases this with rfl | rfl | rfl | rfl <;> simp [vu_ap]
  generalize vu (vu (vu (vu w1 (M + 32) 0 0) (M + 32) 1 0) (M + 32) 2 0) (M + 32) 3 0 = w2 at *
  refine ws_step (L' := L1) (w := vu w2 (M + 32) m x) (by simp only [wE_I, wE_V, wE_F, wE_A, wE_N, wE_1, wE_2, wE_D, wE_B, wE_If, wE_C, wE_CV, wE_SL, wE_SA, wA_0, wA_1, wC_B, wC_E, wC_And, wC_Or, wC_Not, wS_Skip, wS_Brk, wS_Cnt, wS_RetV, wS_Ret, wS_Seq, wS_Set, wS_Inc, wS_Do, wS_Put, wS_PutC, wS_Arr, wS_ArrC, wS_If, wS_Sw, wS_F0, wS_F1, wM_q, lu_ap, aL_ap, ct_0, ct_1, ct_2, ct_3, ct_4, ct_5, headD_1, List.mem_cons, List.not_mem_nil, or_false, false_or, or_true, true_or, true_and, and_true, false_and, and_false, not_true_eq_false, not_false_eq_true, if_true, if_false, nr_20, nr_24, nr_40, nr_41, nr_44, pt_lt, pt_ge, pt_eq, pt_ne, pt_gt, pt_le, pt_E, pt_N, pt_F, ite_10, ite_11, ne_eq, and_self, or_self, decide_true, decide_false, Bool.not_true, Bool.not_false, Bool.false_eq_true, Nat.reduceEqDiff, Nat.reduceAdd, Int.reduceEq, Int.reduceLT, Int.reduceLE, Int.reduceNeg, Int.reduceAdd, Int.reduceSub, Int.reduceMul, reduceCtorEq, iA, iS, iM, iD, iR, iN, lA, lS, lM, lD, lR, l0, l2, l3, h.k, hM2.p46, h.a32, h.n32, hm4]) ?_
  have kw3 : Kp S v (vu w2 (M + 32) m x) := kw2.tr (Km.vu Km.rf (by rw [h.a32]; rfl)).p
  have w3n : ∀ k, 0 ≤ k → k < 4 → vu w2 (M + 32) m x (M + 32) k = (fun k => if k = m then x else 0) k := fun k k0 k1 => by
    rw [vu_ap]
    by_cases e : k = m
    · rw [if_pos ⟨rfl, e⟩]; simp [e]
    · rw [if_neg (fun q => e q.2), w2n k k0 k1]; simp [e]
  have w3f : ∀ a k, a ≠ M + 32 → a ≠ M + 35 → vu w2 (M + 32) m x a k = v a k := fun a k ha hb => by rw [vu_ne (fun e => ha e.1), w2f _ _ ha, hf1 _ _ hb]
  have w3d : ∀ k, 0 ≤ k → k < 1095 → vu w2 (M + 32) m x (M + 35) k = v (M + 1) k := fun k k0 k1 => by rw [vu_ne (by omega), w2f _ _ (by omega)]; exact hd1 k k0 k1
  generalize vu w2 (M + 32) m x = w3 at *
  have hM3 := h.keep kw3
  have wp : ∀ j k, 1 ≤ j → j ≤ 25 → w3 (M + j) k = v (M + j) k := fun j k j0 j1 => w3f _ _ (by omega) (by omega)
  have wp2 : ∀ j k, 2 ≤ j → j ≤ 25 → w3 (M + j) k = v (M + j) k := fun j k j0 j1 => w3f _ _ (by omega) (by omega)
  have w31 : w3 (M + 1) = v (M + 1) := funext fun k => wp 1 k (by omega) (by omega)
  have hg := f_goRead' (later := l) (nm := fun k => if k = m then x else 0) hM3 ((w3f _ _ (by omega) (by omega)).trans hRM.2.1) hRM.2.2.1 (hP.plan wp2) (hRM.plan hM3 (w3f _ _ (by omega) (by omega)) wp) hl w3n (fun m m0 m1 => by rw [w31]; exact (hr m m0 (by rw [← wp 3 _ (by omega) (by omega)]; exact m1)).plan wp2) (by rw [w31]; exact h2) (by rw [w31, wp 2 _ (by omega) (by omega)]; exact hF.plan wp2)
  rw [w31, goF_v (v := v) (w := w3) (fun i k i0 i1 => wp i k (by omega) (by omega)), wp 2 _ (by omega) (by omega)] at hg
  have hout : ∀ k, (k < 0 ∨ 1095 ≤ k) → goF v M B l (fun k => if k = m then x else 0) (v (M + 1)) k = v (M + 1) k := fun k hk => goF_out hP hk
  generalize goF v M B l (fun k => if k = m then x else 0) (v (M + 1)) = G at *
  refine ws_step (L' := lu L1 5 ((v (M + 1) 0 + l) / v (M + 2) B - v (M + 1) 1)) (w := vf w3 (M + 1) G) (by simp only [wE_I, wE_V, wE_F, wE_A, wE_N, wE_1, wE_2, wE_D, wE_B, wE_If, wE_C, wE_CV, wE_SL, wE_SA, wA_0, wA_1, wC_B, wC_E, wC_And, wC_Or, wC_Not, wS_Skip, wS_Brk, wS_Cnt, wS_RetV, wS_Ret, wS_Seq, wS_Set, wS_Inc, wS_Do, wS_Put, wS_PutC, wS_Arr, wS_ArrC, wS_If, wS_Sw, wS_F0, wS_F1, wM_q, lu_ap, aL_ap, ct_0, ct_1, ct_2, ct_3, ct_4, ct_5, headD_1, List.mem_cons, List.not_mem_nil, or_false, false_or, or_true, true_or, true_and, and_true, false_and, and_false, not_true_eq_false, not_false_eq_true, if_true, if_false, nr_20, nr_24, nr_40, nr_41, nr_44, pt_lt, pt_ge, pt_eq, pt_ne, pt_gt, pt_le, pt_E, pt_N, pt_F, ite_10, ite_11, ne_eq, and_self, or_self, decide_true, decide_false, Bool.not_true, Bool.not_false, Bool.false_eq_true, Nat.reduceEqDiff, Nat.reduceAdd, Int.reduceEq, Int.reduceLT, Int.reduceLE, Int.reduceNeg, Int.reduceAdd, Int.reduceSub, Int.reduceMul, reduceCtorEq, iA, iS, iM, iD, iR, iN, lA, lS, lM, lD, lR, l0, l1, h.k, wM_of hg]) ?_
  have r4 : 0 ≤ (4 : Int) ∧ (4 : Int) < 12 := by decide
  have r5 : 0 ≤ (5 : Int) ∧ (5 : Int) < 12 := by decide
  have o4 : 0 ≤ 3 + 12 * m + 4 ∧ 3 + 12 * m + 4 < 1095 := by omega
  have o5 : 0 ≤ 3 + 12 * m + 5 ∧ 3 + 12 * m + 5 < 1095 := by omega
  have aM := fun z (q : 0 ≤ z ∧ z < 12) => m_atMeasure (S := S) (v := vf w3 (M + 1) G) hm4 q
  have hMv := hM3.keep (Kp.vf hM3 (f := G))
  generalize hst : (v (M + 1) 0 + l) / v (M + 2) B - v (M + 1) 1 = st at *
  refine ws_step (L' := lu (lu L1 5 st) 6 (if y = 0 then G (3 + 12 * m + 4) else if y = 1 then G (3 + 12 * m + 5) else st)) (w := vf w3 (M + 1) G) ?_ ?_
  · by_cases y0 : y = 0
    · simp only [wE_I, wE_V, wE_F, wE_A, wE_N, wE_1, wE_2, wE_D, wE_B, wE_If, wE_C, wE_CV, wE_SL, wE_SA, wA_0, wA_1, wC_B, wC_E, wC_And, wC_Or, wC_Not, wS_Skip, wS_Brk, wS_Cnt, wS_RetV, wS_Ret, wS_Seq, wS_Set, wS_Inc, wS_Do, wS_Put, wS_PutC, wS_Arr, wS_ArrC, wS_If, wS_Sw, wS_F0, wS_F1, wM_q, lu_ap, aL_ap, ct_0, ct_1, ct_2, ct_3, ct_4, ct_5, headD_1, List.mem_cons, List.not_mem_nil, or_false, false_or, or_true, true_or, true_and, and_true, false_and, and_false, not_true_eq_false, not_false_eq_true, if_true, if_false, nr_20, nr_24, nr_40, nr_41, nr_44, pt_lt, pt_ge, pt_eq, pt_ne, pt_gt, pt_le, pt_E, pt_N, pt_F, ite_10, ite_11, ne_eq, and_self, or_self, decide_true, decide_false, Bool.not_true, Bool.not_false, Bool.false_eq_true, Nat.reduceEqDiff, Nat.reduceAdd, Int.reduceEq, Int.reduceLT, Int.reduceLE, Int.reduceNeg, Int.reduceAdd, Int.reduceSub, Int.reduceMul, reduceCtorEq, iA, iS, iM, iD, iR, iN, lA, lS, lM, lD, lR, l0, l3, l4, h.k, hMv.p0, h.a1, h.n1, y0, wM_of (aM _ r4), o4, vf_is]
    · by_cases y1 : y = 1
      · simp only [wE_I, wE_V, wE_F, wE_A, wE_N, wE_1, wE_2, wE_D, wE_B, wE_If, wE_C, wE_CV, wE_SL, wE_SA, wA_0, wA_1, wC_B, wC_E, wC_And, wC_Or, wC_Not, wS_Skip, wS_Brk, wS_Cnt, wS_RetV, wS_Ret, wS_Seq, wS_Set, wS_Inc, wS_Do, wS_Put, wS_PutC, wS_Arr, wS_ArrC, wS_If, wS_Sw, wS_F0, wS_F1, wM_q, lu_ap, aL_ap, ct_0, ct_1, ct_2, ct_3, ct_4, ct_5, headD_1, List.mem_cons, List.not_mem_nil, or_false, false_or, or_true, true_or, true_and, and_true, false_and, and_false, not_true_eq_false, not_false_eq_true, if_true, if_false, nr_20, nr_24, nr_40, nr_41, nr_44, pt_lt, pt_ge, pt_eq, pt_ne, pt_gt, pt_le, pt_E, pt_N, pt_F, ite_10, ite_11, ne_eq, and_self, or_self, decide_true, decide_false, Bool.not_true, Bool.not_false, Bool.false_eq_true, Nat.reduceEqDiff, Nat.reduceAdd, Int.reduceEq, Int.reduceLT, Int.reduceLE, Int.reduceNeg, Int.reduceAdd, Int.reduceSub, Int.reduceMul, reduceCtorEq, iA, iS, iM, iD, iR, iN, lA, lS, lM, lD, lR, l0, l3, l4, h.k, hMv.p0, h.a1, h.n1, y1, wM_of (aM _ r5), o5, vf_is]
      · simp only [wE_I, wE_V, wE_F, wE_A, wE_N, wE_1, wE_2, wE_D, wE_B, wE_If, wE_C, wE_CV, wE_SL, wE_SA, wA_0, wA_1, wC_B, wC_E, wC_And, wC_Or, wC_Not, wS_Skip, wS_Brk, wS_Cnt, wS_RetV, wS_Ret, wS_Seq, wS_Set, wS_Inc, wS_Do, wS_Put, wS_PutC, wS_Arr, wS_ArrC, wS_If, wS_Sw, wS_F0, wS_F1, wM_q, lu_ap, aL_ap, ct_0, ct_1, ct_2, ct_3, ct_4, ct_5, headD_1, List.mem_cons, List.not_mem_nil, or_false, false_or, or_true, true_or, true_and, and_true, false_and, and_false, not_true_eq_false, not_false_eq_true, if_true, if_false, nr_20, nr_24, nr_40, nr_41, nr_44, pt_lt, pt_ge, pt_eq, pt_ne, pt_gt, pt_le, pt_E, pt_N, pt_F, ite_10, ite_11, ne_eq, and_self, or_self, decide_true, decide_false, Bool.not_true, Bool.not_false, Bool.false_eq_true, Nat.reduceEqDiff, Nat.reduceAdd, Int.reduceEq, Int.reduceLT, Int.reduceLE, Int.reduceNeg, Int.reduceAdd, Int.reduceSub, Int.reduceMul, reduceCtorEq, iA, iS, iM, iD, iR, iN, lA, lS, lM, lD, lR, l4, y0, y1]
  generalize (if y = 0 then G (3 + 12 * m + 4) else if y = 1 then G (3 + 12 * m + 5) else st) = res
  rw [wS_Seq]
  refine wS_mono (m_restore hMv (show lu (lu L1 5 st) 6 res 0 = M by simp [lu_ap, l0])) ?_
  rintro k z L2 w5 ⟨rfl, lf2, hk5, hd5, ho5, hf5⟩
  rw [if_pos rfl]
  have l6 : L2 6 = res := by rw [lf2 6 (by decide)]; simp [lu_ap]
  simp only [wE_I, wE_V, wE_F, wE_A, wE_N, wE_1, wE_2, wE_D, wE_B, wE_If, wE_C, wE_CV, wE_SL, wE_SA, wA_0, wA_1, wC_B, wC_E, wC_And, wC_Or, wC_Not, wS_Skip, wS_Brk, wS_Cnt, wS_RetV, wS_Ret, wS_Seq, wS_Set, wS_Inc, wS_Do, wS_Put, wS_PutC, wS_Arr, wS_ArrC, wS_If, wS_Sw, wS_F0, wS_F1, wM_q, lu_ap, aL_ap, ct_0, ct_1, ct_2, ct_3, ct_4, ct_5, headD_1, List.mem_cons, List.not_mem_nil, or_false, false_or, or_true, true_or, true_and, and_true, false_and, and_false, not_true_eq_false, not_false_eq_true, if_true, if_false, nr_20, nr_24, nr_40, nr_41, nr_44, pt_lt, pt_ge, pt_eq, pt_ne, pt_gt, pt_le, pt_E, pt_N, pt_F, ite_10, ite_11, ne_eq, and_self, or_self, decide_true, decide_false, Bool.not_true, Bool.not_false, Bool.false_eq_true, Nat.reduceEqDiff, Nat.reduceAdd, Int.reduceEq, Int.reduceLT, Int.reduceLE, Int.reduceNeg, Int.reduceAdd, Int.reduceSub, Int.reduceMul, reduceCtorEq, iA, iS, iM, iD, iR, iN, lA, lS, lM, lD, lR, l6]
  refine ⟨(kw3.tr (Kp.vf hM3)).tr hk5.p, fun a k ha hb => ?_⟩
  by_cases e : a = M + 1
  · rw [e]
    by_cases hk : k < 0 ∨ 1095 ≤ k
    · rw [ho5 k hk, vf_is]; exact hout k hk
    · rw [hd5 k (by omega) (by omega), vf_ne (by omega)]; exact w3d k (by omega) (by omega)
  · rw [hf5 _ _ e, vf_ne e]; exact w3f _ _ ha hb
theorem g_would (h : RX S b v) {l x m y : Int} (hl : -2147483648 ≤ l ∧ l ≤ 2147483647) : EQ S b mX11_would mX12_would [l, x, m, y] v := by
  have hX := h
  obtain ⟨P, B, s, h⟩ := h
  have hn := h.nb
  have hC := h.1.1
  have hMo := h.1.2.1
  have t := h.2.2.2.2.2.1
  have hst := h.rc.st
  have hp := h.2.1
  by_cases hm : 0 ≤ m ∧ m < v P 1
  · by_cases hc : (1 ≤ l ∧ l ≤ 1000) ∧ v s 0 + l ≤ 100000
    · have hcm : (1 ≤ l ∧ l ≤ 1000) ∧ v (b + 889 + 1) 0 + l ≤ 100000 := by rw [← t.1.1]; exact hc
      have hm4 : 0 ≤ m ∧ m < 4 := by omega
      have hmm : 0 ≤ m ∧ m < v (b + 889 + 3) B := by rw [h.e3]; exact hm
      have hPR := h.2.2.2.2.1
      have hpb := hPR.pb
      have hH := t.hst hPR
      have hMm := hH.2.1 m hm.1 hm.2
      have hpm := hPR.2.2.2.2.1 m hm.1 hm.2
      have hfih := hMm.fih hpm (fun _ => rfl) hc.1
      have htm := hst.m m hm4.1 hm4.2
      have htp := h.rc.pl.m m hm4.1 hm4.2
      have hrb := @q_rateBy S v (s + (4 + 6 * m)) (P + (9 + m)) x l htm htp (h.rok hm hc.1) (Classical.propDecidable _)
      rw [rtF_c hpm (fun _ => rfl) hMm.1.1 hMm.2.1.1 hMm.2.1.2.1 hMm.2.2.1.1] at hrb
      have htv := rtF_tv (x := x) hfih
      have q1 := q_canPass h.rc (l := l)
      rw [if_pos hc] at q1
      have q2 := q_isMeasure h.rc (m := m)
      rw [if_pos hm] at q2
      have hx0 := t.1
      have hx1 := t.2.1
      have hp0 := hPR.1.2
      have hx2 := t.2.2.1.2
      have hf1 : 0 ≤ v (b + 889 + 1) 1 ∧ v (b + 889 + 1) 1 ≤ 100000 := by
        rw [hx1]
        exact ⟨Int.ediv_nonneg hx0.2.1 (by omega), by have := Int.ediv_le_self (v P 0) hx0.2.1; omega⟩
      have hD0 : ∀ a, 0 ≤ a → a < v P 2 → 0 ≤ v (b + 889 + 1) 1 / v (P + (13 + a)) 1 := fun a a0 a1 => by
        have := (hPR.2.2.2.2.2.1 a a0 a1).2.1
        exact Int.ediv_nonneg hf1.1 (by omega)
      have hFI : FI v (b + 889) B (v (b + 889 + 1)) (v (b + 889 + 1) 0 % v P 0) := HS.FI hPR (by omega) hH hD0
      have hfihs : ∀ m, 0 ≤ m → m < v (b + 889 + 3) B → FIh v (b + 889) B l m (v (b + 889 + 1)) := fun m m0 m1 => (hH.2.1 m m0 (by rw [← h.e3]; exact m1)).fih (hPR.2.2.2.2.1 m m0 (by rw [← h.e3]; exact m1)) (fun _ => rfl) hc.1
      have e20 : v (b + 889 + 2) B = v P 0 := h.e2
      -- what goF tells of the measure
      have hmv : (goF v (b + 889) B l (fun k => if k = m then x else 0) (v (b + 889 + 1)) (3 + 12 * m + 4) = rtF v (b + 889) B l x m (v (b + 889 + 1))) ∧ goF v (b + 889) B l (fun k => if k = m then x else 0) (v (b + 889 + 1)) (3 + 12 * m + 5) = (if wdQ (v P 0) (v s 0) l = 0 then v (b + 889 + 1) (3 + 12 * m + 5) else if wdQ (v P 0) (v s 0) l = 1 then (if rtF v (b + 889) B l x m (v (b + 889 + 1)) = -2147483648 then vlV (v P 0) (v (b + 889 + 1) (3 + 12 * m + 6)) (v (b + 889 + 1) (3 + 12 * m + 7)) else vlV (v P 0) (v (b + 889 + 1) (3 + 12 * m + 6) + rtF v (b + 889) B l x m (v (b + 889 + 1)) * (v P 0 - v s 0 % v P 0)) (v (b + 889 + 1) (3 + 12 * m + 7) + (v P 0 - v s 0 % v P 0))) else rtF v (b + 889) B l x m (v (b + 889 + 1))) := by
        have h4 := heF_at (v := v) (M := b + 889) (B := B) (later := l) (nm := fun k => if k = m then x else 0) (f := v (b + 889 + 1)) hmm
        simp only [if_true] at h4
        have hn34 : v (b + 889 + 3) B ≤ 4 := hpb.2.1.2
        have hh0 : heF v (b + 889) B l (fun k => if k = m then x else 0) (v (b + 889 + 1)) 0 = v s 0 := by rw [heF_fr hn34 (by omega) (fun m _ _ => by omega)]; exact hx0.1.symm
        have hh5 : heF v (b + 889) B l (fun k => if k = m then x else 0) (v (b + 889 + 1)) (3 + 12 * m + 5) = v (b + 889 + 1) (3 + 12 * m + 5) := heF_fr hn34 (by omega) (fun m _ _ => by omega)
        have hh6 : heF v (b + 889) B l (fun k => if k = m then x else 0) (v (b + 889 + 1)) (3 + 12 * m + 6) = v (b + 889 + 1) (3 + 12 * m + 6) := heF_fr hn34 (by omega) (fun m _ _ => by omega)
        have hh7 : heF v (b + 889) B l (fun k => if k = m then x else 0) (v (b + 889 + 1)) (3 + 12 * m + 7) = v (b + 889 + 1) (3 + 12 * m + 7) := heF_fr hn34 (by omega) (fun m _ _ => by omega)
        have sv := st_value hpb hmm hh0 (by omega) h4.1 htv l.toNat
        rw [hh5, hh6, hh7, e20, show ((l.toNat : Nat) : Int) = l by omega] at sv
        refine ⟨?_, sv.2.1⟩
        unfold goF
        rw [stI_fr hpb (Or.inr ⟨m, hm.1, hm4.2, by omega⟩)]
        exact h4.1
      have hsteps : (v (b + 889 + 1) 0 + l) / v P 0 - v (b + 889 + 1) 1 = wdQ (v P 0) (v s 0) l := by
        unfold wdQ
        rw [hx1, hx0.1]
      have hwb : 0 ≤ wdQ (v P 0) (v s 0) l ∧ wdQ (v P 0) (v s 0) l ≤ 200000 := by
        rw [← hsteps]
        have := Int.ediv_le_ediv (show 0 < v P 0 by omega) (show v (b + 889 + 1) 0 ≤ v (b + 889 + 1) 0 + l by omega)
        have := Int.ediv_le_self (v P 0) (show 0 ≤ v (b + 889 + 1) 0 + l by omega)
        omega
      have hqv := q_valueBy h.rc hc.1 (by omega) hp0 hm htv (hMm.cong (f := v (b + 889 + 1)) (F := v (b + 889 + 1)) (fun _ => rfl) (fun _ => rfl) (fun _ _ _ => rfl) |> fun z => by rw [← hx0.1] at z; exact z)
      have hqs := q_stepsBy h.rc hc.1 (by omega) hp0
      have hmw := fun hy => m_would (x := x) (y := y) hMo h.rm hpb hc.1 hcm.2 hmm hy hfihs (by omega) (by rw [e20]; exact hFI)
      rw [hmv.1, hmv.2, e20, hsteps] at hmw
      have vtv : tv (if wdQ (v P 0) (v s 0) l = 0 then v (b + 889 + 1) (3 + 12 * m + 5) else if wdQ (v P 0) (v s 0) l = 1 then (if rtF v (b + 889) B l x m (v (b + 889 + 1)) = -2147483648 then vlV (v P 0) (v (b + 889 + 1) (3 + 12 * m + 6)) (v (b + 889 + 1) (3 + 12 * m + 7)) else vlV (v P 0) (v (b + 889 + 1) (3 + 12 * m + 6) + rtF v (b + 889) B l x m (v (b + 889 + 1)) * (v P 0 - v s 0 % v P 0)) (v (b + 889 + 1) (3 + 12 * m + 7) + (v P 0 - v s 0 % v P 0))) else rtF v (b + 889) B l x m (v (b + 889 + 1))) := by
        obtain ⟨-, -, -, -, z5, z6, z7, -⟩ := hMm
        dsimp only at z6
        rw [← hx0.1] at z6
        have y0 := Int.emod_nonneg (v s 0) (show v P 0 ≠ 0 by omega)
        have y1 := Int.emod_lt_of_pos (v s 0) (show 0 < v P 0 by omega)
        split
        · rw [← z5.1]; exact z5.2
        · split
          · split
            · exact vlV_tv (by omega) hp0.1 (by omega)
            · rename_i cu
              have hr2 : 0 ≤ rtF v (b + 889) B l x m (v (b + 889 + 1)) ∧ rtF v (b + 889) B l x m (v (b + 889 + 1)) ≤ 999999000 := by unfold tv at htv; omega
              have b1 := Int.mul_le_mul_of_nonneg_right hr2.2 (show 0 ≤ v P 0 - v s 0 % v P 0 by omega)
              have b2 := Int.mul_nonneg hr2.1 (show 0 ≤ v P 0 - v s 0 % v P 0 by omega)
              exact vlV_tv (by omega) hp0.1 (by omega)
          · exact htv
      generalize (if wdQ (v P 0) (v s 0) l = 0 then v (b + 889 + 1) (3 + 12 * m + 5) else if wdQ (v P 0) (v s 0) l = 1 then (if rtF v (b + 889) B l x m (v (b + 889 + 1)) = -2147483648 then vlV (v P 0) (v (b + 889 + 1) (3 + 12 * m + 6)) (v (b + 889 + 1) (3 + 12 * m + 7)) else vlV (v P 0) (v (b + 889 + 1) (3 + 12 * m + 6) + rtF v (b + 889) B l x m (v (b + 889 + 1)) * (v P 0 - v s 0 % v P 0)) (v (b + 889 + 1) (3 + 12 * m + 7) + (v P 0 - v s 0 % v P 0))) else rtF v (b + 889) B l x m (v (b + 889 + 1))) = val at *
      generalize rtF v (b + 889) B l x m (v (b + 889 + 1)) = rt at *
      have tie : ∀ r, mX11_would [b, l, x, m, y] S v = some (r, v) → (∃ hy : 0 ≤ y ∧ y ≤ 2, r = w32 (if y = 0 then rt else if y = 1 then val else wdQ (v P 0) (v s 0) l)) → EQ S b mX11_would mX12_would [l, x, m, y] v := by
        rintro r e1 ⟨hy, e2⟩
        unfold EQ
        rw [wM_of e1]
        refine wM_mono (hmw hy) ?_
        rintro r' u e ⟨hr, hk, hf⟩
        exact ⟨e2.trans hr.symm, P, B, s, h.q (fun a k _ _ _ _ _ h6 _ _ h9 => hf a k h6 h9) hk⟩
      by_cases y0 : y = 0
      · refine tie rt ?_ ⟨by omega, ?_⟩
        · apply wM_eq
          simp only [mX11_would, sX11_would, wE_I, wE_V, wE_F, wE_A, wE_N, wE_1, wE_2, wE_D, wE_B, wE_If, wE_C, wE_CV, wE_SL, wE_SA, wA_0, wA_1, wC_B, wC_E, wC_And, wC_Or, wC_Not, wS_Skip, wS_Brk, wS_Cnt, wS_RetV, wS_Ret, wS_Seq, wS_Set, wS_Inc, wS_Do, wS_Put, wS_PutC, wS_Arr, wS_ArrC, wS_If, wS_Sw, wS_F0, wS_F1, wM_q, lu_ap, aL_ap, ct_0, ct_1, ct_2, ct_3, ct_4, ct_5, headD_1, List.mem_cons, List.not_mem_nil, or_false, false_or, or_true, true_or, true_and, and_true, false_and, and_false, not_true_eq_false, not_false_eq_true, if_true, if_false, nr_20, nr_24, nr_40, nr_41, nr_44, pt_lt, pt_ge, pt_eq, pt_ne, pt_gt, pt_le, pt_E, pt_N, pt_F, ite_10, ite_11, ne_eq, and_self, or_self, decide_true, decide_false, Bool.not_true, Bool.not_false, Bool.false_eq_true, Nat.reduceEqDiff, Nat.reduceAdd, Int.reduceEq, Int.reduceLT, Int.reduceLE, Int.reduceNeg, Int.reduceAdd, Int.reduceSub, Int.reduceMul, reduceCtorEq, iA, iS, iM, iD, iR, iN, lA, lS, lM, lD, lR, hC.k, wM_of q1, wM_of q2, wM_of (q_now h.rc), hst.k, hst.p2, hst.a1, hst.n1, hm4, hst.em m hm4.1 hm4.2, hp.1, h.rc.pl.k, h.rc.pl.p3, h.rc.pl.a1, h.rc.pl.n1, h.rc.pl.em m hm4.1 hm4.2, htm, wM_of hrb, y0]
        · rw [if_pos y0, tv_32 htv]
      · by_cases y1 : y = 1
        · refine tie val ?_ ⟨by omega, ?_⟩
          · apply wM_eq
            simp only [mX11_would, sX11_would, wE_I, wE_V, wE_F, wE_A, wE_N, wE_1, wE_2, wE_D, wE_B, wE_If, wE_C, wE_CV, wE_SL, wE_SA, wA_0, wA_1, wC_B, wC_E, wC_And, wC_Or, wC_Not, wS_Skip, wS_Brk, wS_Cnt, wS_RetV, wS_Ret, wS_Seq, wS_Set, wS_Inc, wS_Do, wS_Put, wS_PutC, wS_Arr, wS_ArrC, wS_If, wS_Sw, wS_F0, wS_F1, wM_q, lu_ap, aL_ap, ct_0, ct_1, ct_2, ct_3, ct_4, ct_5, headD_1, List.mem_cons, List.not_mem_nil, or_false, false_or, or_true, true_or, true_and, and_true, false_and, and_false, not_true_eq_false, not_false_eq_true, if_true, if_false, nr_20, nr_24, nr_40, nr_41, nr_44, pt_lt, pt_ge, pt_eq, pt_ne, pt_gt, pt_le, pt_E, pt_N, pt_F, ite_10, ite_11, ne_eq, and_self, or_self, decide_true, decide_false, Bool.not_true, Bool.not_false, Bool.false_eq_true, Nat.reduceEqDiff, Nat.reduceAdd, Int.reduceEq, Int.reduceLT, Int.reduceLE, Int.reduceNeg, Int.reduceAdd, Int.reduceSub, Int.reduceMul, reduceCtorEq, iA, iS, iM, iD, iR, iN, lA, lS, lM, lD, lR, hC.k, wM_of q1, wM_of q2, wM_of (q_now h.rc), hst.k, hst.p2, hst.a1, hst.n1, hm4, hst.em m hm4.1 hm4.2, hp.1, h.rc.pl.k, h.rc.pl.p3, h.rc.pl.a1, h.rc.pl.n1, h.rc.pl.em m hm4.1 hm4.2, htm, wM_of hrb, y1, wM_of hqv]
          · rw [if_neg y0, if_pos y1, tv_32 vtv]
        · by_cases y2 : y = 2
          · refine tie (wdQ (v P 0) (v s 0) l) ?_ ⟨by omega, ?_⟩
            · apply wM_eq
              simp only [mX11_would, sX11_would, wE_I, wE_V, wE_F, wE_A, wE_N, wE_1, wE_2, wE_D, wE_B, wE_If, wE_C, wE_CV, wE_SL, wE_SA, wA_0, wA_1, wC_B, wC_E, wC_And, wC_Or, wC_Not, wS_Skip, wS_Brk, wS_Cnt, wS_RetV, wS_Ret, wS_Seq, wS_Set, wS_Inc, wS_Do, wS_Put, wS_PutC, wS_Arr, wS_ArrC, wS_If, wS_Sw, wS_F0, wS_F1, wM_q, lu_ap, aL_ap, ct_0, ct_1, ct_2, ct_3, ct_4, ct_5, headD_1, List.mem_cons, List.not_mem_nil, or_false, false_or, or_true, true_or, true_and, and_true, false_and, and_false, not_true_eq_false, not_false_eq_true, if_true, if_false, nr_20, nr_24, nr_40, nr_41, nr_44, pt_lt, pt_ge, pt_eq, pt_ne, pt_gt, pt_le, pt_E, pt_N, pt_F, ite_10, ite_11, ne_eq, and_self, or_self, decide_true, decide_false, Bool.not_true, Bool.not_false, Bool.false_eq_true, Nat.reduceEqDiff, Nat.reduceAdd, Int.reduceEq, Int.reduceLT, Int.reduceLE, Int.reduceNeg, Int.reduceAdd, Int.reduceSub, Int.reduceMul, reduceCtorEq, iA, iS, iM, iD, iR, iN, lA, lS, lM, lD, lR, hC.k, wM_of q1, wM_of q2, wM_of (q_now h.rc), hst.k, hst.p2, hst.a1, hst.n1, hm4, hst.em m hm4.1 hm4.2, hp.1, h.rc.pl.k, h.rc.pl.p3, h.rc.pl.a1, h.rc.pl.n1, h.rc.pl.em m hm4.1 hm4.2, htm, wM_of hrb, y2, wM_of hqs]
            · rw [if_neg y0, if_neg y1, w32_e (by omega)]
          · have e1 : mX11_would [b, l, x, m, y] S v = some (-2147483648, v) := by
              apply wM_eq
              simp only [mX11_would, sX11_would, wE_I, wE_V, wE_F, wE_A, wE_N, wE_1, wE_2, wE_D, wE_B, wE_If, wE_C, wE_CV, wE_SL, wE_SA, wA_0, wA_1, wC_B, wC_E, wC_And, wC_Or, wC_Not, wS_Skip, wS_Brk, wS_Cnt, wS_RetV, wS_Ret, wS_Seq, wS_Set, wS_Inc, wS_Do, wS_Put, wS_PutC, wS_Arr, wS_ArrC, wS_If, wS_Sw, wS_F0, wS_F1, wM_q, lu_ap, aL_ap, ct_0, ct_1, ct_2, ct_3, ct_4, ct_5, headD_1, List.mem_cons, List.not_mem_nil, or_false, false_or, or_true, true_or, true_and, and_true, false_and, and_false, not_true_eq_false, not_false_eq_true, if_true, if_false, nr_20, nr_24, nr_40, nr_41, nr_44, pt_lt, pt_ge, pt_eq, pt_ne, pt_gt, pt_le, pt_E, pt_N, pt_F, ite_10, ite_11, ne_eq, and_self, or_self, decide_true, decide_false, Bool.not_true, Bool.not_false, Bool.false_eq_true, Nat.reduceEqDiff, Nat.reduceAdd, Int.reduceEq, Int.reduceLT, Int.reduceLE, Int.reduceNeg, Int.reduceAdd, Int.reduceSub, Int.reduceMul, reduceCtorEq, iA, iS, iM, iD, iR, iN, lA, lS, lM, lD, lR, hC.k, wM_of q1, wM_of q2, wM_of (q_now h.rc), hst.k, hst.p2, hst.a1, hst.n1, hm4, hst.em m hm4.1 hm4.2, hp.1, h.rc.pl.k, h.rc.pl.p3, h.rc.pl.a1, h.rc.pl.n1, h.rc.pl.em m hm4.1 hm4.2, htm, wM_of hrb, y0, y1, y2]
            have q4 := m_isMeasure h.rm (m := m)
            rw [if_pos hmm] at q4
            have q5 := m_canRead h.rm hl
            rw [if_pos hcm] at q5
            have q6 := m_isIn (S := S) (v := v) (x := y) (l := 0) (h := 2)
            rw [if_neg (by omega)] at q6
            have e2 : mX12_would [b + 889, l, x, m, y] S v = some (-2147483648, v) := by
              apply wM_eq
              simp only [mX12_would, sX12_would, wE_I, wE_V, wE_F, wE_A, wE_N, wE_1, wE_2, wE_D, wE_B, wE_If, wE_C, wE_CV, wE_SL, wE_SA, wA_0, wA_1, wC_B, wC_E, wC_And, wC_Or, wC_Not, wS_Skip, wS_Brk, wS_Cnt, wS_RetV, wS_Ret, wS_Seq, wS_Set, wS_Inc, wS_Do, wS_Put, wS_PutC, wS_Arr, wS_ArrC, wS_If, wS_Sw, wS_F0, wS_F1, wM_q, lu_ap, aL_ap, ct_0, ct_1, ct_2, ct_3, ct_4, ct_5, headD_1, List.mem_cons, List.not_mem_nil, or_false, false_or, or_true, true_or, true_and, and_true, false_and, and_false, not_true_eq_false, not_false_eq_true, if_true, if_false, nr_20, nr_24, nr_40, nr_41, nr_44, pt_lt, pt_ge, pt_eq, pt_ne, pt_gt, pt_le, pt_E, pt_N, pt_F, ite_10, ite_11, ne_eq, and_self, or_self, decide_true, decide_false, Bool.not_true, Bool.not_false, Bool.false_eq_true, Nat.reduceEqDiff, Nat.reduceAdd, Int.reduceEq, Int.reduceLT, Int.reduceLE, Int.reduceNeg, Int.reduceAdd, Int.reduceSub, Int.reduceMul, reduceCtorEq, iA, iS, iM, iD, iR, iN, lA, lS, lM, lD, lR, hMo.k, wM_of q5, wM_of q4, wM_of q6]
            exact EQ.pp hX e1 e2 rfl
    · have q1 := q_canPass h.rc (l := l)
      rw [if_neg hc] at q1
      have q2 := m_canRead h.rm hl
      rw [if_neg (by rw [← t.1.1]; exact hc)] at q2
      have q3 := q_isMeasure h.rc (m := m)
      rw [if_pos hm] at q3
      have e1 : mX11_would [b, l, x, m, y] S v = some (-2147483648, v) := by
        apply wM_eq
        simp only [mX11_would, sX11_would, wE_I, wE_V, wE_F, wE_A, wE_N, wE_1, wE_2, wE_D, wE_B, wE_If, wE_C, wE_CV, wE_SL, wE_SA, wA_0, wA_1, wC_B, wC_E, wC_And, wC_Or, wC_Not, wS_Skip, wS_Brk, wS_Cnt, wS_RetV, wS_Ret, wS_Seq, wS_Set, wS_Inc, wS_Do, wS_Put, wS_PutC, wS_Arr, wS_ArrC, wS_If, wS_Sw, wS_F0, wS_F1, wM_q, lu_ap, aL_ap, ct_0, ct_1, ct_2, ct_3, ct_4, ct_5, headD_1, List.mem_cons, List.not_mem_nil, or_false, false_or, or_true, true_or, true_and, and_true, false_and, and_false, not_true_eq_false, not_false_eq_true, if_true, if_false, nr_20, nr_24, nr_40, nr_41, nr_44, pt_lt, pt_ge, pt_eq, pt_ne, pt_gt, pt_le, pt_E, pt_N, pt_F, ite_10, ite_11, ne_eq, and_self, or_self, decide_true, decide_false, Bool.not_true, Bool.not_false, Bool.false_eq_true, Nat.reduceEqDiff, Nat.reduceAdd, Int.reduceEq, Int.reduceLT, Int.reduceLE, Int.reduceNeg, Int.reduceAdd, Int.reduceSub, Int.reduceMul, reduceCtorEq, iA, iS, iM, iD, iR, iN, lA, lS, lM, lD, lR, hC.k, wM_of q1, wM_of q3]
      have e2 : mX12_would [b + 889, l, x, m, y] S v = some (-2147483648, v) := by
        apply wM_eq
        simp only [mX12_would, sX12_would, wE_I, wE_V, wE_F, wE_A, wE_N, wE_1, wE_2, wE_D, wE_B, wE_If, wE_C, wE_CV, wE_SL, wE_SA, wA_0, wA_1, wC_B, wC_E, wC_And, wC_Or, wC_Not, wS_Skip, wS_Brk, wS_Cnt, wS_RetV, wS_Ret, wS_Seq, wS_Set, wS_Inc, wS_Do, wS_Put, wS_PutC, wS_Arr, wS_ArrC, wS_If, wS_Sw, wS_F0, wS_F1, wM_q, lu_ap, aL_ap, ct_0, ct_1, ct_2, ct_3, ct_4, ct_5, headD_1, List.mem_cons, List.not_mem_nil, or_false, false_or, or_true, true_or, true_and, and_true, false_and, and_false, not_true_eq_false, not_false_eq_true, if_true, if_false, nr_20, nr_24, nr_40, nr_41, nr_44, pt_lt, pt_ge, pt_eq, pt_ne, pt_gt, pt_le, pt_E, pt_N, pt_F, ite_10, ite_11, ne_eq, and_self, or_self, decide_true, decide_false, Bool.not_true, Bool.not_false, Bool.false_eq_true, Nat.reduceEqDiff, Nat.reduceAdd, Int.reduceEq, Int.reduceLT, Int.reduceLE, Int.reduceNeg, Int.reduceAdd, Int.reduceSub, Int.reduceMul, reduceCtorEq, iA, iS, iM, iD, iR, iN, lA, lS, lM, lD, lR, hMo.k, wM_of q2]
      exact EQ.pp hX e1 e2 rfl
  · have q3 := q_isMeasure h.rc (m := m)
    rw [if_neg hm] at q3
    have e1 : mX11_would [b, l, x, m, y] S v = some (-2147483648, v) := by
      apply wM_eq
      simp only [mX11_would, sX11_would, wE_I, wE_V, wE_F, wE_A, wE_N, wE_1, wE_2, wE_D, wE_B, wE_If, wE_C, wE_CV, wE_SL, wE_SA, wA_0, wA_1, wC_B, wC_E, wC_And, wC_Or, wC_Not, wS_Skip, wS_Brk, wS_Cnt, wS_RetV, wS_Ret, wS_Seq, wS_Set, wS_Inc, wS_Do, wS_Put, wS_PutC, wS_Arr, wS_ArrC, wS_If, wS_Sw, wS_F0, wS_F1, wM_q, lu_ap, aL_ap, ct_0, ct_1, ct_2, ct_3, ct_4, ct_5, headD_1, List.mem_cons, List.not_mem_nil, or_false, false_or, or_true, true_or, true_and, and_true, false_and, and_false, not_true_eq_false, not_false_eq_true, if_true, if_false, nr_20, nr_24, nr_40, nr_41, nr_44, pt_lt, pt_ge, pt_eq, pt_ne, pt_gt, pt_le, pt_E, pt_N, pt_F, ite_10, ite_11, ne_eq, and_self, or_self, decide_true, decide_false, Bool.not_true, Bool.not_false, Bool.false_eq_true, Nat.reduceEqDiff, Nat.reduceAdd, Int.reduceEq, Int.reduceLT, Int.reduceLE, Int.reduceNeg, Int.reduceAdd, Int.reduceSub, Int.reduceMul, reduceCtorEq, iA, iS, iM, iD, iR, iN, lA, lS, lM, lD, lR, hC.k, wM_of q3]
    have q4 := m_isMeasure h.rm (m := m)
    rw [if_neg (by rw [h.e3]; exact hm)] at q4
    have q2 := m_canRead h.rm hl
    have e2 : mX12_would [b + 889, l, x, m, y] S v = some (-2147483648, v) := by
      apply wM_eq
      by_cases hc : (1 ≤ l ∧ l ≤ 1000) ∧ v (b + 889 + 1) 0 + l ≤ 100000
      · rw [if_pos hc] at q2
        simp only [mX12_would, sX12_would, wE_I, wE_V, wE_F, wE_A, wE_N, wE_1, wE_2, wE_D, wE_B, wE_If, wE_C, wE_CV, wE_SL, wE_SA, wA_0, wA_1, wC_B, wC_E, wC_And, wC_Or, wC_Not, wS_Skip, wS_Brk, wS_Cnt, wS_RetV, wS_Ret, wS_Seq, wS_Set, wS_Inc, wS_Do, wS_Put, wS_PutC, wS_Arr, wS_ArrC, wS_If, wS_Sw, wS_F0, wS_F1, wM_q, lu_ap, aL_ap, ct_0, ct_1, ct_2, ct_3, ct_4, ct_5, headD_1, List.mem_cons, List.not_mem_nil, or_false, false_or, or_true, true_or, true_and, and_true, false_and, and_false, not_true_eq_false, not_false_eq_true, if_true, if_false, nr_20, nr_24, nr_40, nr_41, nr_44, pt_lt, pt_ge, pt_eq, pt_ne, pt_gt, pt_le, pt_E, pt_N, pt_F, ite_10, ite_11, ne_eq, and_self, or_self, decide_true, decide_false, Bool.not_true, Bool.not_false, Bool.false_eq_true, Nat.reduceEqDiff, Nat.reduceAdd, Int.reduceEq, Int.reduceLT, Int.reduceLE, Int.reduceNeg, Int.reduceAdd, Int.reduceSub, Int.reduceMul, reduceCtorEq, iA, iS, iM, iD, iR, iN, lA, lS, lM, lD, lR, hMo.k, wM_of q2, wM_of q4]
      · rw [if_neg hc] at q2
        simp only [mX12_would, sX12_would, wE_I, wE_V, wE_F, wE_A, wE_N, wE_1, wE_2, wE_D, wE_B, wE_If, wE_C, wE_CV, wE_SL, wE_SA, wA_0, wA_1, wC_B, wC_E, wC_And, wC_Or, wC_Not, wS_Skip, wS_Brk, wS_Cnt, wS_RetV, wS_Ret, wS_Seq, wS_Set, wS_Inc, wS_Do, wS_Put, wS_PutC, wS_Arr, wS_ArrC, wS_If, wS_Sw, wS_F0, wS_F1, wM_q, lu_ap, aL_ap, ct_0, ct_1, ct_2, ct_3, ct_4, ct_5, headD_1, List.mem_cons, List.not_mem_nil, or_false, false_or, or_true, true_or, true_and, and_true, false_and, and_false, not_true_eq_false, not_false_eq_true, if_true, if_false, nr_20, nr_24, nr_40, nr_41, nr_44, pt_lt, pt_ge, pt_eq, pt_ne, pt_gt, pt_le, pt_E, pt_N, pt_F, ite_10, ite_11, ne_eq, and_self, or_self, decide_true, decide_false, Bool.not_true, Bool.not_false, Bool.false_eq_true, Nat.reduceEqDiff, Nat.reduceAdd, Int.reduceEq, Int.reduceLT, Int.reduceLE, Int.reduceNeg, Int.reduceAdd, Int.reduceSub, Int.reduceMul, reduceCtorEq, iA, iS, iM, iD, iR, iN, lA, lS, lM, lD, lR, hMo.k, wM_of q2]
    exact EQ.pp hX e1 e2 rfl
end GW
