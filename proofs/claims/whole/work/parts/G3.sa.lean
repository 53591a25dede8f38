/-! STORE: all begun anew, the reference's -/
section SA
variable {S : QS} {u v w : QV} {M B : Int}
theorem Kpm {a k z : Int} (h : Kp S v w) (hk : Wm (S.1 a) k = true) : Kp S v (vu w a k z) := fun b j hb hm => by
  rw [vu_ne (fun e => by rw [e.1, e.2, hk] at hm; cases hm)]
  exact h b j hb hm
theorem m_clearBank (h : LMo S v M) (hB : B = 0 ∨ B = 1) : wM mX12_clearBank [M, B] S v (fun _ w => w (M + 2) B = 1 ∧ (w (M + 3) B = 0 ∧ w (M + 4) B = 0 ∧ w (M + 5) B = 0 ∧ w (M + 6) B = 0 ∧ w (M + 7) B = 0) ∧ (∀ k, 0 ≤ k → k < 4 → w (M + 18) (4 * B + k) = 0) ∧ ∀ a k, (M + 2 ≤ a → a ≤ M + 7 → k ≠ B) → (a = M + 18 → k < 4 * B ∨ 4 * B + 4 ≤ k) → w a k = v a k) := by
  have oB : 0 ≤ B ∧ B < 2 := by omega
  rw [mX12_clearBank, wM_q, sX12_clearBank]
  generalize hL : aL 0 [2, 0] [M, B] = L
  have l0 : L 0 = M := by rw [← hL]; rfl
  have l1 : L 1 = B := by rw [← hL]; rfl
  clear hL
  refine ws_step (L' := L) (w := vu v (M + 2) B 1) (by simp only [wE_I, wE_V, wE_F, wE_A, wE_N, wE_1, wE_2, wE_D, wE_B, wE_If, wE_C, wE_CV, wE_SL, wE_SA, wA_0, wA_1, wC_B, wC_E, wC_And, wC_Or, wC_Not, wS_Skip, wS_Brk, wS_Cnt, wS_RetV, wS_Ret, wS_Seq, wS_Set, wS_Inc, wS_Do, wS_Put, wS_PutC, wS_Arr, wS_ArrC, wS_If, wS_Sw, wS_F0, wS_F1, wM_q, lu_ap, aL_ap, ct_0, ct_1, ct_2, ct_3, ct_4, ct_5, headD_1, List.mem_cons, List.not_mem_nil, or_false, false_or, or_true, true_or, true_and, and_true, false_and, and_false, not_true_eq_false, not_false_eq_true, if_true, if_false, nr_20, nr_24, nr_40, nr_41, nr_44, pt_lt, pt_ge, pt_eq, pt_ne, pt_gt, pt_le, pt_E, pt_N, pt_F, ite_10, ite_11, ne_eq, and_self, or_self, decide_true, decide_false, Bool.not_true, Bool.not_false, Bool.false_eq_true, Nat.reduceEqDiff, Nat.reduceAdd, Int.reduceEq, Int.reduceLT, Int.reduceLE, Int.reduceNeg, Int.reduceAdd, Int.reduceSub, Int.reduceMul, reduceCtorEq, iA, iS, iM, iD, iR, iN, lA, lS, lM, lD, lR, l0, l1, h.k, h.p1, h.a2, h.n2, oB]) ?_
  have h1 : LMo S (vu v (M + 2) B 1) M := h.keep (Kpm Kp.rf (by rw [h.a2]; rfl))
  have g1 : (vu v (M + 2) B 1) (M + 2) B = 1 := vu_is
  have r1 : ∀ a k, (M + 2 ≤ a → a ≤ M + 7 → k ≠ B) → (vu v (M + 2) B 1) a k = v a k := fun a k q => by rw [vu_ne (fun e => q (by omega) (by omega) e.2)]
  generalize vu v (M + 2) B 1 = x1 at *
  refine ws_step (L' := L) (w := vu x1 (M + 3) B 0) (by simp only [wE_I, wE_V, wE_F, wE_A, wE_N, wE_1, wE_2, wE_D, wE_B, wE_If, wE_C, wE_CV, wE_SL, wE_SA, wA_0, wA_1, wC_B, wC_E, wC_And, wC_Or, wC_Not, wS_Skip, wS_Brk, wS_Cnt, wS_RetV, wS_Ret, wS_Seq, wS_Set, wS_Inc, wS_Do, wS_Put, wS_PutC, wS_Arr, wS_ArrC, wS_If, wS_Sw, wS_F0, wS_F1, wM_q, lu_ap, aL_ap, ct_0, ct_1, ct_2, ct_3, ct_4, ct_5, headD_1, List.mem_cons, List.not_mem_nil, or_false, false_or, or_true, true_or, true_and, and_true, false_and, and_false, not_true_eq_false, not_false_eq_true, if_true, if_false, nr_20, nr_24, nr_40, nr_41, nr_44, pt_lt, pt_ge, pt_eq, pt_ne, pt_gt, pt_le, pt_E, pt_N, pt_F, ite_10, ite_11, ne_eq, and_self, or_self, decide_true, decide_false, Bool.not_true, Bool.not_false, Bool.false_eq_true, Nat.reduceEqDiff, Nat.reduceAdd, Int.reduceEq, Int.reduceLT, Int.reduceLE, Int.reduceNeg, Int.reduceAdd, Int.reduceSub, Int.reduceMul, reduceCtorEq, iA, iS, iM, iD, iR, iN, lA, lS, lM, lD, lR, l0, l1, h1.k, h1.p2, h1.a3, h1.n3, oB]) ?_
  have h2 : LMo S (vu x1 (M + 3) B 0) M := h1.keep (Kpm Kp.rf (by rw [h1.a3]; rfl))
  have g2 : (vu x1 (M + 3) B 0) (M + 2) B = 1 ∧ (vu x1 (M + 3) B 0) (M + 3) B = 0 := ⟨by rw [vu_ne (by omega)]; exact g1, vu_is⟩
  have r2 : ∀ a k, (M + 2 ≤ a → a ≤ M + 7 → k ≠ B) → (vu x1 (M + 3) B 0) a k = v a k := fun a k q => by rw [vu_ne (fun e => q (by omega) (by omega) e.2)]; exact r1 a k q
  generalize vu x1 (M + 3) B 0 = x2 at *
  refine ws_step (L' := L) (w := vu x2 (M + 4) B 0) (by simp only [wE_I, wE_V, wE_F, wE_A, wE_N, wE_1, wE_2, wE_D, wE_B, wE_If, wE_C, wE_CV, wE_SL, wE_SA, wA_0, wA_1, wC_B, wC_E, wC_And, wC_Or, wC_Not, wS_Skip, wS_Brk, wS_Cnt, wS_RetV, wS_Ret, wS_Seq, wS_Set, wS_Inc, wS_Do, wS_Put, wS_PutC, wS_Arr, wS_ArrC, wS_If, wS_Sw, wS_F0, wS_F1, wM_q, lu_ap, aL_ap, ct_0, ct_1, ct_2, ct_3, ct_4, ct_5, headD_1, List.mem_cons, List.not_mem_nil, or_false, false_or, or_true, true_or, true_and, and_true, false_and, and_false, not_true_eq_false, not_false_eq_true, if_true, if_false, nr_20, nr_24, nr_40, nr_41, nr_44, pt_lt, pt_ge, pt_eq, pt_ne, pt_gt, pt_le, pt_E, pt_N, pt_F, ite_10, ite_11, ne_eq, and_self, or_self, decide_true, decide_false, Bool.not_true, Bool.not_false, Bool.false_eq_true, Nat.reduceEqDiff, Nat.reduceAdd, Int.reduceEq, Int.reduceLT, Int.reduceLE, Int.reduceNeg, Int.reduceAdd, Int.reduceSub, Int.reduceMul, reduceCtorEq, iA, iS, iM, iD, iR, iN, lA, lS, lM, lD, lR, l0, l1, h2.k, h2.p3, h2.a4, h2.n4, oB]) ?_
  have h3 : LMo S (vu x2 (M + 4) B 0) M := h2.keep (Kpm Kp.rf (by rw [h2.a4]; rfl))
  have g3 : (vu x2 (M + 4) B 0) (M + 2) B = 1 ∧ (vu x2 (M + 4) B 0) (M + 3) B = 0 ∧ (vu x2 (M + 4) B 0) (M + 4) B = 0 := ⟨by rw [vu_ne (by omega)]; exact g2.1, by rw [vu_ne (by omega)]; exact g2.2, vu_is⟩
  have r3 : ∀ a k, (M + 2 ≤ a → a ≤ M + 7 → k ≠ B) → (vu x2 (M + 4) B 0) a k = v a k := fun a k q => by rw [vu_ne (fun e => q (by omega) (by omega) e.2)]; exact r2 a k q
  generalize vu x2 (M + 4) B 0 = x3 at *
  refine ws_step (L' := L) (w := vu x3 (M + 5) B 0) (by simp only [wE_I, wE_V, wE_F, wE_A, wE_N, wE_1, wE_2, wE_D, wE_B, wE_If, wE_C, wE_CV, wE_SL, wE_SA, wA_0, wA_1, wC_B, wC_E, wC_And, wC_Or, wC_Not, wS_Skip, wS_Brk, wS_Cnt, wS_RetV, wS_Ret, wS_Seq, wS_Set, wS_Inc, wS_Do, wS_Put, wS_PutC, wS_Arr, wS_ArrC, wS_If, wS_Sw, wS_F0, wS_F1, wM_q, lu_ap, aL_ap, ct_0, ct_1, ct_2, ct_3, ct_4, ct_5, headD_1, List.mem_cons, List.not_mem_nil, or_false, false_or, or_true, true_or, true_and, and_true, false_and, and_false, not_true_eq_false, not_false_eq_true, if_true, if_false, nr_20, nr_24, nr_40, nr_41, nr_44, pt_lt, pt_ge, pt_eq, pt_ne, pt_gt, pt_le, pt_E, pt_N, pt_F, ite_10, ite_11, ne_eq, and_self, or_self, decide_true, decide_false, Bool.not_true, Bool.not_false, Bool.false_eq_true, Nat.reduceEqDiff, Nat.reduceAdd, Int.reduceEq, Int.reduceLT, Int.reduceLE, Int.reduceNeg, Int.reduceAdd, Int.reduceSub, Int.reduceMul, reduceCtorEq, iA, iS, iM, iD, iR, iN, lA, lS, lM, lD, lR, l0, l1, h3.k, h3.p4, h3.a5, h3.n5, oB]) ?_
  have h4 : LMo S (vu x3 (M + 5) B 0) M := h3.keep (Kpm Kp.rf (by rw [h3.a5]; rfl))
  have g4 : (vu x3 (M + 5) B 0) (M + 2) B = 1 ∧ (vu x3 (M + 5) B 0) (M + 3) B = 0 ∧ (vu x3 (M + 5) B 0) (M + 4) B = 0 ∧ (vu x3 (M + 5) B 0) (M + 5) B = 0 := ⟨by rw [vu_ne (by omega)]; exact g3.1, by rw [vu_ne (by omega)]; exact g3.2.1, by rw [vu_ne (by omega)]; exact g3.2.2, vu_is⟩
  have r4 : ∀ a k, (M + 2 ≤ a → a ≤ M + 7 → k ≠ B) → (vu x3 (M + 5) B 0) a k = v a k := fun a k q => by rw [vu_ne (fun e => q (by omega) (by omega) e.2)]; exact r3 a k q
  generalize vu x3 (M + 5) B 0 = x4 at *
  refine ws_step (L' := L) (w := vu x4 (M + 6) B 0) (by simp only [wE_I, wE_V, wE_F, wE_A, wE_N, wE_1, wE_2, wE_D, wE_B, wE_If, wE_C, wE_CV, wE_SL, wE_SA, wA_0, wA_1, wC_B, wC_E, wC_And, wC_Or, wC_Not, wS_Skip, wS_Brk, wS_Cnt, wS_RetV, wS_Ret, wS_Seq, wS_Set, wS_Inc, wS_Do, wS_Put, wS_PutC, wS_Arr, wS_ArrC, wS_If, wS_Sw, wS_F0, wS_F1, wM_q, lu_ap, aL_ap, ct_0, ct_1, ct_2, ct_3, ct_4, ct_5, headD_1, List.mem_cons, List.not_mem_nil, or_false, false_or, or_true, true_or, true_and, and_true, false_and, and_false, not_true_eq_false, not_false_eq_true, if_true, if_false, nr_20, nr_24, nr_40, nr_41, nr_44, pt_lt, pt_ge, pt_eq, pt_ne, pt_gt, pt_le, pt_E, pt_N, pt_F, ite_10, ite_11, ne_eq, and_self, or_self, decide_true, decide_false, Bool.not_true, Bool.not_false, Bool.false_eq_true, Nat.reduceEqDiff, Nat.reduceAdd, Int.reduceEq, Int.reduceLT, Int.reduceLE, Int.reduceNeg, Int.reduceAdd, Int.reduceSub, Int.reduceMul, reduceCtorEq, iA, iS, iM, iD, iR, iN, lA, lS, lM, lD, lR, l0, l1, h4.k, h4.p5, h4.a6, h4.n6, oB]) ?_
  have h5 : LMo S (vu x4 (M + 6) B 0) M := h4.keep (Kpm Kp.rf (by rw [h4.a6]; rfl))
  have g5 : (vu x4 (M + 6) B 0) (M + 2) B = 1 ∧ (vu x4 (M + 6) B 0) (M + 3) B = 0 ∧ (vu x4 (M + 6) B 0) (M + 4) B = 0 ∧ (vu x4 (M + 6) B 0) (M + 5) B = 0 ∧ (vu x4 (M + 6) B 0) (M + 6) B = 0 := ⟨by rw [vu_ne (by omega)]; exact g4.1, by rw [vu_ne (by omega)]; exact g4.2.1, by rw [vu_ne (by omega)]; exact g4.2.2.1, by rw [vu_ne (by omega)]; exact g4.2.2.2, vu_is⟩
  have r5 : ∀ a k, (M + 2 ≤ a → a ≤ M + 7 → k ≠ B) → (vu x4 (M + 6) B 0) a k = v a k := fun a k q => by rw [vu_ne (fun e => q (by omega) (by omega) e.2)]; exact r4 a k q
  generalize vu x4 (M + 6) B 0 = x5 at *
  refine ws_step (L' := L) (w := vu x5 (M + 7) B 0) (by simp only [wE_I, wE_V, wE_F, wE_A, wE_N, wE_1, wE_2, wE_D, wE_B, wE_If, wE_C, wE_CV, wE_SL, wE_SA, wA_0, wA_1, wC_B, wC_E, wC_And, wC_Or, wC_Not, wS_Skip, wS_Brk, wS_Cnt, wS_RetV, wS_Ret, wS_Seq, wS_Set, wS_Inc, wS_Do, wS_Put, wS_PutC, wS_Arr, wS_ArrC, wS_If, wS_Sw, wS_F0, wS_F1, wM_q, lu_ap, aL_ap, ct_0, ct_1, ct_2, ct_3, ct_4, ct_5, headD_1, List.mem_cons, List.not_mem_nil, or_false, false_or, or_true, true_or, true_and, and_true, false_and, and_false, not_true_eq_false, not_false_eq_true, if_true, if_false, nr_20, nr_24, nr_40, nr_41, nr_44, pt_lt, pt_ge, pt_eq, pt_ne, pt_gt, pt_le, pt_E, pt_N, pt_F, ite_10, ite_11, ne_eq, and_self, or_self, decide_true, decide_false, Bool.not_true, Bool.not_false, Bool.false_eq_true, Nat.reduceEqDiff, Nat.reduceAdd, Int.reduceEq, Int.reduceLT, Int.reduceLE, Int.reduceNeg, Int.reduceAdd, Int.reduceSub, Int.reduceMul, reduceCtorEq, iA, iS, iM, iD, iR, iN, lA, lS, lM, lD, lR, l0, l1, h5.k, h5.p6, h5.a7, h5.n7, oB]) ?_
  have h6 : LMo S (vu x5 (M + 7) B 0) M := h5.keep (Kpm Kp.rf (by rw [h5.a7]; rfl))
  have g6 : (vu x5 (M + 7) B 0) (M + 2) B = 1 ∧ (vu x5 (M + 7) B 0) (M + 3) B = 0 ∧ (vu x5 (M + 7) B 0) (M + 4) B = 0 ∧ (vu x5 (M + 7) B 0) (M + 5) B = 0 ∧ (vu x5 (M + 7) B 0) (M + 6) B = 0 ∧ (vu x5 (M + 7) B 0) (M + 7) B = 0 := ⟨by rw [vu_ne (by omega)]; exact g5.1, by rw [vu_ne (by omega)]; exact g5.2.1, by rw [vu_ne (by omega)]; exact g5.2.2.1, by rw [vu_ne (by omega)]; exact g5.2.2.2.1, by rw [vu_ne (by omega)]; exact g5.2.2.2.2, vu_is⟩
  have r6 : ∀ a k, (M + 2 ≤ a → a ≤ M + 7 → k ≠ B) → (vu x5 (M + 7) B 0) a k = v a k := fun a k q => by rw [vu_ne (fun e => q (by omega) (by omega) e.2)]; exact r5 a k q
  generalize vu x5 (M + 7) B 0 = x6 at *
  rw [wS_Seq]
  refine wS_mono (Q' := fun k _ _ w => k = 0 ∧ (∀ k, 0 ≤ k → k < 4 → w (M + 18) (4 * B + k) = 0) ∧ ∀ a k, (a = M + 18 → k < 4 * B ∨ 4 * B + 4 ≤ k) → w a k = x6 a k) ?_ ?_
  · refine ws_step (L' := lu L 2 0) (w := x6) (by simp only [wE_I, wE_V, wE_F, wE_A, wE_N, wE_1, wE_2, wE_D, wE_B, wE_If, wE_C, wE_CV, wE_SL, wE_SA, wA_0, wA_1, wC_B, wC_E, wC_And, wC_Or, wC_Not, wS_Skip, wS_Brk, wS_Cnt, wS_RetV, wS_Ret, wS_Seq, wS_Set, wS_Inc, wS_Do, wS_Put, wS_PutC, wS_Arr, wS_ArrC, wS_If, wS_Sw, wS_F0, wS_F1, wM_q, lu_ap, aL_ap, ct_0, ct_1, ct_2, ct_3, ct_4, ct_5, headD_1, List.mem_cons, List.not_mem_nil, or_false, false_or, or_true, true_or, true_and, and_true, false_and, and_false, not_true_eq_false, not_false_eq_true, if_true, if_false, nr_20, nr_24, nr_40, nr_41, nr_44, pt_lt, pt_ge, pt_eq, pt_ne, pt_gt, pt_le, pt_E, pt_N, pt_F, ite_10, ite_11, ne_eq, and_self, or_self, decide_true, decide_false, Bool.not_true, Bool.not_false, Bool.false_eq_true, Nat.reduceEqDiff, Nat.reduceAdd, Int.reduceEq, Int.reduceLT, Int.reduceLE, Int.reduceNeg, Int.reduceAdd, Int.reduceSub, Int.reduceMul, reduceCtorEq, iA, iS, iM, iD, iR, iN, lA, lS, lM, lD, lR]) ?_
    have n0 : lu L 2 0 0 = M := by simp [lu_ap, l0]
    have n1 : lu L 2 0 1 = B := by simp [lu_ap, l1]
    have n2 : lu L 2 0 2 = 0 := by simp [lu_ap]
    generalize lu L 2 0 = L1 at *
    refine wS_For 4 (fun j L w => (L 0 = M ∧ L 1 = B ∧ L 2 = j) ∧ Kp S x6 w ∧ (∀ k, 0 ≤ k → k < (j : Int) → w (M + 18) (4 * B + k) = 0) ∧ ∀ a k, (a = M + 18 → k < 4 * B ∨ 4 * B + 4 ≤ k) → w a k = x6 a k) (by decide) ?_ ?_ ?_
    · exact ⟨⟨n0, n1, n2⟩, Kp.rf, fun i i0 i1 => by omega, fun _ _ _ => rfl⟩
    · rintro j L w hj ⟨⟨m0, m1, m2⟩, q1, q3, q4⟩
      have hw := h6.keep q1
      have lt : (j : Int) < 4 := by omega
      have o8 : 0 ≤ 4 * B + (j : Int) ∧ 4 * B + (j : Int) < 8 := by omega
      have hown := fun u : QV => m_own (S := S) (v := u) (k := (j : Int)) hB (by omega)
      have e1 : w32 ((j : Int) + 1) = ((j + 1 : Nat) : Int) := by rw [w32_e (by omega)]; omega
      have hk : Kp S x6 (vu w (M + 18) (4 * B + (j : Int)) 0) := Kpm q1 (by rw [hw.a18]; rfl)
      simp only [cX12_clearBank_1, bX12_clearBank_1, uX12_clearBank_1, wE_I, wE_V, wE_F, wE_A, wE_N, wE_1, wE_2, wE_D, wE_B, wE_If, wE_C, wE_CV, wE_SL, wE_SA, wA_0, wA_1, wC_B, wC_E, wC_And, wC_Or, wC_Not, wS_Skip, wS_Brk, wS_Cnt, wS_RetV, wS_Ret, wS_Seq, wS_Set, wS_Inc, wS_Do, wS_Put, wS_PutC, wS_Arr, wS_ArrC, wS_If, wS_Sw, wS_F0, wS_F1, wM_q, lu_ap, aL_ap, ct_0, ct_1, ct_2, ct_3, ct_4, ct_5, headD_1, List.mem_cons, List.not_mem_nil, or_false, false_or, or_true, true_or, true_and, and_true, false_and, and_false, not_true_eq_false, not_false_eq_true, if_true, if_false, nr_20, nr_24, nr_40, nr_41, nr_44, pt_lt, pt_ge, pt_eq, pt_ne, pt_gt, pt_le, pt_E, pt_N, pt_F, ite_10, ite_11, ne_eq, and_self, or_self, decide_true, decide_false, Bool.not_true, Bool.not_false, Bool.false_eq_true, Nat.reduceEqDiff, Nat.reduceAdd, Int.reduceEq, Int.reduceLT, Int.reduceLE, Int.reduceNeg, Int.reduceAdd, Int.reduceSub, Int.reduceMul, reduceCtorEq, iA, iS, iM, iD, iR, iN, lA, lS, lM, lD, lR, m0, m1, m2, lt, hw.k, hw.p17, hw.a18, hw.n18, wM_of (hown _), o8, e1]
      clear e1
      refine ⟨hk, fun k k0 k1 => ?_, fun a k a1 => by rw [vu_ne (by omega)]; exact q4 a k a1⟩
      by_cases e : k = (j : Int)
      · rw [e]; exact vu_is
      · rw [vu_ne (by omega)]; exact q3 k k0 (by omega)
    · rintro L w ⟨⟨m0, m1, m2⟩, q1, q3, q4⟩
      have nlt : ¬ (((4 : Nat)) : Int) < 4 := by decide
      simp only [cX12_clearBank_1, wE_I, wE_V, wE_F, wE_A, wE_N, wE_1, wE_2, wE_D, wE_B, wE_If, wE_C, wE_CV, wE_SL, wE_SA, wA_0, wA_1, wC_B, wC_E, wC_And, wC_Or, wC_Not, wS_Skip, wS_Brk, wS_Cnt, wS_RetV, wS_Ret, wS_Seq, wS_Set, wS_Inc, wS_Do, wS_Put, wS_PutC, wS_Arr, wS_ArrC, wS_If, wS_Sw, wS_F0, wS_F1, wM_q, lu_ap, aL_ap, ct_0, ct_1, ct_2, ct_3, ct_4, ct_5, headD_1, List.mem_cons, List.not_mem_nil, or_false, false_or, or_true, true_or, true_and, and_true, false_and, and_false, not_true_eq_false, not_false_eq_true, if_true, if_false, nr_20, nr_24, nr_40, nr_41, nr_44, pt_lt, pt_ge, pt_eq, pt_ne, pt_gt, pt_le, pt_E, pt_N, pt_F, ite_10, ite_11, ne_eq, and_self, or_self, decide_true, decide_false, Bool.not_true, Bool.not_false, Bool.false_eq_true, Nat.reduceEqDiff, Nat.reduceAdd, Int.reduceEq, Int.reduceLT, Int.reduceLE, Int.reduceNeg, Int.reduceAdd, Int.reduceSub, Int.reduceMul, reduceCtorEq, iA, iS, iM, iD, iR, iN, lA, lS, lM, lD, lR, m0, m1, m2, nlt]
      exact ⟨fun k k0 k1 => q3 k k0 (by omega), q4⟩
  · rintro k z L' w ⟨rfl, q3, q4⟩
    simp only [wE_I, wE_V, wE_F, wE_A, wE_N, wE_1, wE_2, wE_D, wE_B, wE_If, wE_C, wE_CV, wE_SL, wE_SA, wA_0, wA_1, wC_B, wC_E, wC_And, wC_Or, wC_Not, wS_Skip, wS_Brk, wS_Cnt, wS_RetV, wS_Ret, wS_Seq, wS_Set, wS_Inc, wS_Do, wS_Put, wS_PutC, wS_Arr, wS_ArrC, wS_If, wS_Sw, wS_F0, wS_F1, wM_q, lu_ap, aL_ap, ct_0, ct_1, ct_2, ct_3, ct_4, ct_5, headD_1, List.mem_cons, List.not_mem_nil, or_false, false_or, or_true, true_or, true_and, and_true, false_and, and_false, not_true_eq_false, not_false_eq_true, if_true, if_false, nr_20, nr_24, nr_40, nr_41, nr_44, pt_lt, pt_ge, pt_eq, pt_ne, pt_gt, pt_le, pt_E, pt_N, pt_F, ite_10, ite_11, ne_eq, and_self, or_self, decide_true, decide_false, Bool.not_true, Bool.not_false, Bool.false_eq_true, Nat.reduceEqDiff, Nat.reduceAdd, Int.reduceEq, Int.reduceLT, Int.reduceLE, Int.reduceNeg, Int.reduceAdd, Int.reduceSub, Int.reduceMul, reduceCtorEq, iA, iS, iM, iD, iR, iN, lA, lS, lM, lD, lR, if_pos]
    refine ⟨by rw [q4 _ _ (by omega)]; exact g6.1, ⟨by rw [q4 _ _ (by omega)]; exact g6.2.1, by rw [q4 _ _ (by omega)]; exact g6.2.2.1, by rw [q4 _ _ (by omega)]; exact g6.2.2.2.1, by rw [q4 _ _ (by omega)]; exact g6.2.2.2.2.1, by rw [q4 _ _ (by omega)]; exact g6.2.2.2.2.2⟩, q3, fun a k a1 a2 => by rw [q4 _ _ a2]; exact r6 a k a1⟩
/-- a measure begun -/
def AnM (v : QV) (M B : Int) (f : Int → Int) (m : Int) : Prop := (f (3 + 12 * m + 0) = v (M + 11) (4 * B + m) ∧ f (3 + 12 * m + 1) = v (M + 12) (4 * B + m) ∧ f (3 + 12 * m + 2) = v (M + 13) (4 * B + m)) ∧ f (3 + 12 * m + 3) = -1 ∧ f (3 + 12 * m + 4) = -2147483648 ∧ f (3 + 12 * m + 5) = -2147483648 ∧ f (3 + 12 * m + 8) = -2147483648 ∧ f (3 + 12 * m + 9) = -2147483648
def AnZ (f : Int → Int) : Prop := ∀ k, 0 ≤ k → k < 1095 → (k < 3 ∨ 51 ≤ k ∨ (k - 3) % 12 = 6 ∨ (k - 3) % 12 = 7) → f k = 0
theorem m_anew1 {j : Int} {L : QL} (h : LMo S v M) (hB : B = 0 ∨ B = 1) (h28 : v M 28 = B) (hj : 0 ≤ j ∧ j < 4) (l0 : L 0 = M) (l1 : L 1 = j) : wS bX12_startAnew_2 L S v (fun k _ L' w => k = 0 ∧ L' = lu L 2 (4 * B + j) ∧ Kp S v w ∧ AnM v M B (w (M + 1)) j ∧ (∀ a k, (a = M + 1 → k ≠ 3 + 12 * j + 0 ∧ k ≠ 3 + 12 * j + 1 ∧ k ≠ 3 + 12 * j + 2 ∧ k ≠ 3 + 12 * j + 3 ∧ k ≠ 3 + 12 * j + 4 ∧ k ≠ 3 + 12 * j + 5 ∧ k ≠ 3 + 12 * j + 8 ∧ k ≠ 3 + 12 * j + 9) → w a k = v a k)) := by
  have o8 : 0 ≤ 4 * B + j ∧ 4 * B + j < 8 := by omega
  have hown := fun u : QV => m_own (S := S) (v := u) (k := j) hB (by omega)
  have hat := fun (c : Int) (hc : 0 ≤ c ∧ c < 12) (u : QV) => m_atMeasure (S := S) (v := u) hj hc
  rw [bX12_startAnew_2]
  refine ws_step (L' := lu L 2 (4 * B + j)) (w := v) (by simp only [wE_I, wE_V, wE_F, wE_A, wE_N, wE_1, wE_2, wE_D, wE_B, wE_If, wE_C, wE_CV, wE_SL, wE_SA, wA_0, wA_1, wC_B, wC_E, wC_And, wC_Or, wC_Not, wS_Skip, wS_Brk, wS_Cnt, wS_RetV, wS_Ret, wS_Seq, wS_Set, wS_Inc, wS_Do, wS_Put, wS_PutC, wS_Arr, wS_ArrC, wS_If, wS_Sw, wS_F0, wS_F1, wM_q, lu_ap, aL_ap, ct_0, ct_1, ct_2, ct_3, ct_4, ct_5, headD_1, List.mem_cons, List.not_mem_nil, or_false, false_or, or_true, true_or, true_and, and_true, false_and, and_false, not_true_eq_false, not_false_eq_true, if_true, if_false, nr_20, nr_24, nr_40, nr_41, nr_44, pt_lt, pt_ge, pt_eq, pt_ne, pt_gt, pt_le, pt_E, pt_N, pt_F, ite_10, ite_11, ne_eq, and_self, or_self, decide_true, decide_false, Bool.not_true, Bool.not_false, Bool.false_eq_true, Nat.reduceEqDiff, Nat.reduceAdd, Int.reduceEq, Int.reduceLT, Int.reduceLE, Int.reduceNeg, Int.reduceAdd, Int.reduceSub, Int.reduceMul, reduceCtorEq, iA, iS, iM, iD, iR, iN, lA, lS, lM, lD, lR, l0, l1, h.k, h28, wM_of (hown _)]) ?_
  have n0 : lu L 2 (4 * B + j) 0 = M := by simp [lu_ap, l0]
  have n1 : lu L 2 (4 * B + j) 1 = j := by simp [lu_ap, l1]
  have n2 : lu L 2 (4 * B + j) 2 = 4 * B + j := by simp [lu_ap]
  generalize lu L 2 (4 * B + j) = L1 at *
  have r0 : ∀ a k, a ≠ M + 1 → v a k = v a k := fun _ _ _ => rfl
  have s0 : ∀ a k, (a = M + 1 → k ≠ 3 + 12 * j + 0 ∧ k ≠ 3 + 12 * j + 1 ∧ k ≠ 3 + 12 * j + 2 ∧ k ≠ 3 + 12 * j + 3 ∧ k ≠ 3 + 12 * j + 4 ∧ k ≠ 3 + 12 * j + 5 ∧ k ≠ 3 + 12 * j + 8 ∧ k ≠ 3 + 12 * j + 9) → v a k = v a k := fun _ _ _ => rfl
  have q0 : Kp S v v := Kp.rf
  have c0 : v (M + 11) (4 * B + j) = v (M + 11) (4 * B + j) := r0 _ _ (by omega)
  have i0 : 0 ≤ 3 + 12 * j + 0 ∧ 3 + 12 * j + 0 < 1095 := by omega
  refine ws_step (L' := L1) (w := (vu v (M + 1) (3 + 12 * j + 0) (v (M + 11) (4 * B + j)))) (by simp only [wE_I, wE_V, wE_F, wE_A, wE_N, wE_1, wE_2, wE_D, wE_B, wE_If, wE_C, wE_CV, wE_SL, wE_SA, wA_0, wA_1, wC_B, wC_E, wC_And, wC_Or, wC_Not, wS_Skip, wS_Brk, wS_Cnt, wS_RetV, wS_Ret, wS_Seq, wS_Set, wS_Inc, wS_Do, wS_Put, wS_PutC, wS_Arr, wS_ArrC, wS_If, wS_Sw, wS_F0, wS_F1, wM_q, lu_ap, aL_ap, ct_0, ct_1, ct_2, ct_3, ct_4, ct_5, headD_1, List.mem_cons, List.not_mem_nil, or_false, false_or, or_true, true_or, true_and, and_true, false_and, and_false, not_true_eq_false, not_false_eq_true, if_true, if_false, nr_20, nr_24, nr_40, nr_41, nr_44, pt_lt, pt_ge, pt_eq, pt_ne, pt_gt, pt_le, pt_E, pt_N, pt_F, ite_10, ite_11, ne_eq, and_self, or_self, decide_true, decide_false, Bool.not_true, Bool.not_false, Bool.false_eq_true, Nat.reduceEqDiff, Nat.reduceAdd, Int.reduceEq, Int.reduceLT, Int.reduceLE, Int.reduceNeg, Int.reduceAdd, Int.reduceSub, Int.reduceMul, reduceCtorEq, iA, iS, iM, iD, iR, iN, lA, lS, lM, lD, lR, n0, n1, h.k, h.p0, h.a1, h.n1, wM_of (hat 0 (by decide) _), i0, h.p10, h.a11, h.n11, o8, c0, n2]) ?_
  have q1 : Kp S v (vu v (M + 1) (3 + 12 * j + 0) (v (M + 11) (4 * B + j))) := Kpm q0 (by rw [h.a1]; rfl)
  have h1 : LMo S (vu v (M + 1) (3 + 12 * j + 0) (v (M + 11) (4 * B + j))) M := h.keep q1
  have r1 : ∀ a k, a ≠ M + 1 → (vu v (M + 1) (3 + 12 * j + 0) (v (M + 11) (4 * B + j))) a k = v a k := fun a k q => by rw [vu_ne (fun e => q e.1)]
  have s1 : ∀ a k, (a = M + 1 → k ≠ 3 + 12 * j + 0 ∧ k ≠ 3 + 12 * j + 1 ∧ k ≠ 3 + 12 * j + 2 ∧ k ≠ 3 + 12 * j + 3 ∧ k ≠ 3 + 12 * j + 4 ∧ k ≠ 3 + 12 * j + 5 ∧ k ≠ 3 + 12 * j + 8 ∧ k ≠ 3 + 12 * j + 9) → (vu v (M + 1) (3 + 12 * j + 0) (v (M + 11) (4 * B + j))) a k = v a k := fun a k q => by rw [vu_ne (by omega)]
  have t1_0 : (vu v (M + 1) (3 + 12 * j + 0) (v (M + 11) (4 * B + j))) (M + 1) (3 + 12 * j + 0) = (v (M + 11) (4 * B + j)) := vu_is
  generalize vu v (M + 1) (3 + 12 * j + 0) (v (M + 11) (4 * B + j)) = x1 at *
  have c1 : x1 (M + 12) (4 * B + j) = v (M + 12) (4 * B + j) := r1 _ _ (by omega)
  have i1 : 0 ≤ 3 + 12 * j + 1 ∧ 3 + 12 * j + 1 < 1095 := by omega
  refine ws_step (L' := L1) (w := (vu x1 (M + 1) (3 + 12 * j + 1) (v (M + 12) (4 * B + j)))) (by simp only [wE_I, wE_V, wE_F, wE_A, wE_N, wE_1, wE_2, wE_D, wE_B, wE_If, wE_C, wE_CV, wE_SL, wE_SA, wA_0, wA_1, wC_B, wC_E, wC_And, wC_Or, wC_Not, wS_Skip, wS_Brk, wS_Cnt, wS_RetV, wS_Ret, wS_Seq, wS_Set, wS_Inc, wS_Do, wS_Put, wS_PutC, wS_Arr, wS_ArrC, wS_If, wS_Sw, wS_F0, wS_F1, wM_q, lu_ap, aL_ap, ct_0, ct_1, ct_2, ct_3, ct_4, ct_5, headD_1, List.mem_cons, List.not_mem_nil, or_false, false_or, or_true, true_or, true_and, and_true, false_and, and_false, not_true_eq_false, not_false_eq_true, if_true, if_false, nr_20, nr_24, nr_40, nr_41, nr_44, pt_lt, pt_ge, pt_eq, pt_ne, pt_gt, pt_le, pt_E, pt_N, pt_F, ite_10, ite_11, ne_eq, and_self, or_self, decide_true, decide_false, Bool.not_true, Bool.not_false, Bool.false_eq_true, Nat.reduceEqDiff, Nat.reduceAdd, Int.reduceEq, Int.reduceLT, Int.reduceLE, Int.reduceNeg, Int.reduceAdd, Int.reduceSub, Int.reduceMul, reduceCtorEq, iA, iS, iM, iD, iR, iN, lA, lS, lM, lD, lR, n0, n1, h1.k, h1.p0, h1.a1, h1.n1, wM_of (hat 1 (by decide) _), i1, h1.p11, h1.a12, h1.n12, o8, c1, n2]) ?_
  have q2 : Kp S v (vu x1 (M + 1) (3 + 12 * j + 1) (v (M + 12) (4 * B + j))) := Kpm q1 (by rw [h1.a1]; rfl)
  have h2 : LMo S (vu x1 (M + 1) (3 + 12 * j + 1) (v (M + 12) (4 * B + j))) M := h.keep q2
  have r2 : ∀ a k, a ≠ M + 1 → (vu x1 (M + 1) (3 + 12 * j + 1) (v (M + 12) (4 * B + j))) a k = v a k := fun a k q => by rw [vu_ne (fun e => q e.1)]; exact r1 a k q
  have s2 : ∀ a k, (a = M + 1 → k ≠ 3 + 12 * j + 0 ∧ k ≠ 3 + 12 * j + 1 ∧ k ≠ 3 + 12 * j + 2 ∧ k ≠ 3 + 12 * j + 3 ∧ k ≠ 3 + 12 * j + 4 ∧ k ≠ 3 + 12 * j + 5 ∧ k ≠ 3 + 12 * j + 8 ∧ k ≠ 3 + 12 * j + 9) → (vu x1 (M + 1) (3 + 12 * j + 1) (v (M + 12) (4 * B + j))) a k = v a k := fun a k q => by rw [vu_ne (by omega)]; exact s1 a k q
  have t2_0 : (vu x1 (M + 1) (3 + 12 * j + 1) (v (M + 12) (4 * B + j))) (M + 1) (3 + 12 * j + 0) = (v (M + 11) (4 * B + j)) := by rw [vu_ne (by omega)]; exact t1_0
  have t2_1 : (vu x1 (M + 1) (3 + 12 * j + 1) (v (M + 12) (4 * B + j))) (M + 1) (3 + 12 * j + 1) = (v (M + 12) (4 * B + j)) := vu_is
  generalize vu x1 (M + 1) (3 + 12 * j + 1) (v (M + 12) (4 * B + j)) = x2 at *
  have c2 : x2 (M + 13) (4 * B + j) = v (M + 13) (4 * B + j) := r2 _ _ (by omega)
  have i2 : 0 ≤ 3 + 12 * j + 2 ∧ 3 + 12 * j + 2 < 1095 := by omega
  refine ws_step (L' := L1) (w := (vu x2 (M + 1) (3 + 12 * j + 2) (v (M + 13) (4 * B + j)))) (by simp only [wE_I, wE_V, wE_F, wE_A, wE_N, wE_1, wE_2, wE_D, wE_B, wE_If, wE_C, wE_CV, wE_SL, wE_SA, wA_0, wA_1, wC_B, wC_E, wC_And, wC_Or, wC_Not, wS_Skip, wS_Brk, wS_Cnt, wS_RetV, wS_Ret, wS_Seq, wS_Set, wS_Inc, wS_Do, wS_Put, wS_PutC, wS_Arr, wS_ArrC, wS_If, wS_Sw, wS_F0, wS_F1, wM_q, lu_ap, aL_ap, ct_0, ct_1, ct_2, ct_3, ct_4, ct_5, headD_1, List.mem_cons, List.not_mem_nil, or_false, false_or, or_true, true_or, true_and, and_true, false_and, and_false, not_true_eq_false, not_false_eq_true, if_true, if_false, nr_20, nr_24, nr_40, nr_41, nr_44, pt_lt, pt_ge, pt_eq, pt_ne, pt_gt, pt_le, pt_E, pt_N, pt_F, ite_10, ite_11, ne_eq, and_self, or_self, decide_true, decide_false, Bool.not_true, Bool.not_false, Bool.false_eq_true, Nat.reduceEqDiff, Nat.reduceAdd, Int.reduceEq, Int.reduceLT, Int.reduceLE, Int.reduceNeg, Int.reduceAdd, Int.reduceSub, Int.reduceMul, reduceCtorEq, iA, iS, iM, iD, iR, iN, lA, lS, lM, lD, lR, n0, n1, h2.k, h2.p0, h2.a1, h2.n1, wM_of (hat 2 (by decide) _), i2, h2.p12, h2.a13, h2.n13, o8, c2, n2]) ?_
  have q3 : Kp S v (vu x2 (M + 1) (3 + 12 * j + 2) (v (M + 13) (4 * B + j))) := Kpm q2 (by rw [h2.a1]; rfl)
  have h3 : LMo S (vu x2 (M + 1) (3 + 12 * j + 2) (v (M + 13) (4 * B + j))) M := h.keep q3
  have r3 : ∀ a k, a ≠ M + 1 → (vu x2 (M + 1) (3 + 12 * j + 2) (v (M + 13) (4 * B + j))) a k = v a k := fun a k q => by rw [vu_ne (fun e => q e.1)]; exact r2 a k q
  have s3 : ∀ a k, (a = M + 1 → k ≠ 3 + 12 * j + 0 ∧ k ≠ 3 + 12 * j + 1 ∧ k ≠ 3 + 12 * j + 2 ∧ k ≠ 3 + 12 * j + 3 ∧ k ≠ 3 + 12 * j + 4 ∧ k ≠ 3 + 12 * j + 5 ∧ k ≠ 3 + 12 * j + 8 ∧ k ≠ 3 + 12 * j + 9) → (vu x2 (M + 1) (3 + 12 * j + 2) (v (M + 13) (4 * B + j))) a k = v a k := fun a k q => by rw [vu_ne (by omega)]; exact s2 a k q
  have t3_0 : (vu x2 (M + 1) (3 + 12 * j + 2) (v (M + 13) (4 * B + j))) (M + 1) (3 + 12 * j + 0) = (v (M + 11) (4 * B + j)) := by rw [vu_ne (by omega)]; exact t2_0
  have t3_1 : (vu x2 (M + 1) (3 + 12 * j + 2) (v (M + 13) (4 * B + j))) (M + 1) (3 + 12 * j + 1) = (v (M + 12) (4 * B + j)) := by rw [vu_ne (by omega)]; exact t2_1
  have t3_2 : (vu x2 (M + 1) (3 + 12 * j + 2) (v (M + 13) (4 * B + j))) (M + 1) (3 + 12 * j + 2) = (v (M + 13) (4 * B + j)) := vu_is
  generalize vu x2 (M + 1) (3 + 12 * j + 2) (v (M + 13) (4 * B + j)) = x3 at *
  have i3 : 0 ≤ 3 + 12 * j + 3 ∧ 3 + 12 * j + 3 < 1095 := by omega
  refine ws_step (L' := L1) (w := (vu x3 (M + 1) (3 + 12 * j + 3) (-1))) (by simp only [wE_I, wE_V, wE_F, wE_A, wE_N, wE_1, wE_2, wE_D, wE_B, wE_If, wE_C, wE_CV, wE_SL, wE_SA, wA_0, wA_1, wC_B, wC_E, wC_And, wC_Or, wC_Not, wS_Skip, wS_Brk, wS_Cnt, wS_RetV, wS_Ret, wS_Seq, wS_Set, wS_Inc, wS_Do, wS_Put, wS_PutC, wS_Arr, wS_ArrC, wS_If, wS_Sw, wS_F0, wS_F1, wM_q, lu_ap, aL_ap, ct_0, ct_1, ct_2, ct_3, ct_4, ct_5, headD_1, List.mem_cons, List.not_mem_nil, or_false, false_or, or_true, true_or, true_and, and_true, false_and, and_false, not_true_eq_false, not_false_eq_true, if_true, if_false, nr_20, nr_24, nr_40, nr_41, nr_44, pt_lt, pt_ge, pt_eq, pt_ne, pt_gt, pt_le, pt_E, pt_N, pt_F, ite_10, ite_11, ne_eq, and_self, or_self, decide_true, decide_false, Bool.not_true, Bool.not_false, Bool.false_eq_true, Nat.reduceEqDiff, Nat.reduceAdd, Int.reduceEq, Int.reduceLT, Int.reduceLE, Int.reduceNeg, Int.reduceAdd, Int.reduceSub, Int.reduceMul, reduceCtorEq, iA, iS, iM, iD, iR, iN, lA, lS, lM, lD, lR, n0, n1, h3.k, h3.p0, h3.a1, h3.n1, wM_of (hat 3 (by decide) _), i3]) ?_
  have q4 : Kp S v (vu x3 (M + 1) (3 + 12 * j + 3) (-1)) := Kpm q3 (by rw [h3.a1]; rfl)
  have h4 : LMo S (vu x3 (M + 1) (3 + 12 * j + 3) (-1)) M := h.keep q4
  have r4 : ∀ a k, a ≠ M + 1 → (vu x3 (M + 1) (3 + 12 * j + 3) (-1)) a k = v a k := fun a k q => by rw [vu_ne (fun e => q e.1)]; exact r3 a k q
  have s4 : ∀ a k, (a = M + 1 → k ≠ 3 + 12 * j + 0 ∧ k ≠ 3 + 12 * j + 1 ∧ k ≠ 3 + 12 * j + 2 ∧ k ≠ 3 + 12 * j + 3 ∧ k ≠ 3 + 12 * j + 4 ∧ k ≠ 3 + 12 * j + 5 ∧ k ≠ 3 + 12 * j + 8 ∧ k ≠ 3 + 12 * j + 9) → (vu x3 (M + 1) (3 + 12 * j + 3) (-1)) a k = v a k := fun a k q => by rw [vu_ne (by omega)]; exact s3 a k q
  have t4_0 : (vu x3 (M + 1) (3 + 12 * j + 3) (-1)) (M + 1) (3 + 12 * j + 0) = (v (M + 11) (4 * B + j)) := by rw [vu_ne (by omega)]; exact t3_0
  have t4_1 : (vu x3 (M + 1) (3 + 12 * j + 3) (-1)) (M + 1) (3 + 12 * j + 1) = (v (M + 12) (4 * B + j)) := by rw [vu_ne (by omega)]; exact t3_1
  have t4_2 : (vu x3 (M + 1) (3 + 12 * j + 3) (-1)) (M + 1) (3 + 12 * j + 2) = (v (M + 13) (4 * B + j)) := by rw [vu_ne (by omega)]; exact t3_2
  have t4_3 : (vu x3 (M + 1) (3 + 12 * j + 3) (-1)) (M + 1) (3 + 12 * j + 3) = (-1) := vu_is
  generalize vu x3 (M + 1) (3 + 12 * j + 3) (-1) = x4 at *
  have i4 : 0 ≤ 3 + 12 * j + 4 ∧ 3 + 12 * j + 4 < 1095 := by omega
  refine ws_step (L' := L1) (w := (vu x4 (M + 1) (3 + 12 * j + 4) (-2147483648))) (by simp only [wE_I, wE_V, wE_F, wE_A, wE_N, wE_1, wE_2, wE_D, wE_B, wE_If, wE_C, wE_CV, wE_SL, wE_SA, wA_0, wA_1, wC_B, wC_E, wC_And, wC_Or, wC_Not, wS_Skip, wS_Brk, wS_Cnt, wS_RetV, wS_Ret, wS_Seq, wS_Set, wS_Inc, wS_Do, wS_Put, wS_PutC, wS_Arr, wS_ArrC, wS_If, wS_Sw, wS_F0, wS_F1, wM_q, lu_ap, aL_ap, ct_0, ct_1, ct_2, ct_3, ct_4, ct_5, headD_1, List.mem_cons, List.not_mem_nil, or_false, false_or, or_true, true_or, true_and, and_true, false_and, and_false, not_true_eq_false, not_false_eq_true, if_true, if_false, nr_20, nr_24, nr_40, nr_41, nr_44, pt_lt, pt_ge, pt_eq, pt_ne, pt_gt, pt_le, pt_E, pt_N, pt_F, ite_10, ite_11, ne_eq, and_self, or_self, decide_true, decide_false, Bool.not_true, Bool.not_false, Bool.false_eq_true, Nat.reduceEqDiff, Nat.reduceAdd, Int.reduceEq, Int.reduceLT, Int.reduceLE, Int.reduceNeg, Int.reduceAdd, Int.reduceSub, Int.reduceMul, reduceCtorEq, iA, iS, iM, iD, iR, iN, lA, lS, lM, lD, lR, n0, n1, h4.k, h4.p0, h4.a1, h4.n1, wM_of (hat 4 (by decide) _), i4]) ?_
  have q5 : Kp S v (vu x4 (M + 1) (3 + 12 * j + 4) (-2147483648)) := Kpm q4 (by rw [h4.a1]; rfl)
  have h5 : LMo S (vu x4 (M + 1) (3 + 12 * j + 4) (-2147483648)) M := h.keep q5
  have r5 : ∀ a k, a ≠ M + 1 → (vu x4 (M + 1) (3 + 12 * j + 4) (-2147483648)) a k = v a k := fun a k q => by rw [vu_ne (fun e => q e.1)]; exact r4 a k q
  have s5 : ∀ a k, (a = M + 1 → k ≠ 3 + 12 * j + 0 ∧ k ≠ 3 + 12 * j + 1 ∧ k ≠ 3 + 12 * j + 2 ∧ k ≠ 3 + 12 * j + 3 ∧ k ≠ 3 + 12 * j + 4 ∧ k ≠ 3 + 12 * j + 5 ∧ k ≠ 3 + 12 * j + 8 ∧ k ≠ 3 + 12 * j + 9) → (vu x4 (M + 1) (3 + 12 * j + 4) (-2147483648)) a k = v a k := fun a k q => by rw [vu_ne (by omega)]; exact s4 a k q
  have t5_0 : (vu x4 (M + 1) (3 + 12 * j + 4) (-2147483648)) (M + 1) (3 + 12 * j + 0) = (v (M + 11) (4 * B + j)) := by rw [vu_ne (by omega)]; exact t4_0
  have t5_1 : (vu x4 (M + 1) (3 + 12 * j + 4) (-2147483648)) (M + 1) (3 + 12 * j + 1) = (v (M + 12) (4 * B + j)) := by rw [vu_ne (by omega)]; exact t4_1
  have t5_2 : (vu x4 (M + 1) (3 + 12 * j + 4) (-2147483648)) (M + 1) (3 + 12 * j + 2) = (v (M + 13) (4 * B + j)) := by rw [vu_ne (by omega)]; exact t4_2
  have t5_3 : (vu x4 (M + 1) (3 + 12 * j + 4) (-2147483648)) (M + 1) (3 + 12 * j + 3) = (-1) := by rw [vu_ne (by omega)]; exact t4_3
  have t5_4 : (vu x4 (M + 1) (3 + 12 * j + 4) (-2147483648)) (M + 1) (3 + 12 * j + 4) = (-2147483648) := vu_is
  generalize vu x4 (M + 1) (3 + 12 * j + 4) (-2147483648) = x5 at *
  have i5 : 0 ≤ 3 + 12 * j + 5 ∧ 3 + 12 * j + 5 < 1095 := by omega
  refine ws_step (L' := L1) (w := (vu x5 (M + 1) (3 + 12 * j + 5) (-2147483648))) (by simp only [wE_I, wE_V, wE_F, wE_A, wE_N, wE_1, wE_2, wE_D, wE_B, wE_If, wE_C, wE_CV, wE_SL, wE_SA, wA_0, wA_1, wC_B, wC_E, wC_And, wC_Or, wC_Not, wS_Skip, wS_Brk, wS_Cnt, wS_RetV, wS_Ret, wS_Seq, wS_Set, wS_Inc, wS_Do, wS_Put, wS_PutC, wS_Arr, wS_ArrC, wS_If, wS_Sw, wS_F0, wS_F1, wM_q, lu_ap, aL_ap, ct_0, ct_1, ct_2, ct_3, ct_4, ct_5, headD_1, List.mem_cons, List.not_mem_nil, or_false, false_or, or_true, true_or, true_and, and_true, false_and, and_false, not_true_eq_false, not_false_eq_true, if_true, if_false, nr_20, nr_24, nr_40, nr_41, nr_44, pt_lt, pt_ge, pt_eq, pt_ne, pt_gt, pt_le, pt_E, pt_N, pt_F, ite_10, ite_11, ne_eq, and_self, or_self, decide_true, decide_false, Bool.not_true, Bool.not_false, Bool.false_eq_true, Nat.reduceEqDiff, Nat.reduceAdd, Int.reduceEq, Int.reduceLT, Int.reduceLE, Int.reduceNeg, Int.reduceAdd, Int.reduceSub, Int.reduceMul, reduceCtorEq, iA, iS, iM, iD, iR, iN, lA, lS, lM, lD, lR, n0, n1, h5.k, h5.p0, h5.a1, h5.n1, wM_of (hat 5 (by decide) _), i5]) ?_
  have q6 : Kp S v (vu x5 (M + 1) (3 + 12 * j + 5) (-2147483648)) := Kpm q5 (by rw [h5.a1]; rfl)
  have h6 : LMo S (vu x5 (M + 1) (3 + 12 * j + 5) (-2147483648)) M := h.keep q6
  have r6 : ∀ a k, a ≠ M + 1 → (vu x5 (M + 1) (3 + 12 * j + 5) (-2147483648)) a k = v a k := fun a k q => by rw [vu_ne (fun e => q e.1)]; exact r5 a k q
  have s6 : ∀ a k, (a = M + 1 → k ≠ 3 + 12 * j + 0 ∧ k ≠ 3 + 12 * j + 1 ∧ k ≠ 3 + 12 * j + 2 ∧ k ≠ 3 + 12 * j + 3 ∧ k ≠ 3 + 12 * j + 4 ∧ k ≠ 3 + 12 * j + 5 ∧ k ≠ 3 + 12 * j + 8 ∧ k ≠ 3 + 12 * j + 9) → (vu x5 (M + 1) (3 + 12 * j + 5) (-2147483648)) a k = v a k := fun a k q => by rw [vu_ne (by omega)]; exact s5 a k q
  have t6_0 : (vu x5 (M + 1) (3 + 12 * j + 5) (-2147483648)) (M + 1) (3 + 12 * j + 0) = (v (M + 11) (4 * B + j)) := by rw [vu_ne (by omega)]; exact t5_0
  have t6_1 : (vu x5 (M + 1) (3 + 12 * j + 5) (-2147483648)) (M + 1) (3 + 12 * j + 1) = (v (M + 12) (4 * B + j)) := by rw [vu_ne (by omega)]; exact t5_1
  have t6_2 : (vu x5 (M + 1) (3 + 12 * j + 5) (-2147483648)) (M + 1) (3 + 12 * j + 2) = (v (M + 13) (4 * B + j)) := by rw [vu_ne (by omega)]; exact t5_2
  have t6_3 : (vu x5 (M + 1) (3 + 12 * j + 5) (-2147483648)) (M + 1) (3 + 12 * j + 3) = (-1) := by rw [vu_ne (by omega)]; exact t5_3
  have t6_4 : (vu x5 (M + 1) (3 + 12 * j + 5) (-2147483648)) (M + 1) (3 + 12 * j + 4) = (-2147483648) := by rw [vu_ne (by omega)]; exact t5_4
  have t6_5 : (vu x5 (M + 1) (3 + 12 * j + 5) (-2147483648)) (M + 1) (3 + 12 * j + 5) = (-2147483648) := vu_is
  generalize vu x5 (M + 1) (3 + 12 * j + 5) (-2147483648) = x6 at *
  have i6 : 0 ≤ 3 + 12 * j + 8 ∧ 3 + 12 * j + 8 < 1095 := by omega
  refine ws_step (L' := L1) (w := (vu x6 (M + 1) (3 + 12 * j + 8) (-2147483648))) (by simp only [wE_I, wE_V, wE_F, wE_A, wE_N, wE_1, wE_2, wE_D, wE_B, wE_If, wE_C, wE_CV, wE_SL, wE_SA, wA_0, wA_1, wC_B, wC_E, wC_And, wC_Or, wC_Not, wS_Skip, wS_Brk, wS_Cnt, wS_RetV, wS_Ret, wS_Seq, wS_Set, wS_Inc, wS_Do, wS_Put, wS_PutC, wS_Arr, wS_ArrC, wS_If, wS_Sw, wS_F0, wS_F1, wM_q, lu_ap, aL_ap, ct_0, ct_1, ct_2, ct_3, ct_4, ct_5, headD_1, List.mem_cons, List.not_mem_nil, or_false, false_or, or_true, true_or, true_and, and_true, false_and, and_false, not_true_eq_false, not_false_eq_true, if_true, if_false, nr_20, nr_24, nr_40, nr_41, nr_44, pt_lt, pt_ge, pt_eq, pt_ne, pt_gt, pt_le, pt_E, pt_N, pt_F, ite_10, ite_11, ne_eq, and_self, or_self, decide_true, decide_false, Bool.not_true, Bool.not_false, Bool.false_eq_true, Nat.reduceEqDiff, Nat.reduceAdd, Int.reduceEq, Int.reduceLT, Int.reduceLE, Int.reduceNeg, Int.reduceAdd, Int.reduceSub, Int.reduceMul, reduceCtorEq, iA, iS, iM, iD, iR, iN, lA, lS, lM, lD, lR, n0, n1, h6.k, h6.p0, h6.a1, h6.n1, wM_of (hat 8 (by decide) _), i6]) ?_
  have q7 : Kp S v (vu x6 (M + 1) (3 + 12 * j + 8) (-2147483648)) := Kpm q6 (by rw [h6.a1]; rfl)
  have h7 : LMo S (vu x6 (M + 1) (3 + 12 * j + 8) (-2147483648)) M := h.keep q7
  have r7 : ∀ a k, a ≠ M + 1 → (vu x6 (M + 1) (3 + 12 * j + 8) (-2147483648)) a k = v a k := fun a k q => by rw [vu_ne (fun e => q e.1)]; exact r6 a k q
  have s7 : ∀ a k, (a = M + 1 → k ≠ 3 + 12 * j + 0 ∧ k ≠ 3 + 12 * j + 1 ∧ k ≠ 3 + 12 * j + 2 ∧ k ≠ 3 + 12 * j + 3 ∧ k ≠ 3 + 12 * j + 4 ∧ k ≠ 3 + 12 * j + 5 ∧ k ≠ 3 + 12 * j + 8 ∧ k ≠ 3 + 12 * j + 9) → (vu x6 (M + 1) (3 + 12 * j + 8) (-2147483648)) a k = v a k := fun a k q => by rw [vu_ne (by omega)]; exact s6 a k q
  have t7_0 : (vu x6 (M + 1) (3 + 12 * j + 8) (-2147483648)) (M + 1) (3 + 12 * j + 0) = (v (M + 11) (4 * B + j)) := by rw [vu_ne (by omega)]; exact t6_0
  have t7_1 : (vu x6 (M + 1) (3 + 12 * j + 8) (-2147483648)) (M + 1) (3 + 12 * j + 1) = (v (M + 12) (4 * B + j)) := by rw [vu_ne (by omega)]; exact t6_1
  have t7_2 : (vu x6 (M + 1) (3 + 12 * j + 8) (-2147483648)) (M + 1) (3 + 12 * j + 2) = (v (M + 13) (4 * B + j)) := by rw [vu_ne (by omega)]; exact t6_2
  have t7_3 : (vu x6 (M + 1) (3 + 12 * j + 8) (-2147483648)) (M + 1) (3 + 12 * j + 3) = (-1) := by rw [vu_ne (by omega)]; exact t6_3
  have t7_4 : (vu x6 (M + 1) (3 + 12 * j + 8) (-2147483648)) (M + 1) (3 + 12 * j + 4) = (-2147483648) := by rw [vu_ne (by omega)]; exact t6_4
  have t7_5 : (vu x6 (M + 1) (3 + 12 * j + 8) (-2147483648)) (M + 1) (3 + 12 * j + 5) = (-2147483648) := by rw [vu_ne (by omega)]; exact t6_5
  have t7_6 : (vu x6 (M + 1) (3 + 12 * j + 8) (-2147483648)) (M + 1) (3 + 12 * j + 8) = (-2147483648) := vu_is
  generalize vu x6 (M + 1) (3 + 12 * j + 8) (-2147483648) = x7 at *
  have i7 : 0 ≤ 3 + 12 * j + 9 ∧ 3 + 12 * j + 9 < 1095 := by omega
  have q8 : Kp S v (vu x7 (M + 1) (3 + 12 * j + 9) (-2147483648)) := Kpm q7 (by rw [h7.a1]; rfl)
  have h8 : LMo S (vu x7 (M + 1) (3 + 12 * j + 9) (-2147483648)) M := h.keep q8
  have r8 : ∀ a k, a ≠ M + 1 → (vu x7 (M + 1) (3 + 12 * j + 9) (-2147483648)) a k = v a k := fun a k q => by rw [vu_ne (fun e => q e.1)]; exact r7 a k q
  have s8 : ∀ a k, (a = M + 1 → k ≠ 3 + 12 * j + 0 ∧ k ≠ 3 + 12 * j + 1 ∧ k ≠ 3 + 12 * j + 2 ∧ k ≠ 3 + 12 * j + 3 ∧ k ≠ 3 + 12 * j + 4 ∧ k ≠ 3 + 12 * j + 5 ∧ k ≠ 3 + 12 * j + 8 ∧ k ≠ 3 + 12 * j + 9) → (vu x7 (M + 1) (3 + 12 * j + 9) (-2147483648)) a k = v a k := fun a k q => by rw [vu_ne (by omega)]; exact s7 a k q
  have t8_0 : (vu x7 (M + 1) (3 + 12 * j + 9) (-2147483648)) (M + 1) (3 + 12 * j + 0) = (v (M + 11) (4 * B + j)) := by rw [vu_ne (by omega)]; exact t7_0
  have t8_1 : (vu x7 (M + 1) (3 + 12 * j + 9) (-2147483648)) (M + 1) (3 + 12 * j + 1) = (v (M + 12) (4 * B + j)) := by rw [vu_ne (by omega)]; exact t7_1
  have t8_2 : (vu x7 (M + 1) (3 + 12 * j + 9) (-2147483648)) (M + 1) (3 + 12 * j + 2) = (v (M + 13) (4 * B + j)) := by rw [vu_ne (by omega)]; exact t7_2
  have t8_3 : (vu x7 (M + 1) (3 + 12 * j + 9) (-2147483648)) (M + 1) (3 + 12 * j + 3) = (-1) := by rw [vu_ne (by omega)]; exact t7_3
  have t8_4 : (vu x7 (M + 1) (3 + 12 * j + 9) (-2147483648)) (M + 1) (3 + 12 * j + 4) = (-2147483648) := by rw [vu_ne (by omega)]; exact t7_4
  have t8_5 : (vu x7 (M + 1) (3 + 12 * j + 9) (-2147483648)) (M + 1) (3 + 12 * j + 5) = (-2147483648) := by rw [vu_ne (by omega)]; exact t7_5
  have t8_6 : (vu x7 (M + 1) (3 + 12 * j + 9) (-2147483648)) (M + 1) (3 + 12 * j + 8) = (-2147483648) := by rw [vu_ne (by omega)]; exact t7_6
  have t8_7 : (vu x7 (M + 1) (3 + 12 * j + 9) (-2147483648)) (M + 1) (3 + 12 * j + 9) = (-2147483648) := vu_is
  simp only [wE_I, wE_V, wE_F, wE_A, wE_N, wE_1, wE_2, wE_D, wE_B, wE_If, wE_C, wE_CV, wE_SL, wE_SA, wA_0, wA_1, wC_B, wC_E, wC_And, wC_Or, wC_Not, wS_Skip, wS_Brk, wS_Cnt, wS_RetV, wS_Ret, wS_Seq, wS_Set, wS_Inc, wS_Do, wS_Put, wS_PutC, wS_Arr, wS_ArrC, wS_If, wS_Sw, wS_F0, wS_F1, wM_q, lu_ap, aL_ap, ct_0, ct_1, ct_2, ct_3, ct_4, ct_5, headD_1, List.mem_cons, List.not_mem_nil, or_false, false_or, or_true, true_or, true_and, and_true, false_and, and_false, not_true_eq_false, not_false_eq_true, if_true, if_false, nr_20, nr_24, nr_40, nr_41, nr_44, pt_lt, pt_ge, pt_eq, pt_ne, pt_gt, pt_le, pt_E, pt_N, pt_F, ite_10, ite_11, ne_eq, and_self, or_self, decide_true, decide_false, Bool.not_true, Bool.not_false, Bool.false_eq_true, Nat.reduceEqDiff, Nat.reduceAdd, Int.reduceEq, Int.reduceLT, Int.reduceLE, Int.reduceNeg, Int.reduceAdd, Int.reduceSub, Int.reduceMul, reduceCtorEq, iA, iS, iM, iD, iR, iN, lA, lS, lM, lD, lR, n0, n1, h7.k, h7.p0, h7.a1, h7.n1, wM_of (hat 9 (by decide) _), i7]
  exact ⟨q8, ⟨⟨t8_0, t8_1, t8_2⟩, t8_3, t8_4, t8_5, t8_6, t8_7⟩, s8⟩
theorem m_startAnew (h : LMo S v M) (hB : B = 0 ∨ B = 1) (h28 : v M 28 = B) (hn : 0 ≤ v (M + 3) B ∧ v (M + 3) B ≤ 4) : wM mX12_startAnew [M] S v (fun _ w => (∀ m, 0 ≤ m → m < v (M + 3) B → AnM v M B (w (M + 1)) m) ∧ AnZ (w (M + 1)) ∧ (w M 58 = 0 ∧ w M 59 = 0) ∧ (∀ x, 0 ≤ x → x < 2 → w (M + 38) x = 0) ∧ ∀ a k, (a = M → k ≠ 58 ∧ k ≠ 59) → a ≠ M + 1 → a ≠ M + 38 → w a k = v a k) := by
  have oB : 0 ≤ B ∧ B < 2 := by omega
  rw [mX12_startAnew, wM_q, sX12_startAnew]
  generalize hL : aL 0 [2] [M] = L
  have l0 : L 0 = M := by rw [← hL]; rfl
  clear hL
  rw [wS_Seq]
  refine wS_mono (Q' := fun k _ L' w => k = 0 ∧ L' 0 = M ∧ Kp S v w ∧ (∀ k, 0 ≤ k → k < 1095 → w (M + 1) k = 0) ∧ ∀ a k, a ≠ M + 1 → w a k = v a k) ?_ ?_
  · refine ws_step (L' := lu L 1 0) (w := v) (by simp only [wE_I, wE_V, wE_F, wE_A, wE_N, wE_1, wE_2, wE_D, wE_B, wE_If, wE_C, wE_CV, wE_SL, wE_SA, wA_0, wA_1, wC_B, wC_E, wC_And, wC_Or, wC_Not, wS_Skip, wS_Brk, wS_Cnt, wS_RetV, wS_Ret, wS_Seq, wS_Set, wS_Inc, wS_Do, wS_Put, wS_PutC, wS_Arr, wS_ArrC, wS_If, wS_Sw, wS_F0, wS_F1, wM_q, lu_ap, aL_ap, ct_0, ct_1, ct_2, ct_3, ct_4, ct_5, headD_1, List.mem_cons, List.not_mem_nil, or_false, false_or, or_true, true_or, true_and, and_true, false_and, and_false, not_true_eq_false, not_false_eq_true, if_true, if_false, nr_20, nr_24, nr_40, nr_41, nr_44, pt_lt, pt_ge, pt_eq, pt_ne, pt_gt, pt_le, pt_E, pt_N, pt_F, ite_10, ite_11, ne_eq, and_self, or_self, decide_true, decide_false, Bool.not_true, Bool.not_false, Bool.false_eq_true, Nat.reduceEqDiff, Nat.reduceAdd, Int.reduceEq, Int.reduceLT, Int.reduceLE, Int.reduceNeg, Int.reduceAdd, Int.reduceSub, Int.reduceMul, reduceCtorEq, iA, iS, iM, iD, iR, iN, lA, lS, lM, lD, lR]) ?_
    have n0 : lu L 1 0 0 = M := by simp [lu_ap, l0]
    have n1 : lu L 1 0 1 = 0 := by simp [lu_ap]
    generalize lu L 1 0 = L1 at *
    refine wS_For 1095 (fun j L w => (L 0 = M ∧ L 1 = j) ∧ Kp S v w ∧ (∀ k, 0 ≤ k → k < (j : Int) → w (M + 1) k = 0) ∧ ∀ a k, a ≠ M + 1 → w a k = v a k) (by decide) ?_ ?_ ?_
    · exact ⟨⟨n0, n1⟩, Kp.rf, fun i i0 i1 => by omega, fun _ _ _ => rfl⟩
    · rintro j L w hj ⟨⟨m0, m1⟩, q1, q3, q4⟩
      have hw := h.keep q1
      have lt : (j : Int) < 1095 := by omega
      have o1 : 0 ≤ (j : Int) ∧ (j : Int) < 1095 := by omega
      have e1 : w32 ((j : Int) + 1) = ((j + 1 : Nat) : Int) := by rw [w32_e (by omega)]; omega
      have hk : Kp S v (vu w (M + 1) (j : Int) 0) := Kpm q1 (by rw [hw.a1]; rfl)
      simp only [cX12_startAnew_1, bX12_startAnew_1, uX12_startAnew_1, wE_I, wE_V, wE_F, wE_A, wE_N, wE_1, wE_2, wE_D, wE_B, wE_If, wE_C, wE_CV, wE_SL, wE_SA, wA_0, wA_1, wC_B, wC_E, wC_And, wC_Or, wC_Not, wS_Skip, wS_Brk, wS_Cnt, wS_RetV, wS_Ret, wS_Seq, wS_Set, wS_Inc, wS_Do, wS_Put, wS_PutC, wS_Arr, wS_ArrC, wS_If, wS_Sw, wS_F0, wS_F1, wM_q, lu_ap, aL_ap, ct_0, ct_1, ct_2, ct_3, ct_4, ct_5, headD_1, List.mem_cons, List.not_mem_nil, or_false, false_or, or_true, true_or, true_and, and_true, false_and, and_false, not_true_eq_false, not_false_eq_true, if_true, if_false, nr_20, nr_24, nr_40, nr_41, nr_44, pt_lt, pt_ge, pt_eq, pt_ne, pt_gt, pt_le, pt_E, pt_N, pt_F, ite_10, ite_11, ne_eq, and_self, or_self, decide_true, decide_false, Bool.not_true, Bool.not_false, Bool.false_eq_true, Nat.reduceEqDiff, Nat.reduceAdd, Int.reduceEq, Int.reduceLT, Int.reduceLE, Int.reduceNeg, Int.reduceAdd, Int.reduceSub, Int.reduceMul, reduceCtorEq, iA, iS, iM, iD, iR, iN, lA, lS, lM, lD, lR, m0, m1, lt, hw.k, hw.p0, hw.a1, hw.n1, o1, e1]
      clear e1
      refine ⟨hk, fun k k0 k1 => ?_, fun a k a1 => by rw [vu_ne (by omega)]; exact q4 a k a1⟩
      by_cases e : k = (j : Int)
      · rw [e]; exact vu_is
      · rw [vu_ne (by omega)]; exact q3 k k0 (by omega)
    · rintro L w ⟨⟨m0, m1⟩, q1, q3, q4⟩
      have nlt : ¬ (((1095 : Nat)) : Int) < 1095 := by decide
      simp only [cX12_startAnew_1, wE_I, wE_V, wE_F, wE_A, wE_N, wE_1, wE_2, wE_D, wE_B, wE_If, wE_C, wE_CV, wE_SL, wE_SA, wA_0, wA_1, wC_B, wC_E, wC_And, wC_Or, wC_Not, wS_Skip, wS_Brk, wS_Cnt, wS_RetV, wS_Ret, wS_Seq, wS_Set, wS_Inc, wS_Do, wS_Put, wS_PutC, wS_Arr, wS_ArrC, wS_If, wS_Sw, wS_F0, wS_F1, wM_q, lu_ap, aL_ap, ct_0, ct_1, ct_2, ct_3, ct_4, ct_5, headD_1, List.mem_cons, List.not_mem_nil, or_false, false_or, or_true, true_or, true_and, and_true, false_and, and_false, not_true_eq_false, not_false_eq_true, if_true, if_false, nr_20, nr_24, nr_40, nr_41, nr_44, pt_lt, pt_ge, pt_eq, pt_ne, pt_gt, pt_le, pt_E, pt_N, pt_F, ite_10, ite_11, ne_eq, and_self, or_self, decide_true, decide_false, Bool.not_true, Bool.not_false, Bool.false_eq_true, Nat.reduceEqDiff, Nat.reduceAdd, Int.reduceEq, Int.reduceLT, Int.reduceLE, Int.reduceNeg, Int.reduceAdd, Int.reduceSub, Int.reduceMul, reduceCtorEq, iA, iS, iM, iD, iR, iN, lA, lS, lM, lD, lR, m0, m1, nlt]
      exact ⟨q1, fun k k0 k1 => q3 k k0 (by omega), q4⟩
  rintro k z L1 w1 ⟨rfl, l1, q1, q2, q3⟩
  rw [if_pos rfl]
  have h1 := h.keep q1
  have b28 : w1 M 28 = B := by rw [q3 _ _ (by omega)]; exact h28
  have b3 : w1 (M + 3) B = v (M + 3) B := q3 _ _ (by omega)
  generalize hnm : v (M + 3) B = nm at *
  rw [wS_Seq]
  refine wS_mono (Q' := fun k _ L' w => k = 0 ∧ L' 0 = M ∧ Kp S w1 w ∧ (∀ m, 0 ≤ m → m < nm → AnM v M B (w (M + 1)) m) ∧ AnZ (w (M + 1)) ∧ ∀ a k, a ≠ M + 1 → w a k = w1 a k) ?_ ?_
  · refine ws_step (L' := lu L1 1 0) (w := w1) (by simp only [wE_I, wE_V, wE_F, wE_A, wE_N, wE_1, wE_2, wE_D, wE_B, wE_If, wE_C, wE_CV, wE_SL, wE_SA, wA_0, wA_1, wC_B, wC_E, wC_And, wC_Or, wC_Not, wS_Skip, wS_Brk, wS_Cnt, wS_RetV, wS_Ret, wS_Seq, wS_Set, wS_Inc, wS_Do, wS_Put, wS_PutC, wS_Arr, wS_ArrC, wS_If, wS_Sw, wS_F0, wS_F1, wM_q, lu_ap, aL_ap, ct_0, ct_1, ct_2, ct_3, ct_4, ct_5, headD_1, List.mem_cons, List.not_mem_nil, or_false, false_or, or_true, true_or, true_and, and_true, false_and, and_false, not_true_eq_false, not_false_eq_true, if_true, if_false, nr_20, nr_24, nr_40, nr_41, nr_44, pt_lt, pt_ge, pt_eq, pt_ne, pt_gt, pt_le, pt_E, pt_N, pt_F, ite_10, ite_11, ne_eq, and_self, or_self, decide_true, decide_false, Bool.not_true, Bool.not_false, Bool.false_eq_true, Nat.reduceEqDiff, Nat.reduceAdd, Int.reduceEq, Int.reduceLT, Int.reduceLE, Int.reduceNeg, Int.reduceAdd, Int.reduceSub, Int.reduceMul, reduceCtorEq, iA, iS, iM, iD, iR, iN, lA, lS, lM, lD, lR]) ?_
    have n0 : lu L1 1 0 0 = M := by simp [lu_ap, l1]
    have n1 : lu L1 1 0 1 = 0 := by simp [lu_ap]
    generalize lu L1 1 0 = L2 at *
    refine wS_For nm.toNat (fun j L w => (L 0 = M ∧ L 1 = j) ∧ Kp S w1 w ∧ (∀ m, 0 ≤ m → m < (j : Int) → AnM v M B (w (M + 1)) m) ∧ AnZ (w (M + 1)) ∧ ∀ a k, a ≠ M + 1 → w a k = w1 a k) (by omega) ?_ ?_ ?_
    · exact ⟨⟨n0, n1⟩, Kp.rf, fun i i0 i1 => by omega, fun k k0 k1 _ => q2 k k0 k1, fun _ _ _ => rfl⟩
    · rintro j L w hj ⟨⟨m0, m1⟩, p1, p3, p4, p5⟩
      have hw := h1.keep p1
      have w28 : w M 28 = B := by rw [p5 _ _ (by omega)]; exact b28
      have w3 : w (M + 3) B = nm := by rw [p5 _ _ (by omega)]; exact b3
      have lt : (j : Int) < nm := by omega
      have o4 : 0 ≤ (j : Int) ∧ (j : Int) < 4 := by omega
      have o8 : 0 ≤ 4 * B + (j : Int) ∧ 4 * B + (j : Int) < 8 := by omega
      have hown := fun u : QV => m_own (S := S) (v := u) (k := (j : Int)) hB (by omega)
      have hmy : mX12_many [M] S w = some (nm, w) := by
        apply wM_eq
        simp only [mX12_many, sX12_many, wE_I, wE_V, wE_F, wE_A, wE_N, wE_1, wE_2, wE_D, wE_B, wE_If, wE_C, wE_CV, wE_SL, wE_SA, wA_0, wA_1, wC_B, wC_E, wC_And, wC_Or, wC_Not, wS_Skip, wS_Brk, wS_Cnt, wS_RetV, wS_Ret, wS_Seq, wS_Set, wS_Inc, wS_Do, wS_Put, wS_PutC, wS_Arr, wS_ArrC, wS_If, wS_Sw, wS_F0, wS_F1, wM_q, lu_ap, aL_ap, ct_0, ct_1, ct_2, ct_3, ct_4, ct_5, headD_1, List.mem_cons, List.not_mem_nil, or_false, false_or, or_true, true_or, true_and, and_true, false_and, and_false, not_true_eq_false, not_false_eq_true, if_true, if_false, nr_20, nr_24, nr_40, nr_41, nr_44, pt_lt, pt_ge, pt_eq, pt_ne, pt_gt, pt_le, pt_E, pt_N, pt_F, ite_10, ite_11, ne_eq, and_self, or_self, decide_true, decide_false, Bool.not_true, Bool.not_false, Bool.false_eq_true, Nat.reduceEqDiff, Nat.reduceAdd, Int.reduceEq, Int.reduceLT, Int.reduceLE, Int.reduceNeg, Int.reduceAdd, Int.reduceSub, Int.reduceMul, reduceCtorEq, iA, iS, iM, iD, iR, iN, lA, lS, lM, lD, lR, hw.k, hw.p2, hw.a3, hw.n3, w28, oB, w3]
      have hat := fun (c : Int) (hc : 0 ≤ c ∧ c < 12) (u : QV) => m_atMeasure (S := S) (v := u) o4 hc
      have ha := m_anew1 (L := L) hw hB w28 o4 m0 m1
      have e1 : w32 ((j : Int) + 1) = ((j + 1 : Nat) : Int) := by rw [w32_e (by omega)]; omega
      simp only [cX12_startAnew_2, wE_I, wE_V, wE_F, wE_A, wE_N, wE_1, wE_2, wE_D, wE_B, wE_If, wE_C, wE_CV, wE_SL, wE_SA, wA_0, wA_1, wC_B, wC_E, wC_And, wC_Or, wC_Not, wS_Skip, wS_Brk, wS_Cnt, wS_RetV, wS_Ret, wS_Seq, wS_Set, wS_Inc, wS_Do, wS_Put, wS_PutC, wS_Arr, wS_ArrC, wS_If, wS_Sw, wS_F0, wS_F1, wM_q, lu_ap, aL_ap, ct_0, ct_1, ct_2, ct_3, ct_4, ct_5, headD_1, List.mem_cons, List.not_mem_nil, or_false, false_or, or_true, true_or, true_and, and_true, false_and, and_false, not_true_eq_false, not_false_eq_true, if_true, if_false, nr_20, nr_24, nr_40, nr_41, nr_44, pt_lt, pt_ge, pt_eq, pt_ne, pt_gt, pt_le, pt_E, pt_N, pt_F, ite_10, ite_11, ne_eq, and_self, or_self, decide_true, decide_false, Bool.not_true, Bool.not_false, Bool.false_eq_true, Nat.reduceEqDiff, Nat.reduceAdd, Int.reduceEq, Int.reduceLT, Int.reduceLE, Int.reduceNeg, Int.reduceAdd, Int.reduceSub, Int.reduceMul, reduceCtorEq, iA, iS, iM, iD, iR, iN, lA, lS, lM, lD, lR, m0, m1, hw.k, wM_of hmy, lt]
      refine wS_mono ha ?_
      rintro k z L' w2 ⟨rfl, rfl, g1, g2, g3⟩
      simp only [uX12_startAnew_2, wE_I, wE_V, wE_F, wE_A, wE_N, wE_1, wE_2, wE_D, wE_B, wE_If, wE_C, wE_CV, wE_SL, wE_SA, wA_0, wA_1, wC_B, wC_E, wC_And, wC_Or, wC_Not, wS_Skip, wS_Brk, wS_Cnt, wS_RetV, wS_Ret, wS_Seq, wS_Set, wS_Inc, wS_Do, wS_Put, wS_PutC, wS_Arr, wS_ArrC, wS_If, wS_Sw, wS_F0, wS_F1, wM_q, lu_ap, aL_ap, ct_0, ct_1, ct_2, ct_3, ct_4, ct_5, headD_1, List.mem_cons, List.not_mem_nil, or_false, false_or, or_true, true_or, true_and, and_true, false_and, and_false, not_true_eq_false, not_false_eq_true, if_true, if_false, nr_20, nr_24, nr_40, nr_41, nr_44, pt_lt, pt_ge, pt_eq, pt_ne, pt_gt, pt_le, pt_E, pt_N, pt_F, ite_10, ite_11, ne_eq, and_self, or_self, decide_true, decide_false, Bool.not_true, Bool.not_false, Bool.false_eq_true, Nat.reduceEqDiff, Nat.reduceAdd, Int.reduceEq, Int.reduceLT, Int.reduceLE, Int.reduceNeg, Int.reduceAdd, Int.reduceSub, Int.reduceMul, reduceCtorEq, iA, iS, iM, iD, iR, iN, lA, lS, lM, lD, lR, m0, m1, e1]
      clear e1
      refine ⟨p1.tr g1, fun m m2 m3 => ?_, fun k k0 k1 k2 => ?_, fun a k a1 => by rw [g3 _ _ (by omega)]; exact p5 a k a1⟩
      · by_cases e : m = (j : Int)
        · subst e
          obtain ⟨⟨y0, y1, y2⟩, y3⟩ := g2
          refine ⟨⟨?_, ?_, ?_⟩, y3⟩
          · rw [y0, p5 _ _ (by omega), q3 _ _ (by omega)]
          · rw [y1, p5 _ _ (by omega), q3 _ _ (by omega)]
          · rw [y2, p5 _ _ (by omega), q3 _ _ (by omega)]
        · obtain ⟨⟨y0, y1, y2⟩, y3, y4, y5, y6, y7⟩ := p3 m m2 (by omega)
          refine ⟨⟨?_, ?_, ?_⟩, ?_, ?_, ?_, ?_, ?_⟩
          · rw [g3 _ _ (by omega)]; exact y0
          · rw [g3 _ _ (by omega)]; exact y1
          · rw [g3 _ _ (by omega)]; exact y2
          · rw [g3 _ _ (by omega)]; exact y3
          · rw [g3 _ _ (by omega)]; exact y4
          · rw [g3 _ _ (by omega)]; exact y5
          · rw [g3 _ _ (by omega)]; exact y6
          · rw [g3 _ _ (by omega)]; exact y7
      · rw [g3 _ _ (by omega)]
        exact p4 k k0 k1 k2
    · rintro L w ⟨⟨m0, m1⟩, p1, p3, p4, p5⟩
      have hw := h1.keep p1
      have w28 : w M 28 = B := by rw [p5 _ _ (by omega)]; exact b28
      have w3 : w (M + 3) B = nm := by rw [p5 _ _ (by omega)]; exact b3
      have hmy : mX12_many [M] S w = some (nm, w) := by
        apply wM_eq
        simp only [mX12_many, sX12_many, wE_I, wE_V, wE_F, wE_A, wE_N, wE_1, wE_2, wE_D, wE_B, wE_If, wE_C, wE_CV, wE_SL, wE_SA, wA_0, wA_1, wC_B, wC_E, wC_And, wC_Or, wC_Not, wS_Skip, wS_Brk, wS_Cnt, wS_RetV, wS_Ret, wS_Seq, wS_Set, wS_Inc, wS_Do, wS_Put, wS_PutC, wS_Arr, wS_ArrC, wS_If, wS_Sw, wS_F0, wS_F1, wM_q, lu_ap, aL_ap, ct_0, ct_1, ct_2, ct_3, ct_4, ct_5, headD_1, List.mem_cons, List.not_mem_nil, or_false, false_or, or_true, true_or, true_and, and_true, false_and, and_false, not_true_eq_false, not_false_eq_true, if_true, if_false, nr_20, nr_24, nr_40, nr_41, nr_44, pt_lt, pt_ge, pt_eq, pt_ne, pt_gt, pt_le, pt_E, pt_N, pt_F, ite_10, ite_11, ne_eq, and_self, or_self, decide_true, decide_false, Bool.not_true, Bool.not_false, Bool.false_eq_true, Nat.reduceEqDiff, Nat.reduceAdd, Int.reduceEq, Int.reduceLT, Int.reduceLE, Int.reduceNeg, Int.reduceAdd, Int.reduceSub, Int.reduceMul, reduceCtorEq, iA, iS, iM, iD, iR, iN, lA, lS, lM, lD, lR, hw.k, hw.p2, hw.a3, hw.n3, w28, oB, w3]
      have nlt : ¬ ((nm.toNat : Nat) : Int) < nm := by omega
      simp only [cX12_startAnew_2, wE_I, wE_V, wE_F, wE_A, wE_N, wE_1, wE_2, wE_D, wE_B, wE_If, wE_C, wE_CV, wE_SL, wE_SA, wA_0, wA_1, wC_B, wC_E, wC_And, wC_Or, wC_Not, wS_Skip, wS_Brk, wS_Cnt, wS_RetV, wS_Ret, wS_Seq, wS_Set, wS_Inc, wS_Do, wS_Put, wS_PutC, wS_Arr, wS_ArrC, wS_If, wS_Sw, wS_F0, wS_F1, wM_q, lu_ap, aL_ap, ct_0, ct_1, ct_2, ct_3, ct_4, ct_5, headD_1, List.mem_cons, List.not_mem_nil, or_false, false_or, or_true, true_or, true_and, and_true, false_and, and_false, not_true_eq_false, not_false_eq_true, if_true, if_false, nr_20, nr_24, nr_40, nr_41, nr_44, pt_lt, pt_ge, pt_eq, pt_ne, pt_gt, pt_le, pt_E, pt_N, pt_F, ite_10, ite_11, ne_eq, and_self, or_self, decide_true, decide_false, Bool.not_true, Bool.not_false, Bool.false_eq_true, Nat.reduceEqDiff, Nat.reduceAdd, Int.reduceEq, Int.reduceLT, Int.reduceLE, Int.reduceNeg, Int.reduceAdd, Int.reduceSub, Int.reduceMul, reduceCtorEq, iA, iS, iM, iD, iR, iN, lA, lS, lM, lD, lR, m0, m1, hw.k, wM_of hmy, nlt]
      exact ⟨p1, fun m m2 m3 => p3 m m2 (by omega), p4, p5⟩
  rintro k z L2 w2 ⟨rfl, l2, p1, p2, p3, p4⟩
  rw [if_pos rfl]
  have h2 := h1.keep p1
  refine ws_step (L' := L2) (w := vu w2 M 58 0) (by simp only [wE_I, wE_V, wE_F, wE_A, wE_N, wE_1, wE_2, wE_D, wE_B, wE_If, wE_C, wE_CV, wE_SL, wE_SA, wA_0, wA_1, wC_B, wC_E, wC_And, wC_Or, wC_Not, wS_Skip, wS_Brk, wS_Cnt, wS_RetV, wS_Ret, wS_Seq, wS_Set, wS_Inc, wS_Do, wS_Put, wS_PutC, wS_Arr, wS_ArrC, wS_If, wS_Sw, wS_F0, wS_F1, wM_q, lu_ap, aL_ap, ct_0, ct_1, ct_2, ct_3, ct_4, ct_5, headD_1, List.mem_cons, List.not_mem_nil, or_false, false_or, or_true, true_or, true_and, and_true, false_and, and_false, not_true_eq_false, not_false_eq_true, if_true, if_false, nr_20, nr_24, nr_40, nr_41, nr_44, pt_lt, pt_ge, pt_eq, pt_ne, pt_gt, pt_le, pt_E, pt_N, pt_F, ite_10, ite_11, ne_eq, and_self, or_self, decide_true, decide_false, Bool.not_true, Bool.not_false, Bool.false_eq_true, Nat.reduceEqDiff, Nat.reduceAdd, Int.reduceEq, Int.reduceLT, Int.reduceLE, Int.reduceNeg, Int.reduceAdd, Int.reduceSub, Int.reduceMul, reduceCtorEq, iA, iS, iM, iD, iR, iN, lA, lS, lM, lD, lR, l2, h2.k]) ?_
  refine ws_step (L' := L2) (w := vu (vu w2 M 58 0) M 59 0) (by simp only [wE_I, wE_V, wE_F, wE_A, wE_N, wE_1, wE_2, wE_D, wE_B, wE_If, wE_C, wE_CV, wE_SL, wE_SA, wA_0, wA_1, wC_B, wC_E, wC_And, wC_Or, wC_Not, wS_Skip, wS_Brk, wS_Cnt, wS_RetV, wS_Ret, wS_Seq, wS_Set, wS_Inc, wS_Do, wS_Put, wS_PutC, wS_Arr, wS_ArrC, wS_If, wS_Sw, wS_F0, wS_F1, wM_q, lu_ap, aL_ap, ct_0, ct_1, ct_2, ct_3, ct_4, ct_5, headD_1, List.mem_cons, List.not_mem_nil, or_false, false_or, or_true, true_or, true_and, and_true, false_and, and_false, not_true_eq_false, not_false_eq_true, if_true, if_false, nr_20, nr_24, nr_40, nr_41, nr_44, pt_lt, pt_ge, pt_eq, pt_ne, pt_gt, pt_le, pt_E, pt_N, pt_F, ite_10, ite_11, ne_eq, and_self, or_self, decide_true, decide_false, Bool.not_true, Bool.not_false, Bool.false_eq_true, Nat.reduceEqDiff, Nat.reduceAdd, Int.reduceEq, Int.reduceLT, Int.reduceLE, Int.reduceNeg, Int.reduceAdd, Int.reduceSub, Int.reduceMul, reduceCtorEq, iA, iS, iM, iD, iR, iN, lA, lS, lM, lD, lR, l2, h2.k]) ?_
  have h3 : LMo S (vu (vu w2 M 58 0) M 59 0) M := h2.keep (Kpm (Kpm Kp.rf (by rw [h2.k]; rfl)) (by rw [h2.k]; rfl))
  have f1 : (vu (vu w2 M 58 0) M 59 0) M 58 = 0 ∧ (vu (vu w2 M 58 0) M 59 0) M 59 = 0 := ⟨by rw [vu_ne (by simp), vu_is], vu_is⟩
  have f2 : ∀ a k, (a = M → k ≠ 58 ∧ k ≠ 59) → (vu (vu w2 M 58 0) M 59 0) a k = w2 a k := fun a k q => by rw [vu_ne (by omega), vu_ne (by omega)]
  generalize vu (vu w2 M 58 0) M 59 0 = w3 at *
  have fin : ∀ w : QV, (∀ x, 0 ≤ x → x < 2 → w (M + 38) x = 0) → (∀ a k, a ≠ M + 38 → w a k = w3 a k) → (∀ m, 0 ≤ m → m < nm → AnM v M B (w (M + 1)) m) ∧ AnZ (w (M + 1)) ∧ (w M 58 = 0 ∧ w M 59 = 0) ∧ (∀ x, 0 ≤ x → x < 2 → w (M + 38) x = 0) ∧ ∀ a k, (a = M → k ≠ 58 ∧ k ≠ 59) → a ≠ M + 1 → a ≠ M + 38 → w a k = v a k := fun w y1 y2 => by
    have e1 : w (M + 1) = w2 (M + 1) := funext fun k => by rw [y2 _ _ (by omega), f2 _ _ (by omega)]
    rw [e1]
    refine ⟨p2, p3, ⟨by rw [y2 _ _ (by omega)]; exact f1.1, by rw [y2 _ _ (by omega)]; exact f1.2⟩, y1, fun a k a0 a1 a2 => ?_⟩
    rw [y2 _ _ a2, f2 _ _ a0, p4 _ _ a1, q3 _ _ a1]
  rw [wS_Seq]
  refine wS_mono (Q' := fun k _ _ w => k = 0 ∧ (∀ x, 0 ≤ x → x < 2 → w (M + 38) x = 0) ∧ (∀ a k, a ≠ M + 38 → w a k = w3 a k)) ?_ ?_
  · refine ws_step (L' := lu L2 1 0) (w := w3) (by simp only [wE_I, wE_V, wE_F, wE_A, wE_N, wE_1, wE_2, wE_D, wE_B, wE_If, wE_C, wE_CV, wE_SL, wE_SA, wA_0, wA_1, wC_B, wC_E, wC_And, wC_Or, wC_Not, wS_Skip, wS_Brk, wS_Cnt, wS_RetV, wS_Ret, wS_Seq, wS_Set, wS_Inc, wS_Do, wS_Put, wS_PutC, wS_Arr, wS_ArrC, wS_If, wS_Sw, wS_F0, wS_F1, wM_q, lu_ap, aL_ap, ct_0, ct_1, ct_2, ct_3, ct_4, ct_5, headD_1, List.mem_cons, List.not_mem_nil, or_false, false_or, or_true, true_or, true_and, and_true, false_and, and_false, not_true_eq_false, not_false_eq_true, if_true, if_false, nr_20, nr_24, nr_40, nr_41, nr_44, pt_lt, pt_ge, pt_eq, pt_ne, pt_gt, pt_le, pt_E, pt_N, pt_F, ite_10, ite_11, ne_eq, and_self, or_self, decide_true, decide_false, Bool.not_true, Bool.not_false, Bool.false_eq_true, Nat.reduceEqDiff, Nat.reduceAdd, Int.reduceEq, Int.reduceLT, Int.reduceLE, Int.reduceNeg, Int.reduceAdd, Int.reduceSub, Int.reduceMul, reduceCtorEq, iA, iS, iM, iD, iR, iN, lA, lS, lM, lD, lR]) ?_
    have n0 : lu L2 1 0 0 = M := by simp [lu_ap, l2]
    have n1 : lu L2 1 0 1 = 0 := by simp [lu_ap]
    generalize lu L2 1 0 = L3 at *
    refine wS_For 2 (fun j L w => (L 0 = M ∧ L 1 = j) ∧ Kp S w3 w ∧ (∀ x, 0 ≤ x → x < (j : Int) → w (M + 38) x = 0) ∧ (∀ a k, a ≠ M + 38 → w a k = w3 a k)) (by decide) ?_ ?_ ?_
    · exact ⟨⟨n0, n1⟩, Kp.rf, fun i i0 i1 => by omega, fun _ _ _ => rfl⟩
    · rintro j L w hj ⟨⟨m0, m1⟩, y0, y1, y2⟩
      have hw := h3.keep y0
      have lt : (j : Int) < 2 := by omega
      have o1 : 0 ≤ (j : Int) ∧ (j : Int) < 2 := by omega
      have e1 : w32 ((j : Int) + 1) = ((j + 1 : Nat) : Int) := by rw [w32_e (by omega)]; omega
      have hk : Kp S w3 (vu w (M + 38) (j : Int) 0) := Kpm y0 (by rw [hw.a38]; rfl)
      simp only [cX12_startAnew_3, bX12_startAnew_3, uX12_startAnew_3, wE_I, wE_V, wE_F, wE_A, wE_N, wE_1, wE_2, wE_D, wE_B, wE_If, wE_C, wE_CV, wE_SL, wE_SA, wA_0, wA_1, wC_B, wC_E, wC_And, wC_Or, wC_Not, wS_Skip, wS_Brk, wS_Cnt, wS_RetV, wS_Ret, wS_Seq, wS_Set, wS_Inc, wS_Do, wS_Put, wS_PutC, wS_Arr, wS_ArrC, wS_If, wS_Sw, wS_F0, wS_F1, wM_q, lu_ap, aL_ap, ct_0, ct_1, ct_2, ct_3, ct_4, ct_5, headD_1, List.mem_cons, List.not_mem_nil, or_false, false_or, or_true, true_or, true_and, and_true, false_and, and_false, not_true_eq_false, not_false_eq_true, if_true, if_false, nr_20, nr_24, nr_40, nr_41, nr_44, pt_lt, pt_ge, pt_eq, pt_ne, pt_gt, pt_le, pt_E, pt_N, pt_F, ite_10, ite_11, ne_eq, and_self, or_self, decide_true, decide_false, Bool.not_true, Bool.not_false, Bool.false_eq_true, Nat.reduceEqDiff, Nat.reduceAdd, Int.reduceEq, Int.reduceLT, Int.reduceLE, Int.reduceNeg, Int.reduceAdd, Int.reduceSub, Int.reduceMul, reduceCtorEq, iA, iS, iM, iD, iR, iN, lA, lS, lM, lD, lR, m0, m1, lt, hw.k, hw.p57, hw.a38, hw.n38, o1, e1]
      clear e1
      refine ⟨hk, fun k k0 k1 => ?_, fun a k a1 => by rw [vu_ne (by omega)]; exact y2 a k a1⟩
      by_cases e : k = (j : Int)
      · rw [e]; exact vu_is
      · rw [vu_ne (by omega)]; exact y1 k k0 (by omega)
    · rintro L w ⟨⟨m0, m1⟩, y0, y1, y2⟩
      have nlt : ¬ (((2 : Nat)) : Int) < 2 := by decide
      simp only [cX12_startAnew_3, wE_I, wE_V, wE_F, wE_A, wE_N, wE_1, wE_2, wE_D, wE_B, wE_If, wE_C, wE_CV, wE_SL, wE_SA, wA_0, wA_1, wC_B, wC_E, wC_And, wC_Or, wC_Not, wS_Skip, wS_Brk, wS_Cnt, wS_RetV, wS_Ret, wS_Seq, wS_Set, wS_Inc, wS_Do, wS_Put, wS_PutC, wS_Arr, wS_ArrC, wS_If, wS_Sw, wS_F0, wS_F1, wM_q, lu_ap, aL_ap, ct_0, ct_1, ct_2, ct_3, ct_4, ct_5, headD_1, List.mem_cons, List.not_mem_nil, or_false, false_or, or_true, true_or, true_and, and_true, false_and, and_false, not_true_eq_false, not_false_eq_true, if_true, if_false, nr_20, nr_24, nr_40, nr_41, nr_44, pt_lt, pt_ge, pt_eq, pt_ne, pt_gt, pt_le, pt_E, pt_N, pt_F, ite_10, ite_11, ne_eq, and_self, or_self, decide_true, decide_false, Bool.not_true, Bool.not_false, Bool.false_eq_true, Nat.reduceEqDiff, Nat.reduceAdd, Int.reduceEq, Int.reduceLT, Int.reduceLE, Int.reduceNeg, Int.reduceAdd, Int.reduceSub, Int.reduceMul, reduceCtorEq, iA, iS, iM, iD, iR, iN, lA, lS, lM, lD, lR, m0, m1, nlt]
      exact ⟨fun k k0 k1 => y1 k k0 (by omega), y2⟩
  · rintro k z L' w ⟨rfl, y1, y2⟩
    simp only [wE_I, wE_V, wE_F, wE_A, wE_N, wE_1, wE_2, wE_D, wE_B, wE_If, wE_C, wE_CV, wE_SL, wE_SA, wA_0, wA_1, wC_B, wC_E, wC_And, wC_Or, wC_Not, wS_Skip, wS_Brk, wS_Cnt, wS_RetV, wS_Ret, wS_Seq, wS_Set, wS_Inc, wS_Do, wS_Put, wS_PutC, wS_Arr, wS_ArrC, wS_If, wS_Sw, wS_F0, wS_F1, wM_q, lu_ap, aL_ap, ct_0, ct_1, ct_2, ct_3, ct_4, ct_5, headD_1, List.mem_cons, List.not_mem_nil, or_false, false_or, or_true, true_or, true_and, and_true, false_and, and_false, not_true_eq_false, not_false_eq_true, if_true, if_false, nr_20, nr_24, nr_40, nr_41, nr_44, pt_lt, pt_ge, pt_eq, pt_ne, pt_gt, pt_le, pt_E, pt_N, pt_F, ite_10, ite_11, ne_eq, and_self, or_self, decide_true, decide_false, Bool.not_true, Bool.not_false, Bool.false_eq_true, Nat.reduceEqDiff, Nat.reduceAdd, Int.reduceEq, Int.reduceLT, Int.reduceLE, Int.reduceNeg, Int.reduceAdd, Int.reduceSub, Int.reduceMul, reduceCtorEq, iA, iS, iM, iD, iR, iN, lA, lS, lM, lD, lR, if_pos]
    exact fin w y1 y2
end SA
