/-! STORE: a forecast's line, the reference's, whole -/
section MG
variable {S : QS} {v w u : QV} {M T n x P B : Int} {o : Int × Int}
theorem m_readForecast {i b sea : Int} (hc : CX v M T n) (h : Mm S v T M n (fun _ => True) w (0, i)) (hB : B = 0 ∨ B = 1) (hK : kdT v T i ≠ 1) (hu : ∀ q k, T ≤ q → q ≤ T + 4 → u q k = v q k) (hR : NR u w T x M) (hb : kdT v T (i + 1) = 4 → isBe u T x (i + 1) b) (hbb : -1 ≤ b ∧ b < 8) (hs : 0 ≤ b → b < 4 → (w (M + 18) (4 * B + b) = 0 ↔ ¬ 0 < sea)) : wM mX12_readForecast [M, B] S w (fun _ w' => Mm S v T M n (fun w' => fmF w w' M B b ∧ ((foM v T i b sea).1 = 0 → w' (M + 18) (4 * B + b) = 1 ∧ w' (M + 19) (4 * B + b) = nmT v T (i + 3) ∧ w' (M + 20) (4 * B + b) = nmT v T (i + 5) ∧ w' (M + 21) (4 * B + b) = nmT v T (i + 6) ∧ w' (M + 22) (4 * B + b) = nmT v T (i + 7) ∧ w' (M + 23) (4 * B + b) = nmT v T (i + 9))) w' (foM v T i b sea)) := by
  have hM := h.2.1.1
  have n00 : ¬ (0 : Int) < 0 := by decide
  have hQ0 : Qz M (fun w' => NR u w' T x M ∧ fmF w w' M B b ∧ w' (M + 18) (4 * B + b) = w (M + 18) (4 * B + b)) := fun w1 w2 q1 q2 => ⟨q1.1.fp q2, q1.2.1.f q2, by rw [q2 _ _ (by omega)]; exact q1.2.2⟩
  have hm0 := h.cg (Q' := fun w' => NR u w' T x M ∧ fmF w w' M B b ∧ w' (M + 18) (4 * B + b) = w (M + 18) (4 * B + b)) (fun _ => ⟨hR, fun _ _ _ _ => rfl, rfl⟩)
  have hu5 : nTk u T = nTk v T := nt_q hu
  simp only [mX12_readForecast, sX12_readForecast, wM_q]
  generalize hL : aL 0 [2, 0] [M, B] = L
  have m0 : L 0 = M := by rw [← hL]; simp [lu_ap, aL_ap, ct_0, ct_1, ct_2]
  have m1 : L 1 = B := by rw [← hL]; simp [lu_ap, aL_ap, ct_0, ct_1, ct_2]
  clear hL
  refine ws_call (fun w' => Mm S v T M n (fun w' => NR u w' T x M ∧ fmF w w' M B b ∧ w' (M + 18) (4 * B + b) = w (M + 18) (4 * B + b)) w' (0, i + 1)) (by simp only [wE_I, wE_V, wE_F, wE_A, wE_N, wE_1, wE_2, wE_D, wE_B, wE_If, wE_C, wE_CV, wE_SL, wE_SA, wA_0, wA_1, wC_B, wC_E, wC_And, wC_Or, wC_Not, wS_Skip, wS_Brk, wS_Cnt, wS_RetV, wS_Ret, wS_Seq, wS_Set, wS_Inc, wS_Do, wS_Put, wS_PutC, wS_Arr, wS_ArrC, wS_If, wS_Sw, wS_F0, wS_F1, wM_q, lu_ap, aL_ap, ct_0, ct_1, ct_2, ct_3, ct_4, ct_5, headD_1, List.mem_cons, List.not_mem_nil, or_false, false_or, or_true, true_or, true_and, and_true, false_and, and_false, not_true_eq_false, not_false_eq_true, if_true, if_false, nr_20, nr_24, nr_40, nr_41, nr_44, pt_lt, pt_ge, pt_eq, pt_ne, pt_gt, pt_le, pt_E, pt_N, pt_F, ite_10, ite_11, ne_eq, and_self, or_self, decide_true, decide_false, Bool.not_true, Bool.not_false, Bool.false_eq_true, Nat.reduceEqDiff, Nat.reduceAdd, Int.reduceEq, Int.reduceLT, Int.reduceLE, Int.reduceNeg, Int.reduceAdd, Int.reduceSub, Int.reduceMul, reduceCtorEq, iA, iS, iM, iD, iR, iN, lA, lS, lM, lD, lR, m0, hM.k]; exact hm0.sc hc hQ0 hK) ?_
  intro w1 hm1
  have hM1 := hm1.2.1.1
  have hnm := m_isNameO hm1.2.1 hm1.1
  simp only [true_and] at hnm
  rw [wS_Seq]
  refine wS_mono (Q' := fun k _ L' w' => k = 0 ∧ L' = lu L 2 (if kdT v T (i + 1) = 4 then (if b = -1 then -1 else cvB b) else -1) ∧ w' = w1) ?_ ?_
  · by_cases ck : kdT v T (i + 1) = 4
    · rw [if_pos ck] at hnm ⊢
      have hsy := hm1.1.2
      rw [if_pos rfl] at hsy
      have hnh := m_nameHere hm1.2.1 hc hu hu5 hm1.2.2.1 hm1.1.1 hsy.1.1.1 hsy.1.1.2
      simp only [wE_I, wE_V, wE_F, wE_A, wE_N, wE_1, wE_2, wE_D, wE_B, wE_If, wE_C, wE_CV, wE_SL, wE_SA, wA_0, wA_1, wC_B, wC_E, wC_And, wC_Or, wC_Not, wS_Skip, wS_Brk, wS_Cnt, wS_RetV, wS_Ret, wS_Seq, wS_Set, wS_Inc, wS_Do, wS_Put, wS_PutC, wS_Arr, wS_ArrC, wS_If, wS_Sw, wS_F0, wS_F1, wM_q, lu_ap, aL_ap, ct_0, ct_1, ct_2, ct_3, ct_4, ct_5, headD_1, List.mem_cons, List.not_mem_nil, or_false, false_or, or_true, true_or, true_and, and_true, false_and, and_false, not_true_eq_false, not_false_eq_true, if_true, if_false, nr_20, nr_24, nr_40, nr_41, nr_44, pt_lt, pt_ge, pt_eq, pt_ne, pt_gt, pt_le, pt_E, pt_N, pt_F, ite_10, ite_11, ne_eq, and_self, or_self, decide_true, decide_false, Bool.not_true, Bool.not_false, Bool.false_eq_true, Nat.reduceEqDiff, Nat.reduceAdd, Int.reduceEq, Int.reduceLT, Int.reduceLE, Int.reduceNeg, Int.reduceAdd, Int.reduceSub, Int.reduceMul, reduceCtorEq, iA, iS, iM, iD, iR, iN, lA, lS, lM, lD, lR, m0, hM1.k, wM_of hnm]
      refine wM_mono hnh ?_
      rintro r w1' e ⟨rfl, b', hb', rfl⟩
      have ebb := isBe_u hb' (hb ck)
      subst ebb
      exact ⟨rfl, rfl⟩
    · rw [if_neg ck] at hnm ⊢
      simp only [wE_I, wE_V, wE_F, wE_A, wE_N, wE_1, wE_2, wE_D, wE_B, wE_If, wE_C, wE_CV, wE_SL, wE_SA, wA_0, wA_1, wC_B, wC_E, wC_And, wC_Or, wC_Not, wS_Skip, wS_Brk, wS_Cnt, wS_RetV, wS_Ret, wS_Seq, wS_Set, wS_Inc, wS_Do, wS_Put, wS_PutC, wS_Arr, wS_ArrC, wS_If, wS_Sw, wS_F0, wS_F1, wM_q, lu_ap, aL_ap, ct_0, ct_1, ct_2, ct_3, ct_4, ct_5, headD_1, List.mem_cons, List.not_mem_nil, or_false, false_or, or_true, true_or, true_and, and_true, false_and, and_false, not_true_eq_false, not_false_eq_true, if_true, if_false, nr_20, nr_24, nr_40, nr_41, nr_44, pt_lt, pt_ge, pt_eq, pt_ne, pt_gt, pt_le, pt_E, pt_N, pt_F, ite_10, ite_11, ne_eq, and_self, or_self, decide_true, decide_false, Bool.not_true, Bool.not_false, Bool.false_eq_true, Nat.reduceEqDiff, Nat.reduceAdd, Int.reduceEq, Int.reduceLT, Int.reduceLE, Int.reduceNeg, Int.reduceAdd, Int.reduceSub, Int.reduceMul, reduceCtorEq, iA, iS, iM, iD, iR, iN, lA, lS, lM, lD, lR, m0, hM1.k, wM_of hnm]
  rintro k z L1 w1' ⟨rfl, hL1, rfl⟩
  rw [if_pos rfl]
  have l0 : L1 0 = M := by rw [hL1]; simp [lu_ap, m0]
  have l1 : L1 1 = B := by rw [hL1]; simp [lu_ap, m1]
  have l2 : L1 2 = if kdT v T (i + 1) = 4 then (if b = -1 then -1 else cvB b) else -1 := by rw [hL1]; simp [lu_ap]
  clear hL1
  by_cases ck : kdT v T (i + 1) = 4
  · have c4 : ¬ ¬ kdT v T (i + 1) = 4 := fun z => z ck
    rw [if_pos ck] at hnm l2
    have hin := fun u : QV => m_isIn (S := S) (v := u) (x := if b = -1 then -1 else cvB b) (l := 0) (h := 3)
    by_cases cb : b < 0 ∨ 4 ≤ b
    · have ho : foM v T i b sea = (3, i + 1) := by unfold foM; rw [if_neg c4, if_pos (by omega)]
      have hni : ¬ (0 ≤ (if b = -1 then -1 else cvB b) ∧ (if b = -1 then -1 else cvB b) ≤ 3) := by
        unfold cvB
        split
        · omega
        · split <;> omega
      have hin1 := hin w1'
      rw [if_neg hni] at hin1
      have hfl := hm1.fl hQ0 (f := 3) (by decide)
      rw [if_pos rfl] at hfl
      simp only [wE_I, wE_V, wE_F, wE_A, wE_N, wE_1, wE_2, wE_D, wE_B, wE_If, wE_C, wE_CV, wE_SL, wE_SA, wA_0, wA_1, wC_B, wC_E, wC_And, wC_Or, wC_Not, wS_Skip, wS_Brk, wS_Cnt, wS_RetV, wS_Ret, wS_Seq, wS_Set, wS_Inc, wS_Do, wS_Put, wS_PutC, wS_Arr, wS_ArrC, wS_If, wS_Sw, wS_F0, wS_F1, wM_q, lu_ap, aL_ap, ct_0, ct_1, ct_2, ct_3, ct_4, ct_5, headD_1, List.mem_cons, List.not_mem_nil, or_false, false_or, or_true, true_or, true_and, and_true, false_and, and_false, not_true_eq_false, not_false_eq_true, if_true, if_false, nr_20, nr_24, nr_40, nr_41, nr_44, pt_lt, pt_ge, pt_eq, pt_ne, pt_gt, pt_le, pt_E, pt_N, pt_F, ite_10, ite_11, ne_eq, and_self, or_self, decide_true, decide_false, Bool.not_true, Bool.not_false, Bool.false_eq_true, Nat.reduceEqDiff, Nat.reduceAdd, Int.reduceEq, Int.reduceLT, Int.reduceLE, Int.reduceNeg, Int.reduceAdd, Int.reduceSub, Int.reduceMul, reduceCtorEq, iA, iS, iM, iD, iR, iN, lA, lS, lM, lD, lR, l0, l1, l2, hM1.k, wM_of hnm, wM_of hin1]
      refine wM_mono hfl ?_
      rintro r w2 e2 hm2
      have hd := hm2.dead (by simp)
      simp only [l0, hm2.2.1.1.k, hd, wE_I, wE_V, wE_F, wE_A, wE_N, wE_1, wE_2, wE_D, wE_B, wE_If, wE_C, wE_CV, wE_SL, wE_SA, wA_0, wA_1, wC_B, wC_E, wC_And, wC_Or, wC_Not, wS_Skip, wS_Brk, wS_Cnt, wS_RetV, wS_Ret, wS_Seq, wS_Set, wS_Inc, wS_Do, wS_Put, wS_PutC, wS_Arr, wS_ArrC, wS_If, wS_Sw, wS_F0, wS_F1, wM_q, lu_ap, aL_ap, ct_0, ct_1, ct_2, ct_3, ct_4, ct_5, headD_1, List.mem_cons, List.not_mem_nil, or_false, false_or, or_true, true_or, true_and, and_true, false_and, and_false, not_true_eq_false, not_false_eq_true, if_true, if_false, nr_20, nr_24, nr_40, nr_41, nr_44, pt_lt, pt_ge, pt_eq, pt_ne, pt_gt, pt_le, pt_E, pt_N, pt_F, ite_10, ite_11, ne_eq, and_self, or_self, decide_true, decide_false, Bool.not_true, Bool.not_false, Bool.false_eq_true, Nat.reduceEqDiff, Nat.reduceAdd, Int.reduceEq, Int.reduceLT, Int.reduceLE, Int.reduceNeg, Int.reduceAdd, Int.reduceSub, Int.reduceMul, reduceCtorEq]
      rw [ho]
      exact hm2.cg (fun q => ⟨q.2.1, fun z => absurd z (by simp)⟩)
    · have ob : 0 ≤ b ∧ b < 4 := by omega
      have eb : (if b = -1 then -1 else cvB b) = b := by
        unfold cvB
        rw [if_neg (by omega), if_pos ob.2]
      rw [eb] at hin l2
      have hin1 := hin w1'
      rw [if_pos (by omega)] at hin1
      have o8 : 0 ≤ 4 * B + b ∧ 4 * B + b < 8 := by omega
      have hown := fun u : QV => m_own (S := S) (v := u) (k := b) hB (by omega)
      have hsea := hs ob.1 ob.2
      rw [← hm1.2.2.2.2] at hsea
      by_cases c3 : 0 < sea
      · have ho : foM v T i b sea = (3, i + 1) := by unfold foM; rw [if_neg c4, if_pos (by omega)]
        have hn0 : ¬ w1' (M + 18) (4 * B + b) = 0 := fun z => hsea.mp z c3
        have hfl := hm1.fl hQ0 (f := 3) (by decide)
        rw [if_pos rfl] at hfl
        simp only [wE_I, wE_V, wE_F, wE_A, wE_N, wE_1, wE_2, wE_D, wE_B, wE_If, wE_C, wE_CV, wE_SL, wE_SA, wA_0, wA_1, wC_B, wC_E, wC_And, wC_Or, wC_Not, wS_Skip, wS_Brk, wS_Cnt, wS_RetV, wS_Ret, wS_Seq, wS_Set, wS_Inc, wS_Do, wS_Put, wS_PutC, wS_Arr, wS_ArrC, wS_If, wS_Sw, wS_F0, wS_F1, wM_q, lu_ap, aL_ap, ct_0, ct_1, ct_2, ct_3, ct_4, ct_5, headD_1, List.mem_cons, List.not_mem_nil, or_false, false_or, or_true, true_or, true_and, and_true, false_and, and_false, not_true_eq_false, not_false_eq_true, if_true, if_false, nr_20, nr_24, nr_40, nr_41, nr_44, pt_lt, pt_ge, pt_eq, pt_ne, pt_gt, pt_le, pt_E, pt_N, pt_F, ite_10, ite_11, ne_eq, and_self, or_self, decide_true, decide_false, Bool.not_true, Bool.not_false, Bool.false_eq_true, Nat.reduceEqDiff, Nat.reduceAdd, Int.reduceEq, Int.reduceLT, Int.reduceLE, Int.reduceNeg, Int.reduceAdd, Int.reduceSub, Int.reduceMul, reduceCtorEq, iA, iS, iM, iD, iR, iN, lA, lS, lM, lD, lR, l0, l1, l2, hM1.k, wM_of hnm, wM_of hin1, hM1.p17, hM1.a18, hM1.n18, wM_of (hown _), o8, hn0]
        refine wM_mono hfl ?_
        rintro r w2 e2 hm2
        have hd := hm2.dead (by simp)
        simp only [l0, hm2.2.1.1.k, hd, wE_I, wE_V, wE_F, wE_A, wE_N, wE_1, wE_2, wE_D, wE_B, wE_If, wE_C, wE_CV, wE_SL, wE_SA, wA_0, wA_1, wC_B, wC_E, wC_And, wC_Or, wC_Not, wS_Skip, wS_Brk, wS_Cnt, wS_RetV, wS_Ret, wS_Seq, wS_Set, wS_Inc, wS_Do, wS_Put, wS_PutC, wS_Arr, wS_ArrC, wS_If, wS_Sw, wS_F0, wS_F1, wM_q, lu_ap, aL_ap, ct_0, ct_1, ct_2, ct_3, ct_4, ct_5, headD_1, List.mem_cons, List.not_mem_nil, or_false, false_or, or_true, true_or, true_and, and_true, false_and, and_false, not_true_eq_false, not_false_eq_true, if_true, if_false, nr_20, nr_24, nr_40, nr_41, nr_44, pt_lt, pt_ge, pt_eq, pt_ne, pt_gt, pt_le, pt_E, pt_N, pt_F, ite_10, ite_11, ne_eq, and_self, or_self, decide_true, decide_false, Bool.not_true, Bool.not_false, Bool.false_eq_true, Nat.reduceEqDiff, Nat.reduceAdd, Int.reduceEq, Int.reduceLT, Int.reduceLE, Int.reduceNeg, Int.reduceAdd, Int.reduceSub, Int.reduceMul, reduceCtorEq]
        rw [ho]
        exact hm2.cg (fun q => ⟨q.2.1, fun z => absurd z (by simp)⟩)
      · have ho : foM v T i b sea = foN v T (stp (fKd v T 270) (0, i + 2)) := by unfold foM; rw [if_neg c4, if_neg (by omega)]
        have hn0 : w1' (M + 18) (4 * B + b) = 0 := hsea.mpr c3
        have h370 : w1' M 37 = 0 := hm1.live
        rw [ho]
        have hmP := hm1.put (a := M + 18) (k := 4 * B + b) (z := 1) (Q' := fun w' => fmF w w' M B b ∧ w' (M + 18) (4 * B + b) = 1) (by omega) (by rw [hM1.a18]; rfl) (fun w' q => ⟨q.2.1.put (by omega), vu_is⟩)
        have hMP := hmP.2.1.1
        have qP : Qz M (fun w' => fmF w w' M B b ∧ w' (M + 18) (4 * B + b) = 1) := fun w1 w2 q1 q2 => ⟨q1.1.f q2, by rw [q2 _ _ (by omega)]; exact q1.2⟩
        have hsc := hmP.sc hc qP (by rw [ck]; decide)
        rw [show i + 1 + 1 = i + 2 by omega] at hsc
        refine ws_step (L' := L1) (w := w1') (by simp only [wE_I, wE_V, wE_F, wE_A, wE_N, wE_1, wE_2, wE_D, wE_B, wE_If, wE_C, wE_CV, wE_SL, wE_SA, wA_0, wA_1, wC_B, wC_E, wC_And, wC_Or, wC_Not, wS_Skip, wS_Brk, wS_Cnt, wS_RetV, wS_Ret, wS_Seq, wS_Set, wS_Inc, wS_Do, wS_Put, wS_PutC, wS_Arr, wS_ArrC, wS_If, wS_Sw, wS_F0, wS_F1, wM_q, lu_ap, aL_ap, ct_0, ct_1, ct_2, ct_3, ct_4, ct_5, headD_1, List.mem_cons, List.not_mem_nil, or_false, false_or, or_true, true_or, true_and, and_true, false_and, and_false, not_true_eq_false, not_false_eq_true, if_true, if_false, nr_20, nr_24, nr_40, nr_41, nr_44, pt_lt, pt_ge, pt_eq, pt_ne, pt_gt, pt_le, pt_E, pt_N, pt_F, ite_10, ite_11, ne_eq, and_self, or_self, decide_true, decide_false, Bool.not_true, Bool.not_false, Bool.false_eq_true, Nat.reduceEqDiff, Nat.reduceAdd, Int.reduceEq, Int.reduceLT, Int.reduceLE, Int.reduceNeg, Int.reduceAdd, Int.reduceSub, Int.reduceMul, reduceCtorEq, iA, iS, iM, iD, iR, iN, lA, lS, lM, lD, lR, l0, l1, l2, hM1.k, wM_of hnm, wM_of hin1, hM1.p17, hM1.a18, hM1.n18, wM_of (hown _), o8, hn0]) ?_
        refine ws_step (L' := L1) (w := w1') (by simp only [wE_I, wE_V, wE_F, wE_A, wE_N, wE_1, wE_2, wE_D, wE_B, wE_If, wE_C, wE_CV, wE_SL, wE_SA, wA_0, wA_1, wC_B, wC_E, wC_And, wC_Or, wC_Not, wS_Skip, wS_Brk, wS_Cnt, wS_RetV, wS_Ret, wS_Seq, wS_Set, wS_Inc, wS_Do, wS_Put, wS_PutC, wS_Arr, wS_ArrC, wS_If, wS_Sw, wS_F0, wS_F1, wM_q, lu_ap, aL_ap, ct_0, ct_1, ct_2, ct_3, ct_4, ct_5, headD_1, List.mem_cons, List.not_mem_nil, or_false, false_or, or_true, true_or, true_and, and_true, false_and, and_false, not_true_eq_false, not_false_eq_true, if_true, if_false, nr_20, nr_24, nr_40, nr_41, nr_44, pt_lt, pt_ge, pt_eq, pt_ne, pt_gt, pt_le, pt_E, pt_N, pt_F, ite_10, ite_11, ne_eq, and_self, or_self, decide_true, decide_false, Bool.not_true, Bool.not_false, Bool.false_eq_true, Nat.reduceEqDiff, Nat.reduceAdd, Int.reduceEq, Int.reduceLT, Int.reduceLE, Int.reduceNeg, Int.reduceAdd, Int.reduceSub, Int.reduceMul, reduceCtorEq, iA, iS, iM, iD, iR, iN, lA, lS, lM, lD, lR, l0, hM1.k, h370, n00]) ?_
        refine ws_step (L' := lu L1 3 (4 * B + b)) (w := w1') (by simp only [wE_I, wE_V, wE_F, wE_A, wE_N, wE_1, wE_2, wE_D, wE_B, wE_If, wE_C, wE_CV, wE_SL, wE_SA, wA_0, wA_1, wC_B, wC_E, wC_And, wC_Or, wC_Not, wS_Skip, wS_Brk, wS_Cnt, wS_RetV, wS_Ret, wS_Seq, wS_Set, wS_Inc, wS_Do, wS_Put, wS_PutC, wS_Arr, wS_ArrC, wS_If, wS_Sw, wS_F0, wS_F1, wM_q, lu_ap, aL_ap, ct_0, ct_1, ct_2, ct_3, ct_4, ct_5, headD_1, List.mem_cons, List.not_mem_nil, or_false, false_or, or_true, true_or, true_and, and_true, false_and, and_false, not_true_eq_false, not_false_eq_true, if_true, if_false, nr_20, nr_24, nr_40, nr_41, nr_44, pt_lt, pt_ge, pt_eq, pt_ne, pt_gt, pt_le, pt_E, pt_N, pt_F, ite_10, ite_11, ne_eq, and_self, or_self, decide_true, decide_false, Bool.not_true, Bool.not_false, Bool.false_eq_true, Nat.reduceEqDiff, Nat.reduceAdd, Int.reduceEq, Int.reduceLT, Int.reduceLE, Int.reduceNeg, Int.reduceAdd, Int.reduceSub, Int.reduceMul, reduceCtorEq, iA, iS, iM, iD, iR, iN, lA, lS, lM, lD, lR, l1, l2, wM_of (hown _)]) ?_
        have k0 : lu L1 3 (4 * B + b) 0 = M := by simp [lu_ap, l0]
        have k1 : lu L1 3 (4 * B + b) 1 = B := by simp [lu_ap, l1]
        have k3 : lu L1 3 (4 * B + b) 3 = 4 * B + b := by simp [lu_ap]
        generalize lu L1 3 (4 * B + b) = L3 at *
        refine ws_step (L' := L3) (w := vu w1' (M + 18) (4 * B + b) 1) (by simp only [wE_I, wE_V, wE_F, wE_A, wE_N, wE_1, wE_2, wE_D, wE_B, wE_If, wE_C, wE_CV, wE_SL, wE_SA, wA_0, wA_1, wC_B, wC_E, wC_And, wC_Or, wC_Not, wS_Skip, wS_Brk, wS_Cnt, wS_RetV, wS_Ret, wS_Seq, wS_Set, wS_Inc, wS_Do, wS_Put, wS_PutC, wS_Arr, wS_ArrC, wS_If, wS_Sw, wS_F0, wS_F1, wM_q, lu_ap, aL_ap, ct_0, ct_1, ct_2, ct_3, ct_4, ct_5, headD_1, List.mem_cons, List.not_mem_nil, or_false, false_or, or_true, true_or, true_and, and_true, false_and, and_false, not_true_eq_false, not_false_eq_true, if_true, if_false, nr_20, nr_24, nr_40, nr_41, nr_44, pt_lt, pt_ge, pt_eq, pt_ne, pt_gt, pt_le, pt_E, pt_N, pt_F, ite_10, ite_11, ne_eq, and_self, or_self, decide_true, decide_false, Bool.not_true, Bool.not_false, Bool.false_eq_true, Nat.reduceEqDiff, Nat.reduceAdd, Int.reduceEq, Int.reduceLT, Int.reduceLE, Int.reduceNeg, Int.reduceAdd, Int.reduceSub, Int.reduceMul, reduceCtorEq, iA, iS, iM, iD, iR, iN, lA, lS, lM, lD, lR, k0, k3, hM1.k, hM1.p17, hM1.a18, hM1.n18, o8]; simp) ?_
        refine ws_call (fun w' => Mm S v T M n (fun w' => fmF w w' M B b ∧ w' (M + 18) (4 * B + b) = 1) w' (0, i + 2)) (by simp only [wE_I, wE_V, wE_F, wE_A, wE_N, wE_1, wE_2, wE_D, wE_B, wE_If, wE_C, wE_CV, wE_SL, wE_SA, wA_0, wA_1, wC_B, wC_E, wC_And, wC_Or, wC_Not, wS_Skip, wS_Brk, wS_Cnt, wS_RetV, wS_Ret, wS_Seq, wS_Set, wS_Inc, wS_Do, wS_Put, wS_PutC, wS_Arr, wS_ArrC, wS_If, wS_Sw, wS_F0, wS_F1, wM_q, lu_ap, aL_ap, ct_0, ct_1, ct_2, ct_3, ct_4, ct_5, headD_1, List.mem_cons, List.not_mem_nil, or_false, false_or, or_true, true_or, true_and, and_true, false_and, and_false, not_true_eq_false, not_false_eq_true, if_true, if_false, nr_20, nr_24, nr_40, nr_41, nr_44, pt_lt, pt_ge, pt_eq, pt_ne, pt_gt, pt_le, pt_E, pt_N, pt_F, ite_10, ite_11, ne_eq, and_self, or_self, decide_true, decide_false, Bool.not_true, Bool.not_false, Bool.false_eq_true, Nat.reduceEqDiff, Nat.reduceAdd, Int.reduceEq, Int.reduceLT, Int.reduceLE, Int.reduceNeg, Int.reduceAdd, Int.reduceSub, Int.reduceMul, reduceCtorEq, iA, iS, iM, iD, iR, iN, lA, lS, lM, lD, lR, k0, hMP.k]; exact hsc) ?_
        intro w4 hm4
        refine ws_call (fun w' => Mm S v T M n (fun w' => fmF w w' M B b ∧ w' (M + 18) (4 * B + b) = 1) w' (stp (fKd v T 270) (0, i + 2))) (by
          have := hm4.nw hc qP (j := 9) (by decide)
          rw [show (256 : Int) + (pmN 9 : Nat) = 270 from rfl] at this
          simp only [wE_I, wE_V, wE_F, wE_A, wE_N, wE_1, wE_2, wE_D, wE_B, wE_If, wE_C, wE_CV, wE_SL, wE_SA, wA_0, wA_1, wC_B, wC_E, wC_And, wC_Or, wC_Not, wS_Skip, wS_Brk, wS_Cnt, wS_RetV, wS_Ret, wS_Seq, wS_Set, wS_Inc, wS_Do, wS_Put, wS_PutC, wS_Arr, wS_ArrC, wS_If, wS_Sw, wS_F0, wS_F1, wM_q, lu_ap, aL_ap, ct_0, ct_1, ct_2, ct_3, ct_4, ct_5, headD_1, List.mem_cons, List.not_mem_nil, or_false, false_or, or_true, true_or, true_and, and_true, false_and, and_false, not_true_eq_false, not_false_eq_true, if_true, if_false, nr_20, nr_24, nr_40, nr_41, nr_44, pt_lt, pt_ge, pt_eq, pt_ne, pt_gt, pt_le, pt_E, pt_N, pt_F, ite_10, ite_11, ne_eq, and_self, or_self, decide_true, decide_false, Bool.not_true, Bool.not_false, Bool.false_eq_true, Nat.reduceEqDiff, Nat.reduceAdd, Int.reduceEq, Int.reduceLT, Int.reduceLE, Int.reduceNeg, Int.reduceAdd, Int.reduceSub, Int.reduceMul, reduceCtorEq, iA, iS, iM, iD, iR, iN, lA, lS, lM, lD, lR, k0, hm4.2.1.1.k]
          exact this) ?_
        intro w5 hm5
        refine m_foN hc hm5 o8 k0 k3 ?_
        intro w6 hm6
        refine hm6.cg (fun q => ⟨q.1, fun z => ?_⟩)
        obtain ⟨y1, y2, y3, y4, y5, y6⟩ := q.2 z
        have ho2 : (stp (fKd v T 270) (0, i + 2)).2 = i + 3 := by
          unfold foN at z
          have z1 := (stp_i z).1
          have z2 := (stp_i z1).1
          have z3 := (stp_i z2).1
          have z4 := (stp_i z3).1
          have z5 := (stp_i z4).1
          have z6 := (stp_i z5).1
          have z7 := (stp_i z6).1
          have := (stp_i z7).2.2
          rw [this]
          show i + 2 + 1 = i + 3
          omega
        rw [ho2] at y2 y3 y4 y5 y6
        rw [show i + 3 + 2 = i + 5 by omega] at y3
        rw [show i + 3 + 3 = i + 6 by omega] at y4
        rw [show i + 3 + 4 = i + 7 by omega] at y5
        rw [show i + 3 + 6 = i + 9 by omega] at y6
        exact ⟨y1, y2, y3, y4, y5, y6⟩
  · have ho : foM v T i b sea = (1, i + 1) := by unfold foM; rw [if_pos ck]
    rw [if_neg ck] at hnm
    have hfl := hm1.fl hQ0 (f := 1) (by decide)
    rw [if_pos rfl] at hfl
    simp only [wE_I, wE_V, wE_F, wE_A, wE_N, wE_1, wE_2, wE_D, wE_B, wE_If, wE_C, wE_CV, wE_SL, wE_SA, wA_0, wA_1, wC_B, wC_E, wC_And, wC_Or, wC_Not, wS_Skip, wS_Brk, wS_Cnt, wS_RetV, wS_Ret, wS_Seq, wS_Set, wS_Inc, wS_Do, wS_Put, wS_PutC, wS_Arr, wS_ArrC, wS_If, wS_Sw, wS_F0, wS_F1, wM_q, lu_ap, aL_ap, ct_0, ct_1, ct_2, ct_3, ct_4, ct_5, headD_1, List.mem_cons, List.not_mem_nil, or_false, false_or, or_true, true_or, true_and, and_true, false_and, and_false, not_true_eq_false, not_false_eq_true, if_true, if_false, nr_20, nr_24, nr_40, nr_41, nr_44, pt_lt, pt_ge, pt_eq, pt_ne, pt_gt, pt_le, pt_E, pt_N, pt_F, ite_10, ite_11, ne_eq, and_self, or_self, decide_true, decide_false, Bool.not_true, Bool.not_false, Bool.false_eq_true, Nat.reduceEqDiff, Nat.reduceAdd, Int.reduceEq, Int.reduceLT, Int.reduceLE, Int.reduceNeg, Int.reduceAdd, Int.reduceSub, Int.reduceMul, reduceCtorEq, iA, iS, iM, iD, iR, iN, lA, lS, lM, lD, lR, l0, hM1.k, wM_of hnm]
    refine wM_mono hfl ?_
    rintro r w2 e2 hm2
    have hd := hm2.dead (by simp)
    simp only [l0, hm2.2.1.1.k, hd, wE_I, wE_V, wE_F, wE_A, wE_N, wE_1, wE_2, wE_D, wE_B, wE_If, wE_C, wE_CV, wE_SL, wE_SA, wA_0, wA_1, wC_B, wC_E, wC_And, wC_Or, wC_Not, wS_Skip, wS_Brk, wS_Cnt, wS_RetV, wS_Ret, wS_Seq, wS_Set, wS_Inc, wS_Do, wS_Put, wS_PutC, wS_Arr, wS_ArrC, wS_If, wS_Sw, wS_F0, wS_F1, wM_q, lu_ap, aL_ap, ct_0, ct_1, ct_2, ct_3, ct_4, ct_5, headD_1, List.mem_cons, List.not_mem_nil, or_false, false_or, or_true, true_or, true_and, and_true, false_and, and_false, not_true_eq_false, not_false_eq_true, if_true, if_false, nr_20, nr_24, nr_40, nr_41, nr_44, pt_lt, pt_ge, pt_eq, pt_ne, pt_gt, pt_le, pt_E, pt_N, pt_F, ite_10, ite_11, ne_eq, and_self, or_self, decide_true, decide_false, Bool.not_true, Bool.not_false, Bool.false_eq_true, Nat.reduceEqDiff, Nat.reduceAdd, Int.reduceEq, Int.reduceLT, Int.reduceLE, Int.reduceNeg, Int.reduceAdd, Int.reduceSub, Int.reduceMul, reduceCtorEq]
    rw [ho]
    exact hm2.cg (fun q => ⟨q.2.1, fun z => absurd z (by simp)⟩)
end MG
