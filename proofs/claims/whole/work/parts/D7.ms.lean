/-! STORE: a measure's line, the reference's whole -/
section MS2
variable {S : QS} {v w u : QV} {M T n x P B : Int} {o : Int × Int}
theorem srtK_b {k : Int} (h : ¬ srtK k = -1) : 0 ≤ srtK k ∧ srtK k ≤ 2 ∧ k ≠ 1 := by
  unfold srtK at h ⊢
  split
  · omega
  · split
    · omega
    · split
      · omega
      · rename_i a b c; rw [if_neg a, if_neg b, if_neg c] at h; exact absurd rfl h
theorem m_readMeasure {i cnt nn b : Int} (hc : CX v M T n) (h : Mm S v T M n (fun _ => True) w (0, i)) (hB : B = 0 ∨ B = 1) (hcnt : w (M + 3) B = cnt) (hc0 : 0 ≤ cnt ∧ cnt ≤ 4) (hK : kdT v T i ≠ 1) (hu : ∀ q k, T ≤ q → q ≤ T + 4 → u q k = v q k) (hR : NR u w T x M) (hnn : u x 7 = nn) (hn84 : cnt < 4 → 0 ≤ nn ∧ nn < 8) (hb : kdT v T (i + 1) = 4 → isBe u T x (i + 1) b) (hbb : -1 ≤ b ∧ b < 8) : wM mX12_readMeasure [M, B] S w (fun _ w' => Mm S v T M n (fun w' => mrF w w' M B cnt nn ∧ ((meR v T i cnt b).1 = 0 → (w' (M + 3) B = cnt + 1 ∧ w' M 27 = nn + 1 ∧ w' (M + 26) nn = stT v T (i + 1) ∧ w' (M + 27) nn = spT v T (i + 1) - stT v T (i + 1) ∧ w' (M + 30) nn = cnt) ∧ w' (M + 8) (4 * B + cnt) = srtK (kdT v T (i + 2)) ∧ (srtK (kdT v T (i + 2)) = 2 → w' (M + 9) (4 * B + cnt) = nmT v T (i + 3) ∧ w' (M + 10) (4 * B + cnt) = nmT v T (i + 3 + 1)) ∧ w' (M + 11) (4 * B + cnt) = nmT v T (meJ (srtK (kdT v T (i + 2))) (i + 3) + 1) ∧ w' (M + 12) (4 * B + cnt) = leT v T (meJ (srtK (kdT v T (i + 2))) (i + 3) + 2) ∧ w' (M + 13) (4 * B + cnt) = moT v T (meL v T (0, meJ (srtK (kdT v T (i + 2))) (i + 3) + 2)).2)) w' (meR v T i cnt b)) := by
  have hM := h.2.1.1
  have oB : 0 ≤ B ∧ B < 2 := by omega
  have n00 : ¬ (0 : Int) < 0 := by decide
  unfold meR
  by_cases c4 : 4 ≤ cnt
  · have ce : cnt = 4 := by omega
    rw [if_pos c4]
    have hfl := (h.cg (Q' := fun w' => mrF w w' M B cnt nn) (fun _ _ _ _ _ _ _ => rfl)).fl (fun w1 w2 q1 q2 => q1.f q2) (f := 4) (by decide)
    rw [if_pos rfl] at hfl
    rw [ce] at hcnt
    simp only [mX12_readMeasure, sX12_readMeasure, wE_I, wE_V, wE_F, wE_A, wE_N, wE_1, wE_2, wE_D, wE_B, wE_If, wE_C, wE_CV, wE_SL, wE_SA, wA_0, wA_1, wC_B, wC_E, wC_And, wC_Or, wC_Not, wS_Skip, wS_Brk, wS_Cnt, wS_RetV, wS_Ret, wS_Seq, wS_Set, wS_Inc, wS_Do, wS_Put, wS_PutC, wS_Arr, wS_ArrC, wS_If, wS_Sw, wS_F0, wS_F1, wM_q, lu_ap, aL_ap, ct_0, ct_1, ct_2, ct_3, ct_4, ct_5, headD_1, List.mem_cons, List.not_mem_nil, or_false, false_or, or_true, true_or, true_and, and_true, false_and, and_false, not_true_eq_false, not_false_eq_true, if_true, if_false, nr_20, nr_24, nr_40, nr_41, nr_44, pt_lt, pt_ge, pt_eq, pt_ne, pt_gt, pt_le, pt_E, pt_N, pt_F, ite_10, ite_11, ne_eq, and_self, or_self, decide_true, decide_false, Bool.not_true, Bool.not_false, Bool.false_eq_true, Nat.reduceEqDiff, Nat.reduceAdd, Int.reduceEq, Int.reduceLT, Int.reduceLE, Int.reduceNeg, Int.reduceAdd, Int.reduceSub, Int.reduceMul, reduceCtorEq, iA, iS, iM, iD, iR, iN, lA, lS, lM, lD, lR, hM.k, hM.p2, hM.a3, hM.n3, oB, hcnt]
    refine wM_mono hfl ?_
    rintro r w' e hm
    have hd := hm.dead (by simp)
    simp only [hm.2.1.1.k, hd, wE_I, wE_V, wE_F, wE_A, wE_N, wE_1, wE_2, wE_D, wE_B, wE_If, wE_C, wE_CV, wE_SL, wE_SA, wA_0, wA_1, wC_B, wC_E, wC_And, wC_Or, wC_Not, wS_Skip, wS_Brk, wS_Cnt, wS_RetV, wS_Ret, wS_Seq, wS_Set, wS_Inc, wS_Do, wS_Put, wS_PutC, wS_Arr, wS_ArrC, wS_If, wS_Sw, wS_F0, wS_F1, wM_q, lu_ap, aL_ap, ct_0, ct_1, ct_2, ct_3, ct_4, ct_5, headD_1, List.mem_cons, List.not_mem_nil, or_false, false_or, or_true, true_or, true_and, and_true, false_and, and_false, not_true_eq_false, not_false_eq_true, if_true, if_false, nr_20, nr_24, nr_40, nr_41, nr_44, pt_lt, pt_ge, pt_eq, pt_ne, pt_gt, pt_le, pt_E, pt_N, pt_F, ite_10, ite_11, ne_eq, and_self, or_self, decide_true, decide_false, Bool.not_true, Bool.not_false, Bool.false_eq_true, Nat.reduceEqDiff, Nat.reduceAdd, Int.reduceEq, Int.reduceLT, Int.reduceLE, Int.reduceNeg, Int.reduceAdd, Int.reduceSub, Int.reduceMul, reduceCtorEq]
    exact hm.cg (fun q => ⟨q, fun z => absurd z (by simp)⟩)
  · rw [if_neg c4]
    have ce : ¬ cnt = 4 := by omega
    have hn8 : 0 ≤ nn ∧ nn < 8 := hn84 (by omega)
    have o8 : 0 ≤ 4 * B + cnt ∧ 4 * B + cnt < 8 := by omega
    have hown := fun u : QV => m_own (S := S) (v := u) (k := cnt) hB (by omega)
    have h27 : w M 27 = nn := by rw [hR.1.1]; exact hnn
    simp only [mX12_readMeasure, sX12_readMeasure, wM_q]
    generalize hL : aL 0 [2, 0] [M, B] = L
    have m0 : L 0 = M := by rw [← hL]; simp [lu_ap, aL_ap, ct_0, ct_1, ct_2]
    have m1 : L 1 = B := by rw [← hL]; simp [lu_ap, aL_ap, ct_0, ct_1, ct_2]
    clear hL
    refine ws_step (L' := L) (w := w) (by simp only [wE_I, wE_V, wE_F, wE_A, wE_N, wE_1, wE_2, wE_D, wE_B, wE_If, wE_C, wE_CV, wE_SL, wE_SA, wA_0, wA_1, wC_B, wC_E, wC_And, wC_Or, wC_Not, wS_Skip, wS_Brk, wS_Cnt, wS_RetV, wS_Ret, wS_Seq, wS_Set, wS_Inc, wS_Do, wS_Put, wS_PutC, wS_Arr, wS_ArrC, wS_If, wS_Sw, wS_F0, wS_F1, wM_q, lu_ap, aL_ap, ct_0, ct_1, ct_2, ct_3, ct_4, ct_5, headD_1, List.mem_cons, List.not_mem_nil, or_false, false_or, or_true, true_or, true_and, and_true, false_and, and_false, not_true_eq_false, not_false_eq_true, if_true, if_false, nr_20, nr_24, nr_40, nr_41, nr_44, pt_lt, pt_ge, pt_eq, pt_ne, pt_gt, pt_le, pt_E, pt_N, pt_F, ite_10, ite_11, ne_eq, and_self, or_self, decide_true, decide_false, Bool.not_true, Bool.not_false, Bool.false_eq_true, Nat.reduceEqDiff, Nat.reduceAdd, Int.reduceEq, Int.reduceLT, Int.reduceLE, Int.reduceNeg, Int.reduceAdd, Int.reduceSub, Int.reduceMul, reduceCtorEq, iA, iS, iM, iD, iR, iN, lA, lS, lM, lD, lR, m0, m1, hM.k, hM.p2, hM.a3, hM.n3, oB, hcnt, ce]) ?_
    refine ws_step (L' := L) (w := w) (by simp only [wE_I, wE_V, wE_F, wE_A, wE_N, wE_1, wE_2, wE_D, wE_B, wE_If, wE_C, wE_CV, wE_SL, wE_SA, wA_0, wA_1, wC_B, wC_E, wC_And, wC_Or, wC_Not, wS_Skip, wS_Brk, wS_Cnt, wS_RetV, wS_Ret, wS_Seq, wS_Set, wS_Inc, wS_Do, wS_Put, wS_PutC, wS_Arr, wS_ArrC, wS_If, wS_Sw, wS_F0, wS_F1, wM_q, lu_ap, aL_ap, ct_0, ct_1, ct_2, ct_3, ct_4, ct_5, headD_1, List.mem_cons, List.not_mem_nil, or_false, false_or, or_true, true_or, true_and, and_true, false_and, and_false, not_true_eq_false, not_false_eq_true, if_true, if_false, nr_20, nr_24, nr_40, nr_41, nr_44, pt_lt, pt_ge, pt_eq, pt_ne, pt_gt, pt_le, pt_E, pt_N, pt_F, ite_10, ite_11, ne_eq, and_self, or_self, decide_true, decide_false, Bool.not_true, Bool.not_false, Bool.false_eq_true, Nat.reduceEqDiff, Nat.reduceAdd, Int.reduceEq, Int.reduceLT, Int.reduceLE, Int.reduceNeg, Int.reduceAdd, Int.reduceSub, Int.reduceMul, reduceCtorEq, iA, iS, iM, iD, iR, iN, lA, lS, lM, lD, lR, m0, hM.k, h.live, n00]) ?_
    have hm0 := h.cg (Q' := fun w' => Fp M w w') (fun _ => Fp.rf)
    refine ws_call (fun w' => Mm S v T M n (fun w' => Fp M w w') w' (0, i + 1)) (by simp only [wE_I, wE_V, wE_F, wE_A, wE_N, wE_1, wE_2, wE_D, wE_B, wE_If, wE_C, wE_CV, wE_SL, wE_SA, wA_0, wA_1, wC_B, wC_E, wC_And, wC_Or, wC_Not, wS_Skip, wS_Brk, wS_Cnt, wS_RetV, wS_Ret, wS_Seq, wS_Set, wS_Inc, wS_Do, wS_Put, wS_PutC, wS_Arr, wS_ArrC, wS_If, wS_Sw, wS_F0, wS_F1, wM_q, lu_ap, aL_ap, ct_0, ct_1, ct_2, ct_3, ct_4, ct_5, headD_1, List.mem_cons, List.not_mem_nil, or_false, false_or, or_true, true_or, true_and, and_true, false_and, and_false, not_true_eq_false, not_false_eq_true, if_true, if_false, nr_20, nr_24, nr_40, nr_41, nr_44, pt_lt, pt_ge, pt_eq, pt_ne, pt_gt, pt_le, pt_E, pt_N, pt_F, ite_10, ite_11, ne_eq, and_self, or_self, decide_true, decide_false, Bool.not_true, Bool.not_false, Bool.false_eq_true, Nat.reduceEqDiff, Nat.reduceAdd, Int.reduceEq, Int.reduceLT, Int.reduceLE, Int.reduceNeg, Int.reduceAdd, Int.reduceSub, Int.reduceMul, reduceCtorEq, iA, iS, iM, iD, iR, iN, lA, lS, lM, lD, lR, m0, hM.k]; exact hm0.sc hc (fun w1 w2 q1 q2 => q1.tr q2) hK) ?_
    intro w1 hm1
    have hM1 := hm1.2.1.1
    have hF1 := hm1.2.2
    have hR1 := hR.fp hF1
    have y3 : w1 (M + 3) B = cnt := by rw [hF1 _ _ (by omega)]; exact hcnt
    have y27 : w1 M 27 = nn := by rw [hF1 _ _ (by omega)]; exact h27
    refine ws_step (L' := lu L 2 (4 * B + cnt)) (w := w1) (by simp only [wE_I, wE_V, wE_F, wE_A, wE_N, wE_1, wE_2, wE_D, wE_B, wE_If, wE_C, wE_CV, wE_SL, wE_SA, wA_0, wA_1, wC_B, wC_E, wC_And, wC_Or, wC_Not, wS_Skip, wS_Brk, wS_Cnt, wS_RetV, wS_Ret, wS_Seq, wS_Set, wS_Inc, wS_Do, wS_Put, wS_PutC, wS_Arr, wS_ArrC, wS_If, wS_Sw, wS_F0, wS_F1, wM_q, lu_ap, aL_ap, ct_0, ct_1, ct_2, ct_3, ct_4, ct_5, headD_1, List.mem_cons, List.not_mem_nil, or_false, false_or, or_true, true_or, true_and, and_true, false_and, and_false, not_true_eq_false, not_false_eq_true, if_true, if_false, nr_20, nr_24, nr_40, nr_41, nr_44, pt_lt, pt_ge, pt_eq, pt_ne, pt_gt, pt_le, pt_E, pt_N, pt_F, ite_10, ite_11, ne_eq, and_self, or_self, decide_true, decide_false, Bool.not_true, Bool.not_false, Bool.false_eq_true, Nat.reduceEqDiff, Nat.reduceAdd, Int.reduceEq, Int.reduceLT, Int.reduceLE, Int.reduceNeg, Int.reduceAdd, Int.reduceSub, Int.reduceMul, reduceCtorEq, iA, iS, iM, iD, iR, iN, lA, lS, lM, lD, lR, m0, m1, hM1.k, hM1.p2, hM1.a3, hM1.n3, oB, y3, wM_of (hown _)]) ?_
    refine ws_step (L' := lu (lu L 2 (4 * B + cnt)) 3 cnt) (w := w1) (by simp only [wE_I, wE_V, wE_F, wE_A, wE_N, wE_1, wE_2, wE_D, wE_B, wE_If, wE_C, wE_CV, wE_SL, wE_SA, wA_0, wA_1, wC_B, wC_E, wC_And, wC_Or, wC_Not, wS_Skip, wS_Brk, wS_Cnt, wS_RetV, wS_Ret, wS_Seq, wS_Set, wS_Inc, wS_Do, wS_Put, wS_PutC, wS_Arr, wS_ArrC, wS_If, wS_Sw, wS_F0, wS_F1, wM_q, lu_ap, aL_ap, ct_0, ct_1, ct_2, ct_3, ct_4, ct_5, headD_1, List.mem_cons, List.not_mem_nil, or_false, false_or, or_true, true_or, true_and, and_true, false_and, and_false, not_true_eq_false, not_false_eq_true, if_true, if_false, nr_20, nr_24, nr_40, nr_41, nr_44, pt_lt, pt_ge, pt_eq, pt_ne, pt_gt, pt_le, pt_E, pt_N, pt_F, ite_10, ite_11, ne_eq, and_self, or_self, decide_true, decide_false, Bool.not_true, Bool.not_false, Bool.false_eq_true, Nat.reduceEqDiff, Nat.reduceAdd, Int.reduceEq, Int.reduceLT, Int.reduceLE, Int.reduceNeg, Int.reduceAdd, Int.reduceSub, Int.reduceMul, reduceCtorEq, iA, iS, iM, iD, iR, iN, lA, lS, lM, lD, lR, m0, m1, hM1.k, hM1.p2, hM1.a3, hM1.n3, oB, y3]) ?_
    refine ws_step (L' := lu (lu (lu L 2 (4 * B + cnt)) 3 cnt) 4 nn) (w := w1) (by simp only [wE_I, wE_V, wE_F, wE_A, wE_N, wE_1, wE_2, wE_D, wE_B, wE_If, wE_C, wE_CV, wE_SL, wE_SA, wA_0, wA_1, wC_B, wC_E, wC_And, wC_Or, wC_Not, wS_Skip, wS_Brk, wS_Cnt, wS_RetV, wS_Ret, wS_Seq, wS_Set, wS_Inc, wS_Do, wS_Put, wS_PutC, wS_Arr, wS_ArrC, wS_If, wS_Sw, wS_F0, wS_F1, wM_q, lu_ap, aL_ap, ct_0, ct_1, ct_2, ct_3, ct_4, ct_5, headD_1, List.mem_cons, List.not_mem_nil, or_false, false_or, or_true, true_or, true_and, and_true, false_and, and_false, not_true_eq_false, not_false_eq_true, if_true, if_false, nr_20, nr_24, nr_40, nr_41, nr_44, pt_lt, pt_ge, pt_eq, pt_ne, pt_gt, pt_le, pt_E, pt_N, pt_F, ite_10, ite_11, ne_eq, and_self, or_self, decide_true, decide_false, Bool.not_true, Bool.not_false, Bool.false_eq_true, Nat.reduceEqDiff, Nat.reduceAdd, Int.reduceEq, Int.reduceLT, Int.reduceLE, Int.reduceNeg, Int.reduceAdd, Int.reduceSub, Int.reduceMul, reduceCtorEq, iA, iS, iM, iD, iR, iN, lA, lS, lM, lD, lR, m0, hM1.k, y27]) ?_
    have l0 : lu (lu (lu L 2 (4 * B + cnt)) 3 cnt) 4 nn 0 = M := by simp [lu_ap, m0]
    have l1 : lu (lu (lu L 2 (4 * B + cnt)) 3 cnt) 4 nn 1 = B := by simp [lu_ap, m1]
    have l2 : lu (lu (lu L 2 (4 * B + cnt)) 3 cnt) 4 nn 2 = 4 * B + cnt := by simp [lu_ap]
    have l3 : lu (lu (lu L 2 (4 * B + cnt)) 3 cnt) 4 nn 3 = cnt := by simp [lu_ap]
    have l4 : lu (lu (lu L 2 (4 * B + cnt)) 3 cnt) 4 nn 4 = nn := by simp [lu_ap]
    generalize lu (lu (lu L 2 (4 * B + cnt)) 3 cnt) 4 nn = L1 at *
    have hnw := m_newName (st := cnt) hc (hm1.cg (Q' := fun w' => w' = w1) (fun _ => rfl)) (fun w' q => q) rfl hu hR1 hnn hn8 hb hbb
    refine ws_call (fun w' => Mm S v T M n (fun w' => mnF w1 w' M nn ∧ ((nwO v T (i + 1) b).1 = 0 → w' M 27 = nn + 1 ∧ w' (M + 26) nn = stT v T (i + 1) ∧ w' (M + 27) nn = spT v T (i + 1) - stT v T (i + 1) ∧ w' (M + 30) nn = cnt) ∧ (¬ (nwO v T (i + 1) b).1 = 0 → w' M 27 = nn)) w' (nwO v T (i + 1) b)) (by simp only [wE_I, wE_V, wE_F, wE_A, wE_N, wE_1, wE_2, wE_D, wE_B, wE_If, wE_C, wE_CV, wE_SL, wE_SA, wA_0, wA_1, wC_B, wC_E, wC_And, wC_Or, wC_Not, wS_Skip, wS_Brk, wS_Cnt, wS_RetV, wS_Ret, wS_Seq, wS_Set, wS_Inc, wS_Do, wS_Put, wS_PutC, wS_Arr, wS_ArrC, wS_If, wS_Sw, wS_F0, wS_F1, wM_q, lu_ap, aL_ap, ct_0, ct_1, ct_2, ct_3, ct_4, ct_5, headD_1, List.mem_cons, List.not_mem_nil, or_false, false_or, or_true, true_or, true_and, and_true, false_and, and_false, not_true_eq_false, not_false_eq_true, if_true, if_false, nr_20, nr_24, nr_40, nr_41, nr_44, pt_lt, pt_ge, pt_eq, pt_ne, pt_gt, pt_le, pt_E, pt_N, pt_F, ite_10, ite_11, ne_eq, and_self, or_self, decide_true, decide_false, Bool.not_true, Bool.not_false, Bool.false_eq_true, Nat.reduceEqDiff, Nat.reduceAdd, Int.reduceEq, Int.reduceLT, Int.reduceLE, Int.reduceNeg, Int.reduceAdd, Int.reduceSub, Int.reduceMul, reduceCtorEq, iA, iS, iM, iD, iR, iN, lA, lS, lM, lD, lR, l0, l3, hM1.k]; exact hnw) ?_
    intro w2 hm2
    have hmn : ∀ w', mnF w1 w' M nn → mrF w w' M B cnt nn := fun w' q a k q1 q2 q3 q4 => by
      rw [q a k (fun e => ⟨by have := (q1 e).1; omega, (q1 e).2⟩) (fun e => by have := q4 e; omega)]
      exact hF1 a k (fun e => (q1 e).2)
    by_cases ck : kdT v T (i + 1) = 4
    · rw [if_neg (fun z => z ck)]
      by_cases cb : b = -1
      · rw [if_neg (fun z => z cb)]
        have ho : nwO v T (i + 1) b = (0, i + 2) := by
          unfold nwO
          rw [if_neg (fun z => z ck), if_neg (fun z => z cb), show i + 1 + 1 = i + 2 by omega]
        rw [ho] at hm2
        have hM2 := hm2.2.1.1
        obtain ⟨hF2, hN2, -⟩ := hm2.2.2
        have hN2 := hN2 rfl
        refine ws_step (L' := L1) (w := w2) (by simp only [wE_I, wE_V, wE_F, wE_A, wE_N, wE_1, wE_2, wE_D, wE_B, wE_If, wE_C, wE_CV, wE_SL, wE_SA, wA_0, wA_1, wC_B, wC_E, wC_And, wC_Or, wC_Not, wS_Skip, wS_Brk, wS_Cnt, wS_RetV, wS_Ret, wS_Seq, wS_Set, wS_Inc, wS_Do, wS_Put, wS_PutC, wS_Arr, wS_ArrC, wS_If, wS_Sw, wS_F0, wS_F1, wM_q, lu_ap, aL_ap, ct_0, ct_1, ct_2, ct_3, ct_4, ct_5, headD_1, List.mem_cons, List.not_mem_nil, or_false, false_or, or_true, true_or, true_and, and_true, false_and, and_false, not_true_eq_false, not_false_eq_true, if_true, if_false, nr_20, nr_24, nr_40, nr_41, nr_44, pt_lt, pt_ge, pt_eq, pt_ne, pt_gt, pt_le, pt_E, pt_N, pt_F, ite_10, ite_11, ne_eq, and_self, or_self, decide_true, decide_false, Bool.not_true, Bool.not_false, Bool.false_eq_true, Nat.reduceEqDiff, Nat.reduceAdd, Int.reduceEq, Int.reduceLT, Int.reduceLE, Int.reduceNeg, Int.reduceAdd, Int.reduceSub, Int.reduceMul, reduceCtorEq, iA, iS, iM, iD, iR, iN, lA, lS, lM, lD, lR, l0, hM2.k, hm2.live, n00]) ?_
        have w12 := m_isWordO hm2.2.1 hm2.1 (j := 12) (by decide)
        have w13 := m_isWordO hm2.2.1 hm2.1 (j := 13) (by decide)
        simp only [show (256 : Int) + (pmN 12 : Nat) = 258 from rfl, show (256 : Int) + (pmN 13 : Nat) = 259 from rfl, true_and, show (((12 : Nat)) : Int) = 12 from rfl, show (((13 : Nat)) : Int) = 13 from rfl] at w12 w13
        generalize hk : kdT v T (i + 2) = k at *
        refine ws_step (L' := L1) (w := vu w2 (M + 8) (4 * B + cnt) (if k = 258 then 0 else if k = 259 then 1 else 2)) ?_ ?_
        · by_cases c1 : k = 258
          · rw [if_pos c1] at w12
            simp only [wE_I, wE_V, wE_F, wE_A, wE_N, wE_1, wE_2, wE_D, wE_B, wE_If, wE_C, wE_CV, wE_SL, wE_SA, wA_0, wA_1, wC_B, wC_E, wC_And, wC_Or, wC_Not, wS_Skip, wS_Brk, wS_Cnt, wS_RetV, wS_Ret, wS_Seq, wS_Set, wS_Inc, wS_Do, wS_Put, wS_PutC, wS_Arr, wS_ArrC, wS_If, wS_Sw, wS_F0, wS_F1, wM_q, lu_ap, aL_ap, ct_0, ct_1, ct_2, ct_3, ct_4, ct_5, headD_1, List.mem_cons, List.not_mem_nil, or_false, false_or, or_true, true_or, true_and, and_true, false_and, and_false, not_true_eq_false, not_false_eq_true, if_true, if_false, nr_20, nr_24, nr_40, nr_41, nr_44, pt_lt, pt_ge, pt_eq, pt_ne, pt_gt, pt_le, pt_E, pt_N, pt_F, ite_10, ite_11, ne_eq, and_self, or_self, decide_true, decide_false, Bool.not_true, Bool.not_false, Bool.false_eq_true, Nat.reduceEqDiff, Nat.reduceAdd, Int.reduceEq, Int.reduceLT, Int.reduceLE, Int.reduceNeg, Int.reduceAdd, Int.reduceSub, Int.reduceMul, reduceCtorEq, iA, iS, iM, iD, iR, iN, lA, lS, lM, lD, lR, l0, l2, hM2.k, hM2.p7, hM2.a8, hM2.n8, o8, wM_of w12, c1]
          · rw [if_neg c1] at w12
            by_cases c2 : k = 259
            · rw [if_pos c2] at w13
              simp only [wE_I, wE_V, wE_F, wE_A, wE_N, wE_1, wE_2, wE_D, wE_B, wE_If, wE_C, wE_CV, wE_SL, wE_SA, wA_0, wA_1, wC_B, wC_E, wC_And, wC_Or, wC_Not, wS_Skip, wS_Brk, wS_Cnt, wS_RetV, wS_Ret, wS_Seq, wS_Set, wS_Inc, wS_Do, wS_Put, wS_PutC, wS_Arr, wS_ArrC, wS_If, wS_Sw, wS_F0, wS_F1, wM_q, lu_ap, aL_ap, ct_0, ct_1, ct_2, ct_3, ct_4, ct_5, headD_1, List.mem_cons, List.not_mem_nil, or_false, false_or, or_true, true_or, true_and, and_true, false_and, and_false, not_true_eq_false, not_false_eq_true, if_true, if_false, nr_20, nr_24, nr_40, nr_41, nr_44, pt_lt, pt_ge, pt_eq, pt_ne, pt_gt, pt_le, pt_E, pt_N, pt_F, ite_10, ite_11, ne_eq, and_self, or_self, decide_true, decide_false, Bool.not_true, Bool.not_false, Bool.false_eq_true, Nat.reduceEqDiff, Nat.reduceAdd, Int.reduceEq, Int.reduceLT, Int.reduceLE, Int.reduceNeg, Int.reduceAdd, Int.reduceSub, Int.reduceMul, reduceCtorEq, iA, iS, iM, iD, iR, iN, lA, lS, lM, lD, lR, l0, l2, hM2.k, hM2.p7, hM2.a8, hM2.n8, o8, wM_of w12, wM_of w13, c2]
            · rw [if_neg c2] at w13
              simp only [wE_I, wE_V, wE_F, wE_A, wE_N, wE_1, wE_2, wE_D, wE_B, wE_If, wE_C, wE_CV, wE_SL, wE_SA, wA_0, wA_1, wC_B, wC_E, wC_And, wC_Or, wC_Not, wS_Skip, wS_Brk, wS_Cnt, wS_RetV, wS_Ret, wS_Seq, wS_Set, wS_Inc, wS_Do, wS_Put, wS_PutC, wS_Arr, wS_ArrC, wS_If, wS_Sw, wS_F0, wS_F1, wM_q, lu_ap, aL_ap, ct_0, ct_1, ct_2, ct_3, ct_4, ct_5, headD_1, List.mem_cons, List.not_mem_nil, or_false, false_or, or_true, true_or, true_and, and_true, false_and, and_false, not_true_eq_false, not_false_eq_true, if_true, if_false, nr_20, nr_24, nr_40, nr_41, nr_44, pt_lt, pt_ge, pt_eq, pt_ne, pt_gt, pt_le, pt_E, pt_N, pt_F, ite_10, ite_11, ne_eq, and_self, or_self, decide_true, decide_false, Bool.not_true, Bool.not_false, Bool.false_eq_true, Nat.reduceEqDiff, Nat.reduceAdd, Int.reduceEq, Int.reduceLT, Int.reduceLE, Int.reduceNeg, Int.reduceAdd, Int.reduceSub, Int.reduceMul, reduceCtorEq, iA, iS, iM, iD, iR, iN, lA, lS, lM, lD, lR, l0, l2, hM2.k, hM2.p7, hM2.a8, hM2.n8, o8, wM_of w12, wM_of w13, c1, c2]
        have hm3 := (hm2.cg (Q' := fun w' => mrF w2 w' M B cnt (-1) ∧ True) (fun _ => ⟨fun _ _ _ _ _ _ => rfl, trivial⟩)).cell (a := M + 8) (z := if k = 258 then 0 else if k = 259 then 1 else 2) (by omega) hM2.a8 (fun _ _ => trivial)
        have y8 : vu w2 (M + 8) (4 * B + cnt) (if k = 258 then 0 else if k = 259 then 1 else 2) (M + 8) (4 * B + cnt) = if k = 258 then 0 else if k = 259 then 1 else 2 := vu_is
        generalize vu w2 (M + 8) (4 * B + cnt) (if k = 258 then 0 else if k = 259 then 1 else 2) = w3 at *
        have hM3 := hm3.2.1.1
        have w14 := m_isWordO hm3.2.1 hm3.1 (j := 14) (by decide)
        simp only [show (256 : Int) + (pmN 14 : Nat) = 260 from rfl, true_and, show (((14 : Nat)) : Int) = 14 from rfl, hk] at w14
        have hback : ∀ w', mrF w2 w' M B cnt (-1) → mrF w w' M B cnt nn ∧ w' M 27 = nn + 1 ∧ w' (M + 26) nn = stT v T (i + 1) ∧ w' (M + 27) nn = spT v T (i + 1) - stT v T (i + 1) ∧ w' (M + 30) nn = cnt ∧ w' (M + 3) B = cnt := fun w' q => by
          have e : ∀ a k, (a = M → k < 32 ∨ 38 < k) → (M + 8 ≤ a → a ≤ M + 13 → k ≠ 4 * B + cnt) → w' a k = w2 a k := fun a k q1 q2 => q a k (fun z => ⟨Or.inr (by decide), q1 z⟩) (fun _ => Or.inr (by decide)) q2 (fun _ => Or.inr (by decide))
          refine ⟨fun a k q1 q2 q3 q4 => ?_, ?_, ?_, ?_, ?_, ?_⟩
          · rw [e a k (fun y => (q1 y).2) q3]
            exact hmn _ hF2 a k q1 q2 q3 q4
          · rw [e _ _ (by omega) (by omega)]; exact hN2.1
          · rw [e _ _ (by omega) (by omega)]; exact hN2.2.1
          · rw [e _ _ (by omega) (by omega)]; exact hN2.2.2.1
          · rw [e _ _ (by omega) (by omega)]; exact hN2.2.2.2
          · rw [e _ _ (by omega) (by omega), hF2 _ _ (by omega) (by omega)]; exact y3
        by_cases cs : srtK k = -1
        · rw [if_pos cs]
          have hn : ¬ k = 258 ∧ ¬ k = 259 ∧ ¬ k = 260 := by
            refine ⟨fun e => ?_, fun e => ?_, fun e => ?_⟩ <;> subst e <;> simp [srtK] at cs
          rw [if_neg hn.1, if_neg hn.2.1] at y8
          rw [if_neg hn.2.2] at w14
          have hfl := (hm3.cg (Q' := fun w' => mrF w2 w' M B cnt (-1)) (fun q => q.1)).fl (fun w1 w2 q1 q2 => q1.f q2) (f := 1) (by decide)
          rw [if_pos rfl] at hfl
          simp only [wE_I, wE_V, wE_F, wE_A, wE_N, wE_1, wE_2, wE_D, wE_B, wE_If, wE_C, wE_CV, wE_SL, wE_SA, wA_0, wA_1, wC_B, wC_E, wC_And, wC_Or, wC_Not, wS_Skip, wS_Brk, wS_Cnt, wS_RetV, wS_Ret, wS_Seq, wS_Set, wS_Inc, wS_Do, wS_Put, wS_PutC, wS_Arr, wS_ArrC, wS_If, wS_Sw, wS_F0, wS_F1, wM_q, lu_ap, aL_ap, ct_0, ct_1, ct_2, ct_3, ct_4, ct_5, headD_1, List.mem_cons, List.not_mem_nil, or_false, false_or, or_true, true_or, true_and, and_true, false_and, and_false, not_true_eq_false, not_false_eq_true, if_true, if_false, nr_20, nr_24, nr_40, nr_41, nr_44, pt_lt, pt_ge, pt_eq, pt_ne, pt_gt, pt_le, pt_E, pt_N, pt_F, ite_10, ite_11, ne_eq, and_self, or_self, decide_true, decide_false, Bool.not_true, Bool.not_false, Bool.false_eq_true, Nat.reduceEqDiff, Nat.reduceAdd, Int.reduceEq, Int.reduceLT, Int.reduceLE, Int.reduceNeg, Int.reduceAdd, Int.reduceSub, Int.reduceMul, reduceCtorEq, iA, iS, iM, iD, iR, iN, lA, lS, lM, lD, lR, l0, l2, hM3.k, hM3.p7, hM3.a8, hM3.n8, o8, y8, wM_of w14]
          refine wM_mono hfl ?_
          rintro r w' e hm
          have hd := hm.dead (by simp)
          simp only [l0, hm.2.1.1.k, hd, wE_I, wE_V, wE_F, wE_A, wE_N, wE_1, wE_2, wE_D, wE_B, wE_If, wE_C, wE_CV, wE_SL, wE_SA, wA_0, wA_1, wC_B, wC_E, wC_And, wC_Or, wC_Not, wS_Skip, wS_Brk, wS_Cnt, wS_RetV, wS_Ret, wS_Seq, wS_Set, wS_Inc, wS_Do, wS_Put, wS_PutC, wS_Arr, wS_ArrC, wS_If, wS_Sw, wS_F0, wS_F1, wM_q, lu_ap, aL_ap, ct_0, ct_1, ct_2, ct_3, ct_4, ct_5, headD_1, List.mem_cons, List.not_mem_nil, or_false, false_or, or_true, true_or, true_and, and_true, false_and, and_false, not_true_eq_false, not_false_eq_true, if_true, if_false, nr_20, nr_24, nr_40, nr_41, nr_44, pt_lt, pt_ge, pt_eq, pt_ne, pt_gt, pt_le, pt_E, pt_N, pt_F, ite_10, ite_11, ne_eq, and_self, or_self, decide_true, decide_false, Bool.not_true, Bool.not_false, Bool.false_eq_true, Nat.reduceEqDiff, Nat.reduceAdd, Int.reduceEq, Int.reduceLT, Int.reduceLE, Int.reduceNeg, Int.reduceAdd, Int.reduceSub, Int.reduceMul, reduceCtorEq]
          exact hm.cg (fun q => ⟨(hback _ q).1, fun z => absurd z (by simp)⟩)
        · rw [if_neg cs]
          have hsb := srtK_b cs
          have hv : (if k = 258 then 0 else if k = 259 then 1 else (2 : Int)) = srtK k := by
            unfold srtK at cs ⊢
            split
            · rfl
            · split
              · rfl
              · rename_i a b
                rw [if_neg a, if_neg b] at cs
                split
                · rfl
                · rename_i d; rw [if_neg d] at cs; exact absurd rfl cs
          rw [hv] at y8 hm3
          refine ws_step (L' := L1) (w := w3) ?_ ?_
          · by_cases c2 : srtK k = 2
            · have c60 : k = 260 := by
                unfold srtK at c2
                split at c2
                · cases c2
                · split at c2
                  · cases c2
                  · split at c2
                    · rename_i d; exact d
                    · cases c2
              rw [if_pos c60] at w14
              simp only [wE_I, wE_V, wE_F, wE_A, wE_N, wE_1, wE_2, wE_D, wE_B, wE_If, wE_C, wE_CV, wE_SL, wE_SA, wA_0, wA_1, wC_B, wC_E, wC_And, wC_Or, wC_Not, wS_Skip, wS_Brk, wS_Cnt, wS_RetV, wS_Ret, wS_Seq, wS_Set, wS_Inc, wS_Do, wS_Put, wS_PutC, wS_Arr, wS_ArrC, wS_If, wS_Sw, wS_F0, wS_F1, wM_q, lu_ap, aL_ap, ct_0, ct_1, ct_2, ct_3, ct_4, ct_5, headD_1, List.mem_cons, List.not_mem_nil, or_false, false_or, or_true, true_or, true_and, and_true, false_and, and_false, not_true_eq_false, not_false_eq_true, if_true, if_false, nr_20, nr_24, nr_40, nr_41, nr_44, pt_lt, pt_ge, pt_eq, pt_ne, pt_gt, pt_le, pt_E, pt_N, pt_F, ite_10, ite_11, ne_eq, and_self, or_self, decide_true, decide_false, Bool.not_true, Bool.not_false, Bool.false_eq_true, Nat.reduceEqDiff, Nat.reduceAdd, Int.reduceEq, Int.reduceLT, Int.reduceLE, Int.reduceNeg, Int.reduceAdd, Int.reduceSub, Int.reduceMul, reduceCtorEq, iA, iS, iM, iD, iR, iN, lA, lS, lM, lD, lR, l0, l2, hM3.k, hM3.p7, hM3.a8, hM3.n8, o8, y8, c2, wM_of w14]
            · simp only [wE_I, wE_V, wE_F, wE_A, wE_N, wE_1, wE_2, wE_D, wE_B, wE_If, wE_C, wE_CV, wE_SL, wE_SA, wA_0, wA_1, wC_B, wC_E, wC_And, wC_Or, wC_Not, wS_Skip, wS_Brk, wS_Cnt, wS_RetV, wS_Ret, wS_Seq, wS_Set, wS_Inc, wS_Do, wS_Put, wS_PutC, wS_Arr, wS_ArrC, wS_If, wS_Sw, wS_F0, wS_F1, wM_q, lu_ap, aL_ap, ct_0, ct_1, ct_2, ct_3, ct_4, ct_5, headD_1, List.mem_cons, List.not_mem_nil, or_false, false_or, or_true, true_or, true_and, and_true, false_and, and_false, not_true_eq_false, not_false_eq_true, if_true, if_false, nr_20, nr_24, nr_40, nr_41, nr_44, pt_lt, pt_ge, pt_eq, pt_ne, pt_gt, pt_le, pt_E, pt_N, pt_F, ite_10, ite_11, ne_eq, and_self, or_self, decide_true, decide_false, Bool.not_true, Bool.not_false, Bool.false_eq_true, Nat.reduceEqDiff, Nat.reduceAdd, Int.reduceEq, Int.reduceLT, Int.reduceLE, Int.reduceNeg, Int.reduceAdd, Int.reduceSub, Int.reduceMul, reduceCtorEq, iA, iS, iM, iD, iR, iN, lA, lS, lM, lD, lR, l0, l2, hM3.k, hM3.p7, hM3.a8, hM3.n8, o8, y8, c2]
          refine ws_step (L' := L1) (w := w3) (by simp only [wE_I, wE_V, wE_F, wE_A, wE_N, wE_1, wE_2, wE_D, wE_B, wE_If, wE_C, wE_CV, wE_SL, wE_SA, wA_0, wA_1, wC_B, wC_E, wC_And, wC_Or, wC_Not, wS_Skip, wS_Brk, wS_Cnt, wS_RetV, wS_Ret, wS_Seq, wS_Set, wS_Inc, wS_Do, wS_Put, wS_PutC, wS_Arr, wS_ArrC, wS_If, wS_Sw, wS_F0, wS_F1, wM_q, lu_ap, aL_ap, ct_0, ct_1, ct_2, ct_3, ct_4, ct_5, headD_1, List.mem_cons, List.not_mem_nil, or_false, false_or, or_true, true_or, true_and, and_true, false_and, and_false, not_true_eq_false, not_false_eq_true, if_true, if_false, nr_20, nr_24, nr_40, nr_41, nr_44, pt_lt, pt_ge, pt_eq, pt_ne, pt_gt, pt_le, pt_E, pt_N, pt_F, ite_10, ite_11, ne_eq, and_self, or_self, decide_true, decide_false, Bool.not_true, Bool.not_false, Bool.false_eq_true, Nat.reduceEqDiff, Nat.reduceAdd, Int.reduceEq, Int.reduceLT, Int.reduceLE, Int.reduceNeg, Int.reduceAdd, Int.reduceSub, Int.reduceMul, reduceCtorEq, iA, iS, iM, iD, iR, iN, lA, lS, lM, lD, lR, l0, hM3.k, hm3.live, n00]) ?_
          have hm3' := hm3.cg (Q' := fun w' => mrF w2 w' M B cnt (-1) ∧ w' (M + 8) (4 * B + cnt) = srtK k) (fun q => ⟨q.1, q.2.2⟩)
          have hq3 : Qz M (fun w' => mrF w2 w' M B cnt (-1) ∧ w' (M + 8) (4 * B + cnt) = srtK k) := mrF.qz (fun w1 w2 q1 q2 => by rw [q2 _ _ (by omega)]; exact q1)
          refine ws_call (fun w' => Mm S v T M n (fun w' => mrF w2 w' M B cnt (-1) ∧ w' (M + 8) (4 * B + cnt) = srtK k) w' (0, i + 3)) (by
            have := hm3'.sc hc hq3 (by rw [hk]; exact hsb.2.2)
            rw [show i + 2 + 1 = i + 3 by omega] at this
            simp only [wE_I, wE_V, wE_F, wE_A, wE_N, wE_1, wE_2, wE_D, wE_B, wE_If, wE_C, wE_CV, wE_SL, wE_SA, wA_0, wA_1, wC_B, wC_E, wC_And, wC_Or, wC_Not, wS_Skip, wS_Brk, wS_Cnt, wS_RetV, wS_Ret, wS_Seq, wS_Set, wS_Inc, wS_Do, wS_Put, wS_PutC, wS_Arr, wS_ArrC, wS_If, wS_Sw, wS_F0, wS_F1, wM_q, lu_ap, aL_ap, ct_0, ct_1, ct_2, ct_3, ct_4, ct_5, headD_1, List.mem_cons, List.not_mem_nil, or_false, false_or, or_true, true_or, true_and, and_true, false_and, and_false, not_true_eq_false, not_false_eq_true, if_true, if_false, nr_20, nr_24, nr_40, nr_41, nr_44, pt_lt, pt_ge, pt_eq, pt_ne, pt_gt, pt_le, pt_E, pt_N, pt_F, ite_10, ite_11, ne_eq, and_self, or_self, decide_true, decide_false, Bool.not_true, Bool.not_false, Bool.false_eq_true, Nat.reduceEqDiff, Nat.reduceAdd, Int.reduceEq, Int.reduceLT, Int.reduceLE, Int.reduceNeg, Int.reduceAdd, Int.reduceSub, Int.reduceMul, reduceCtorEq, iA, iS, iM, iD, iR, iN, lA, lS, lM, lD, lR, l0, hM3.k]
            exact this) ?_
          intro w4 hm4
          refine m_meB hc ⟨hsb.1, hsb.2.1⟩ o8 hm4 l0 l2 ?_
          intro w5 hm5
          have hM5 := hm5.2.1.1
          obtain ⟨hF5, hV5⟩ := hm5.2.2
          obtain ⟨b1, b2, b3, b4, b5, b6⟩ := hback _ hF5
          by_cases cf : (meB v T (srtK k) (i + 3)).1 = 0
          · have h370 : w5 M 37 = 0 := by
              have := hm5.1.2
              rw [if_pos cf] at this
              exact this.2.1
            have lt : nn < nn + 1 := by omega
            have e9 : w32 (cnt + 1) = cnt + 1 := w32_e (by omega)
            simp only [wE_I, wE_V, wE_F, wE_A, wE_N, wE_1, wE_2, wE_D, wE_B, wE_If, wE_C, wE_CV, wE_SL, wE_SA, wA_0, wA_1, wC_B, wC_E, wC_And, wC_Or, wC_Not, wS_Skip, wS_Brk, wS_Cnt, wS_RetV, wS_Ret, wS_Seq, wS_Set, wS_Inc, wS_Do, wS_Put, wS_PutC, wS_Arr, wS_ArrC, wS_If, wS_Sw, wS_F0, wS_F1, wM_q, lu_ap, aL_ap, ct_0, ct_1, ct_2, ct_3, ct_4, ct_5, headD_1, List.mem_cons, List.not_mem_nil, or_false, false_or, or_true, true_or, true_and, and_true, false_and, and_false, not_true_eq_false, not_false_eq_true, if_true, if_false, nr_20, nr_24, nr_40, nr_41, nr_44, pt_lt, pt_ge, pt_eq, pt_ne, pt_gt, pt_le, pt_E, pt_N, pt_F, ite_10, ite_11, ne_eq, and_self, or_self, decide_true, decide_false, Bool.not_true, Bool.not_false, Bool.false_eq_true, Nat.reduceEqDiff, Nat.reduceAdd, Int.reduceEq, Int.reduceLT, Int.reduceLE, Int.reduceNeg, Int.reduceAdd, Int.reduceSub, Int.reduceMul, reduceCtorEq, iA, iS, iM, iD, iR, iN, lA, lS, lM, lD, lR, l0, l1, l4, hM5.k, h370, b2, lt, hM5.p2, hM5.a3, hM5.n3, oB, b6, e9]
            clear e9
            have hV := hV5 cf
            refine hm5.put (by omega) (by rw [hM5.a3]; rfl) (fun w' q => ?_)
            obtain ⟨c1, c2, c3, c5, c6, c7⟩ := hback _ q.1
            have hV' := q.2 cf
            refine ⟨fun a k q1 q2 q3 q4 => by rw [vu_ne (fun z => by have := q2 z.1; omega)]; exact c1 a k q1 q2 q3 q4, fun _ => ⟨⟨vu_is, by rw [vu_ne (by omega)]; exact c2, by rw [vu_ne (by omega)]; exact c3, by rw [vu_ne (by omega)]; exact c5, by rw [vu_ne (by omega)]; exact c6⟩, ?_⟩⟩
            rw [vu_ne (by omega), vu_ne (by omega), vu_ne (by omega), vu_ne (by omega), vu_ne (by omega), vu_ne (by omega)]
            exact hV'
          · have hd := hm5.dead cf
            have h37 : ¬ w5 M 37 = 0 := by omega
            simp only [wE_I, wE_V, wE_F, wE_A, wE_N, wE_1, wE_2, wE_D, wE_B, wE_If, wE_C, wE_CV, wE_SL, wE_SA, wA_0, wA_1, wC_B, wC_E, wC_And, wC_Or, wC_Not, wS_Skip, wS_Brk, wS_Cnt, wS_RetV, wS_Ret, wS_Seq, wS_Set, wS_Inc, wS_Do, wS_Put, wS_PutC, wS_Arr, wS_ArrC, wS_If, wS_Sw, wS_F0, wS_F1, wM_q, lu_ap, aL_ap, ct_0, ct_1, ct_2, ct_3, ct_4, ct_5, headD_1, List.mem_cons, List.not_mem_nil, or_false, false_or, or_true, true_or, true_and, and_true, false_and, and_false, not_true_eq_false, not_false_eq_true, if_true, if_false, nr_20, nr_24, nr_40, nr_41, nr_44, pt_lt, pt_ge, pt_eq, pt_ne, pt_gt, pt_le, pt_E, pt_N, pt_F, ite_10, ite_11, ne_eq, and_self, or_self, decide_true, decide_false, Bool.not_true, Bool.not_false, Bool.false_eq_true, Nat.reduceEqDiff, Nat.reduceAdd, Int.reduceEq, Int.reduceLT, Int.reduceLE, Int.reduceNeg, Int.reduceAdd, Int.reduceSub, Int.reduceMul, reduceCtorEq, iA, iS, iM, iD, iR, iN, lA, lS, lM, lD, lR, l0, hM5.k, h37]
            exact hm5.cg (fun q => ⟨(hback _ q.1).1, fun z => absurd z cf⟩)
      · rw [if_pos cb]
        have ho : nwO v T (i + 1) b = (3, i + 1) := by unfold nwO; rw [if_neg (fun z => z ck), if_pos cb]
        rw [ho] at hm2
        have hd := hm2.dead (by simp)
        simp only [wE_I, wE_V, wE_F, wE_A, wE_N, wE_1, wE_2, wE_D, wE_B, wE_If, wE_C, wE_CV, wE_SL, wE_SA, wA_0, wA_1, wC_B, wC_E, wC_And, wC_Or, wC_Not, wS_Skip, wS_Brk, wS_Cnt, wS_RetV, wS_Ret, wS_Seq, wS_Set, wS_Inc, wS_Do, wS_Put, wS_PutC, wS_Arr, wS_ArrC, wS_If, wS_Sw, wS_F0, wS_F1, wM_q, lu_ap, aL_ap, ct_0, ct_1, ct_2, ct_3, ct_4, ct_5, headD_1, List.mem_cons, List.not_mem_nil, or_false, false_or, or_true, true_or, true_and, and_true, false_and, and_false, not_true_eq_false, not_false_eq_true, if_true, if_false, nr_20, nr_24, nr_40, nr_41, nr_44, pt_lt, pt_ge, pt_eq, pt_ne, pt_gt, pt_le, pt_E, pt_N, pt_F, ite_10, ite_11, ne_eq, and_self, or_self, decide_true, decide_false, Bool.not_true, Bool.not_false, Bool.false_eq_true, Nat.reduceEqDiff, Nat.reduceAdd, Int.reduceEq, Int.reduceLT, Int.reduceLE, Int.reduceNeg, Int.reduceAdd, Int.reduceSub, Int.reduceMul, reduceCtorEq, iA, iS, iM, iD, iR, iN, lA, lS, lM, lD, lR, l0, hm2.2.1.1.k, hd]
        exact hm2.cg (fun q => ⟨hmn _ q.1, fun z => absurd z (by simp)⟩)
    · rw [if_pos ck]
      have ho : nwO v T (i + 1) b = (1, i + 1) := by unfold nwO; rw [if_pos ck]
      rw [ho] at hm2
      have hd := hm2.dead (by simp)
      simp only [wE_I, wE_V, wE_F, wE_A, wE_N, wE_1, wE_2, wE_D, wE_B, wE_If, wE_C, wE_CV, wE_SL, wE_SA, wA_0, wA_1, wC_B, wC_E, wC_And, wC_Or, wC_Not, wS_Skip, wS_Brk, wS_Cnt, wS_RetV, wS_Ret, wS_Seq, wS_Set, wS_Inc, wS_Do, wS_Put, wS_PutC, wS_Arr, wS_ArrC, wS_If, wS_Sw, wS_F0, wS_F1, wM_q, lu_ap, aL_ap, ct_0, ct_1, ct_2, ct_3, ct_4, ct_5, headD_1, List.mem_cons, List.not_mem_nil, or_false, false_or, or_true, true_or, true_and, and_true, false_and, and_false, not_true_eq_false, not_false_eq_true, if_true, if_false, nr_20, nr_24, nr_40, nr_41, nr_44, pt_lt, pt_ge, pt_eq, pt_ne, pt_gt, pt_le, pt_E, pt_N, pt_F, ite_10, ite_11, ne_eq, and_self, or_self, decide_true, decide_false, Bool.not_true, Bool.not_false, Bool.false_eq_true, Nat.reduceEqDiff, Nat.reduceAdd, Int.reduceEq, Int.reduceLT, Int.reduceLE, Int.reduceNeg, Int.reduceAdd, Int.reduceSub, Int.reduceMul, reduceCtorEq, iA, iS, iM, iD, iR, iN, lA, lS, lM, lD, lR, l0, hm2.2.1.1.k, hd]
      exact hm2.cg (fun q => ⟨hmn _ q.1, fun z => absurd z (by simp)⟩)
end MS2
