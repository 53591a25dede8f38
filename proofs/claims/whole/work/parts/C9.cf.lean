/-! STORE: a forecast's line, the class's -/
theorem LnC.put {u w v : QV} {T x a k z r : Int} {o : Int × Int} (h : LnC u w T x v o r) (ha : a ≠ x) : LnC u (vu w a k z) T x v o r := by
  unfold LnC at h ⊢
  rw [vu_ne (fun e => ha e.1.symm), vu_ne (fun e => ha e.1.symm), vu_ne (fun e => ha e.1.symm)]
  exact h
def foN (v : QV) (T : Int) (o : Int × Int) : Int × Int := stp (fNu v T 1 9) (stp (fKd v T 271) (stp (fNu v T 0 16) (stp (fNu v T 0 16) (stp (fNu v T 0 16) (stp (fKd v T 267) (stp (fNu v T 2 24) o))))))
def foO (v : QV) (T i b sea : Int) : Int × Int := if ¬ kdT v T (i + 1) = 4 then (1, i + 1) else if b < 0 ∨ 4 ≤ b ∨ 0 < sea then (3, i + 1) else stp (fKd v T 59) (foN v T (stp (fKd v T 270) (0, i + 2)))
def foF (u w : QV) (x p : Int) : Prop := ∀ a k, (a = x → k ≠ 2 ∧ k ≠ 3 ∧ k ≠ 4) → (a = p → k < 6 ∨ 10 < k) → w a k = u a k
theorem foF.put {u w : QV} {x p k z : Int} (h : foF u w x p) (hk : 6 ≤ k ∧ k ≤ 10) : foF u (vu w p k z) x p := fun a j q1 q2 => by
  rw [vu_ne (fun e => by have := q2 e.1; omega)]
  exact h a j q1 q2
section CF2
variable {S : QS} {v w u : QV} {M T n x P : Int} {o : Int × Int}
theorem foF.qx {p : Int} (hp : p ≠ x) (R : QV → Prop) (hR : ∀ w k z, R w → R (vu w x k z)) : Qx x (fun w => foF u w x p ∧ R w) := fun w k z hw hk => ⟨fun a j q1 q2 => by
  rw [vu_ne (fun e => by have := q1 e.1; omega)]; exact hw.1 a j q1 q2, hR _ _ _ hw.2⟩
theorem c_fNumbers {p j : Int} (hp : S.1 p = 3) (hxp : x < p) (h : Mi S u v T x P (fun w => foF u w x p ∧ True) w j) : wM mX5_forecastNumbers [x, p] S w (fun r w' => ((foN v T (0, j)).1 = 0 ∧ r = 1 ∧ (foN v T (0, j)).2 = j + 7 ∧ Mi S u v T x P (fun w => foF u w x p ∧ w p 6 = nmT v T j ∧ w p 7 = nmT v T (j + 2) ∧ w p 8 = nmT v T (j + 3) ∧ w p 9 = nmT v T (j + 4) ∧ w p 10 = nmT v T (j + 6)) w' (j + 7)) ∨ (¬ (foN v T (0, j)).1 = 0 ∧ r = 0 ∧ LnC u w' T x v (foN v T (0, j)) 0 ∧ foF u w' x p)) := by
  have hnx : p ≠ x := by omega
  have hk := h.1.2.1.k
  have wp : ∀ k z : Int, Wc (S.1 p) k = true := fun k _ => by rw [hp]; rfl
  have hQ := fun (R : QV → Prop) (hR : ∀ w k z, R w → R (vu w x k z)) => foF.qx (u := u) hnx R hR
  have pv : ∀ (w : QV) (k z f : Int), vu w x k z p f = w p f := fun w k z f => vu_ne (by omega)
  unfold foN
  simp only [mX5_forecastNumbers, sX5_forecastNumbers, wE_I, wE_V, wE_F, wE_A, wE_N, wE_1, wE_2, wE_D, wE_B, wE_If, wE_C, wE_CV, wE_SL, wE_SA, wA_0, wA_1, wC_B, wC_E, wC_And, wC_Or, wC_Not, wS_Skip, wS_Brk, wS_Cnt, wS_RetV, wS_Ret, wS_Seq, wS_Set, wS_Inc, wS_Do, wS_Put, wS_PutC, wS_Arr, wS_ArrC, wS_If, wS_Sw, wS_F0, wS_F1, wM_q, lu_ap, aL_ap, ct_0, ct_1, ct_2, ct_3, ct_4, ct_5, headD_1, List.mem_cons, List.not_mem_nil, or_false, false_or, or_true, true_or, true_and, and_true, false_and, and_false, not_true_eq_false, not_false_eq_true, if_true, if_false, nr_20, nr_24, nr_40, nr_41, nr_44, pt_lt, pt_ge, pt_eq, pt_ne, pt_gt, pt_le, pt_E, pt_N, pt_F, ite_10, ite_11, ne_eq, and_self, or_self, decide_true, decide_false, Bool.not_true, Bool.not_false, Bool.false_eq_true, Nat.reduceEqDiff, Nat.reduceAdd, Int.reduceEq, Int.reduceLT, Int.reduceLE, Int.reduceNeg, Int.reduceAdd, Int.reduceSub, Int.reduceMul, reduceCtorEq, iA, iS, iM, iD, iR, iN, lA, lS, lM, lD, lR, hp, hk]
  -- season
  refine wM_mono (h.num (lo := 2) (hi := 24) (hQ _ (fun _ _ _ _ => trivial))) ?_
  rintro r w1 e (⟨g1, rfl, h1⟩ | ⟨g1, rfl, hb, hq, hps⟩)
  rotate_left
  · rw [stp_0f g1, stp_ff g1, stp_ff g1, stp_ff g1, stp_ff g1, stp_ff g1, stp_ff g1]
    simp only [vu_is, wE_I, wE_V, wE_F, wE_A, wE_N, wE_1, wE_2, wE_D, wE_B, wE_If, wE_C, wE_CV, wE_SL, wE_SA, wA_0, wA_1, wC_B, wC_E, wC_And, wC_Or, wC_Not, wS_Skip, wS_Brk, wS_Cnt, wS_RetV, wS_Ret, wS_Seq, wS_Set, wS_Inc, wS_Do, wS_Put, wS_PutC, wS_Arr, wS_ArrC, wS_If, wS_Sw, wS_F0, wS_F1, wM_q, lu_ap, aL_ap, ct_0, ct_1, ct_2, ct_3, ct_4, ct_5, headD_1, List.mem_cons, List.not_mem_nil, or_false, false_or, or_true, true_or, true_and, and_true, false_and, and_false, not_true_eq_false, not_false_eq_true, if_true, if_false, nr_20, nr_24, nr_40, nr_41, nr_44, pt_lt, pt_ge, pt_eq, pt_ne, pt_gt, pt_le, pt_E, pt_N, pt_F, ite_10, ite_11, ne_eq, and_self, or_self, decide_true, decide_false, Bool.not_true, Bool.not_false, Bool.false_eq_true, Nat.reduceEqDiff, Nat.reduceAdd, Int.reduceEq, Int.reduceLT, Int.reduceLE, Int.reduceNeg, Int.reduceAdd, Int.reduceSub, Int.reduceMul, reduceCtorEq]
    exact ⟨g1, hb.put hnx, hq.1.put (by decide)⟩
  rw [stp_00 g1]
  have b1 := fNu_0 g1
  have n1 : ¬ nmT v T j = -1 := by omega
  have h2 := h1.put (a := p) (k := 6) (z := nmT v T j) (Q' := fun w => foF u w x p ∧ w p 6 = nmT v T j) hxp (wp 6 0) (fun w q => ⟨q.1.put (by decide), vu_is⟩)
  simp only [vu_is, n1, hk, wE_I, wE_V, wE_F, wE_A, wE_N, wE_1, wE_2, wE_D, wE_B, wE_If, wE_C, wE_CV, wE_SL, wE_SA, wA_0, wA_1, wC_B, wC_E, wC_And, wC_Or, wC_Not, wS_Skip, wS_Brk, wS_Cnt, wS_RetV, wS_Ret, wS_Seq, wS_Set, wS_Inc, wS_Do, wS_Put, wS_PutC, wS_Arr, wS_ArrC, wS_If, wS_Sw, wS_F0, wS_F1, wM_q, lu_ap, aL_ap, ct_0, ct_1, ct_2, ct_3, ct_4, ct_5, headD_1, List.mem_cons, List.not_mem_nil, or_false, false_or, or_true, true_or, true_and, and_true, false_and, and_false, not_true_eq_false, not_false_eq_true, if_true, if_false, nr_20, nr_24, nr_40, nr_41, nr_44, pt_lt, pt_ge, pt_eq, pt_ne, pt_gt, pt_le, pt_E, pt_N, pt_F, ite_10, ite_11, ne_eq, and_self, or_self, decide_true, decide_false, Bool.not_true, Bool.not_false, Bool.false_eq_true, Nat.reduceEqDiff, Nat.reduceAdd, Int.reduceEq, Int.reduceLT, Int.reduceLE, Int.reduceNeg, Int.reduceAdd, Int.reduceSub, Int.reduceMul, reduceCtorEq]
  refine wM_mono (h2.tak (k := 267) (hQ _ (fun w k z q => by rw [pv]; exact q)) (by decide)) ?_
  rintro r w2 e (⟨g2, rfl, h3⟩ | ⟨g2, rfl, hb, hq⟩)
  rotate_left
  · rw [stp_0f g2, stp_ff g2, stp_ff g2, stp_ff g2, stp_ff g2, stp_ff g2]
    simp only [wE_I, wE_V, wE_F, wE_A, wE_N, wE_1, wE_2, wE_D, wE_B, wE_If, wE_C, wE_CV, wE_SL, wE_SA, wA_0, wA_1, wC_B, wC_E, wC_And, wC_Or, wC_Not, wS_Skip, wS_Brk, wS_Cnt, wS_RetV, wS_Ret, wS_Seq, wS_Set, wS_Inc, wS_Do, wS_Put, wS_PutC, wS_Arr, wS_ArrC, wS_If, wS_Sw, wS_F0, wS_F1, wM_q, lu_ap, aL_ap, ct_0, ct_1, ct_2, ct_3, ct_4, ct_5, headD_1, List.mem_cons, List.not_mem_nil, or_false, false_or, or_true, true_or, true_and, and_true, false_and, and_false, not_true_eq_false, not_false_eq_true, if_true, if_false, nr_20, nr_24, nr_40, nr_41, nr_44, pt_lt, pt_ge, pt_eq, pt_ne, pt_gt, pt_le, pt_E, pt_N, pt_F, ite_10, ite_11, ne_eq, and_self, or_self, decide_true, decide_false, Bool.not_true, Bool.not_false, Bool.false_eq_true, Nat.reduceEqDiff, Nat.reduceAdd, Int.reduceEq, Int.reduceLT, Int.reduceLE, Int.reduceNeg, Int.reduceAdd, Int.reduceSub, Int.reduceMul, reduceCtorEq]
    exact ⟨g2, hb, hq.1⟩
  rw [stp_00 g2]
  -- level
  simp only [hp, hk, wE_I, wE_V, wE_F, wE_A, wE_N, wE_1, wE_2, wE_D, wE_B, wE_If, wE_C, wE_CV, wE_SL, wE_SA, wA_0, wA_1, wC_B, wC_E, wC_And, wC_Or, wC_Not, wS_Skip, wS_Brk, wS_Cnt, wS_RetV, wS_Ret, wS_Seq, wS_Set, wS_Inc, wS_Do, wS_Put, wS_PutC, wS_Arr, wS_ArrC, wS_If, wS_Sw, wS_F0, wS_F1, wM_q, lu_ap, aL_ap, ct_0, ct_1, ct_2, ct_3, ct_4, ct_5, headD_1, List.mem_cons, List.not_mem_nil, or_false, false_or, or_true, true_or, true_and, and_true, false_and, and_false, not_true_eq_false, not_false_eq_true, if_true, if_false, nr_20, nr_24, nr_40, nr_41, nr_44, pt_lt, pt_ge, pt_eq, pt_ne, pt_gt, pt_le, pt_E, pt_N, pt_F, ite_10, ite_11, ne_eq, and_self, or_self, decide_true, decide_false, Bool.not_true, Bool.not_false, Bool.false_eq_true, Nat.reduceEqDiff, Nat.reduceAdd, Int.reduceEq, Int.reduceLT, Int.reduceLE, Int.reduceNeg, Int.reduceAdd, Int.reduceSub, Int.reduceMul, reduceCtorEq]
  refine wM_mono (h3.num (lo := 0) (hi := 16) (hQ _ (fun w k z q => by rw [pv]; exact q))) ?_
  rintro r w3 e (⟨g3, rfl, h4⟩ | ⟨g3, rfl, hb, hq, hps⟩)
  rotate_left
  · rw [stp_0f g3, stp_ff g3, stp_ff g3, stp_ff g3, stp_ff g3]
    simp only [vu_is, wE_I, wE_V, wE_F, wE_A, wE_N, wE_1, wE_2, wE_D, wE_B, wE_If, wE_C, wE_CV, wE_SL, wE_SA, wA_0, wA_1, wC_B, wC_E, wC_And, wC_Or, wC_Not, wS_Skip, wS_Brk, wS_Cnt, wS_RetV, wS_Ret, wS_Seq, wS_Set, wS_Inc, wS_Do, wS_Put, wS_PutC, wS_Arr, wS_ArrC, wS_If, wS_Sw, wS_F0, wS_F1, wM_q, lu_ap, aL_ap, ct_0, ct_1, ct_2, ct_3, ct_4, ct_5, headD_1, List.mem_cons, List.not_mem_nil, or_false, false_or, or_true, true_or, true_and, and_true, false_and, and_false, not_true_eq_false, not_false_eq_true, if_true, if_false, nr_20, nr_24, nr_40, nr_41, nr_44, pt_lt, pt_ge, pt_eq, pt_ne, pt_gt, pt_le, pt_E, pt_N, pt_F, ite_10, ite_11, ne_eq, and_self, or_self, decide_true, decide_false, Bool.not_true, Bool.not_false, Bool.false_eq_true, Nat.reduceEqDiff, Nat.reduceAdd, Int.reduceEq, Int.reduceLT, Int.reduceLE, Int.reduceNeg, Int.reduceAdd, Int.reduceSub, Int.reduceMul, reduceCtorEq]
    exact ⟨g3, hb.put hnx, hq.1.put (by decide)⟩
  rw [stp_00 g3]
  have b3 := fNu_0 g3
  have n3 : ¬ nmT v T (j + 1 + 1) = -1 := by omega
  have h5 := h4.put (a := p) (k := 7) (z := nmT v T (j + 1 + 1)) (Q' := fun w => foF u w x p ∧ w p 6 = nmT v T j ∧ w p 7 = nmT v T (j + 1 + 1)) hxp (wp 7 0) (fun w q => ⟨q.1.put (by decide), by rw [vu_ne (by simp)]; exact q.2, vu_is⟩)
  simp only [vu_is, n3, hk, wE_I, wE_V, wE_F, wE_A, wE_N, wE_1, wE_2, wE_D, wE_B, wE_If, wE_C, wE_CV, wE_SL, wE_SA, wA_0, wA_1, wC_B, wC_E, wC_And, wC_Or, wC_Not, wS_Skip, wS_Brk, wS_Cnt, wS_RetV, wS_Ret, wS_Seq, wS_Set, wS_Inc, wS_Do, wS_Put, wS_PutC, wS_Arr, wS_ArrC, wS_If, wS_Sw, wS_F0, wS_F1, wM_q, lu_ap, aL_ap, ct_0, ct_1, ct_2, ct_3, ct_4, ct_5, headD_1, List.mem_cons, List.not_mem_nil, or_false, false_or, or_true, true_or, true_and, and_true, false_and, and_false, not_true_eq_false, not_false_eq_true, if_true, if_false, nr_20, nr_24, nr_40, nr_41, nr_44, pt_lt, pt_ge, pt_eq, pt_ne, pt_gt, pt_le, pt_E, pt_N, pt_F, ite_10, ite_11, ne_eq, and_self, or_self, decide_true, decide_false, Bool.not_true, Bool.not_false, Bool.false_eq_true, Nat.reduceEqDiff, Nat.reduceAdd, Int.reduceEq, Int.reduceLT, Int.reduceLE, Int.reduceNeg, Int.reduceAdd, Int.reduceSub, Int.reduceMul, reduceCtorEq]
  -- trend
  refine wM_mono (h5.num (lo := 0) (hi := 16) (hQ _ (fun w k z q => by rw [pv, pv]; exact q))) ?_
  rintro r w4 e (⟨g4, rfl, h6⟩ | ⟨g4, rfl, hb, hq, hps⟩)
  rotate_left
  · rw [stp_0f g4, stp_ff g4, stp_ff g4, stp_ff g4]
    simp only [vu_is, hp, wE_I, wE_V, wE_F, wE_A, wE_N, wE_1, wE_2, wE_D, wE_B, wE_If, wE_C, wE_CV, wE_SL, wE_SA, wA_0, wA_1, wC_B, wC_E, wC_And, wC_Or, wC_Not, wS_Skip, wS_Brk, wS_Cnt, wS_RetV, wS_Ret, wS_Seq, wS_Set, wS_Inc, wS_Do, wS_Put, wS_PutC, wS_Arr, wS_ArrC, wS_If, wS_Sw, wS_F0, wS_F1, wM_q, lu_ap, aL_ap, ct_0, ct_1, ct_2, ct_3, ct_4, ct_5, headD_1, List.mem_cons, List.not_mem_nil, or_false, false_or, or_true, true_or, true_and, and_true, false_and, and_false, not_true_eq_false, not_false_eq_true, if_true, if_false, nr_20, nr_24, nr_40, nr_41, nr_44, pt_lt, pt_ge, pt_eq, pt_ne, pt_gt, pt_le, pt_E, pt_N, pt_F, ite_10, ite_11, ne_eq, and_self, or_self, decide_true, decide_false, Bool.not_true, Bool.not_false, Bool.false_eq_true, Nat.reduceEqDiff, Nat.reduceAdd, Int.reduceEq, Int.reduceLT, Int.reduceLE, Int.reduceNeg, Int.reduceAdd, Int.reduceSub, Int.reduceMul, reduceCtorEq]
    exact ⟨g4, hb.put hnx, hq.1.put (by decide)⟩
  rw [stp_00 g4]
  have b4 := fNu_0 g4
  have n4 : ¬ nmT v T (j + 1 + 1 + 1) = -1 := by omega
  have h7 := h6.put (a := p) (k := 8) (z := nmT v T (j + 1 + 1 + 1)) (Q' := fun w => foF u w x p ∧ w p 6 = nmT v T j ∧ w p 7 = nmT v T (j + 1 + 1) ∧ w p 8 = nmT v T (j + 1 + 1 + 1)) hxp (wp 8 0) (fun w q => ⟨q.1.put (by decide), by rw [vu_ne (by simp)]; exact q.2.1, by rw [vu_ne (by simp)]; exact q.2.2, vu_is⟩)
  simp only [vu_is, n4, hk, hp, wE_I, wE_V, wE_F, wE_A, wE_N, wE_1, wE_2, wE_D, wE_B, wE_If, wE_C, wE_CV, wE_SL, wE_SA, wA_0, wA_1, wC_B, wC_E, wC_And, wC_Or, wC_Not, wS_Skip, wS_Brk, wS_Cnt, wS_RetV, wS_Ret, wS_Seq, wS_Set, wS_Inc, wS_Do, wS_Put, wS_PutC, wS_Arr, wS_ArrC, wS_If, wS_Sw, wS_F0, wS_F1, wM_q, lu_ap, aL_ap, ct_0, ct_1, ct_2, ct_3, ct_4, ct_5, headD_1, List.mem_cons, List.not_mem_nil, or_false, false_or, or_true, true_or, true_and, and_true, false_and, and_false, not_true_eq_false, not_false_eq_true, if_true, if_false, nr_20, nr_24, nr_40, nr_41, nr_44, pt_lt, pt_ge, pt_eq, pt_ne, pt_gt, pt_le, pt_E, pt_N, pt_F, ite_10, ite_11, ne_eq, and_self, or_self, decide_true, decide_false, Bool.not_true, Bool.not_false, Bool.false_eq_true, Nat.reduceEqDiff, Nat.reduceAdd, Int.reduceEq, Int.reduceLT, Int.reduceLE, Int.reduceNeg, Int.reduceAdd, Int.reduceSub, Int.reduceMul, reduceCtorEq]
  -- swing
  refine wM_mono (h7.num (lo := 0) (hi := 16) (hQ _ (fun w k z q => by rw [pv, pv, pv]; exact q))) ?_
  rintro r w5 e (⟨g5, rfl, h8⟩ | ⟨g5, rfl, hb, hq, hps⟩)
  rotate_left
  · rw [stp_0f g5, stp_ff g5, stp_ff g5]
    simp only [vu_is, hp, wE_I, wE_V, wE_F, wE_A, wE_N, wE_1, wE_2, wE_D, wE_B, wE_If, wE_C, wE_CV, wE_SL, wE_SA, wA_0, wA_1, wC_B, wC_E, wC_And, wC_Or, wC_Not, wS_Skip, wS_Brk, wS_Cnt, wS_RetV, wS_Ret, wS_Seq, wS_Set, wS_Inc, wS_Do, wS_Put, wS_PutC, wS_Arr, wS_ArrC, wS_If, wS_Sw, wS_F0, wS_F1, wM_q, lu_ap, aL_ap, ct_0, ct_1, ct_2, ct_3, ct_4, ct_5, headD_1, List.mem_cons, List.not_mem_nil, or_false, false_or, or_true, true_or, true_and, and_true, false_and, and_false, not_true_eq_false, not_false_eq_true, if_true, if_false, nr_20, nr_24, nr_40, nr_41, nr_44, pt_lt, pt_ge, pt_eq, pt_ne, pt_gt, pt_le, pt_E, pt_N, pt_F, ite_10, ite_11, ne_eq, and_self, or_self, decide_true, decide_false, Bool.not_true, Bool.not_false, Bool.false_eq_true, Nat.reduceEqDiff, Nat.reduceAdd, Int.reduceEq, Int.reduceLT, Int.reduceLE, Int.reduceNeg, Int.reduceAdd, Int.reduceSub, Int.reduceMul, reduceCtorEq]
    exact ⟨g5, hb.put hnx, hq.1.put (by decide)⟩
  rw [stp_00 g5]
  have b5 := fNu_0 g5
  have n5 : ¬ nmT v T (j + 1 + 1 + 1 + 1) = -1 := by omega
  have h9 := h8.put (a := p) (k := 9) (z := nmT v T (j + 1 + 1 + 1 + 1)) (Q' := fun w => foF u w x p ∧ w p 6 = nmT v T j ∧ w p 7 = nmT v T (j + 1 + 1) ∧ w p 8 = nmT v T (j + 1 + 1 + 1) ∧ w p 9 = nmT v T (j + 1 + 1 + 1 + 1)) hxp (wp 9 0) (fun w q => ⟨q.1.put (by decide), by rw [vu_ne (by simp)]; exact q.2.1, by rw [vu_ne (by simp)]; exact q.2.2.1, by rw [vu_ne (by simp)]; exact q.2.2.2, vu_is⟩)
  simp only [vu_is, n5, hk, hp, wE_I, wE_V, wE_F, wE_A, wE_N, wE_1, wE_2, wE_D, wE_B, wE_If, wE_C, wE_CV, wE_SL, wE_SA, wA_0, wA_1, wC_B, wC_E, wC_And, wC_Or, wC_Not, wS_Skip, wS_Brk, wS_Cnt, wS_RetV, wS_Ret, wS_Seq, wS_Set, wS_Inc, wS_Do, wS_Put, wS_PutC, wS_Arr, wS_ArrC, wS_If, wS_Sw, wS_F0, wS_F1, wM_q, lu_ap, aL_ap, ct_0, ct_1, ct_2, ct_3, ct_4, ct_5, headD_1, List.mem_cons, List.not_mem_nil, or_false, false_or, or_true, true_or, true_and, and_true, false_and, and_false, not_true_eq_false, not_false_eq_true, if_true, if_false, nr_20, nr_24, nr_40, nr_41, nr_44, pt_lt, pt_ge, pt_eq, pt_ne, pt_gt, pt_le, pt_E, pt_N, pt_F, ite_10, ite_11, ne_eq, and_self, or_self, decide_true, decide_false, Bool.not_true, Bool.not_false, Bool.false_eq_true, Nat.reduceEqDiff, Nat.reduceAdd, Int.reduceEq, Int.reduceLT, Int.reduceLE, Int.reduceNeg, Int.reduceAdd, Int.reduceSub, Int.reduceMul, reduceCtorEq]
  refine wM_mono (h9.tak (k := 271) (hQ _ (fun w k z q => by rw [pv, pv, pv, pv]; exact q)) (by decide)) ?_
  rintro r w6 e (⟨g6, rfl, ha⟩ | ⟨g6, rfl, hb, hq⟩)
  rotate_left
  · rw [stp_0f g6, stp_ff g6]
    simp only [wE_I, wE_V, wE_F, wE_A, wE_N, wE_1, wE_2, wE_D, wE_B, wE_If, wE_C, wE_CV, wE_SL, wE_SA, wA_0, wA_1, wC_B, wC_E, wC_And, wC_Or, wC_Not, wS_Skip, wS_Brk, wS_Cnt, wS_RetV, wS_Ret, wS_Seq, wS_Set, wS_Inc, wS_Do, wS_Put, wS_PutC, wS_Arr, wS_ArrC, wS_If, wS_Sw, wS_F0, wS_F1, wM_q, lu_ap, aL_ap, ct_0, ct_1, ct_2, ct_3, ct_4, ct_5, headD_1, List.mem_cons, List.not_mem_nil, or_false, false_or, or_true, true_or, true_and, and_true, false_and, and_false, not_true_eq_false, not_false_eq_true, if_true, if_false, nr_20, nr_24, nr_40, nr_41, nr_44, pt_lt, pt_ge, pt_eq, pt_ne, pt_gt, pt_le, pt_E, pt_N, pt_F, ite_10, ite_11, ne_eq, and_self, or_self, decide_true, decide_false, Bool.not_true, Bool.not_false, Bool.false_eq_true, Nat.reduceEqDiff, Nat.reduceAdd, Int.reduceEq, Int.reduceLT, Int.reduceLE, Int.reduceNeg, Int.reduceAdd, Int.reduceSub, Int.reduceMul, reduceCtorEq]
    exact ⟨g6, hb, hq.1⟩
  rw [stp_00 g6]
  -- band
  simp only [hp, hk, wE_I, wE_V, wE_F, wE_A, wE_N, wE_1, wE_2, wE_D, wE_B, wE_If, wE_C, wE_CV, wE_SL, wE_SA, wA_0, wA_1, wC_B, wC_E, wC_And, wC_Or, wC_Not, wS_Skip, wS_Brk, wS_Cnt, wS_RetV, wS_Ret, wS_Seq, wS_Set, wS_Inc, wS_Do, wS_Put, wS_PutC, wS_Arr, wS_ArrC, wS_If, wS_Sw, wS_F0, wS_F1, wM_q, lu_ap, aL_ap, ct_0, ct_1, ct_2, ct_3, ct_4, ct_5, headD_1, List.mem_cons, List.not_mem_nil, or_false, false_or, or_true, true_or, true_and, and_true, false_and, and_false, not_true_eq_false, not_false_eq_true, if_true, if_false, nr_20, nr_24, nr_40, nr_41, nr_44, pt_lt, pt_ge, pt_eq, pt_ne, pt_gt, pt_le, pt_E, pt_N, pt_F, ite_10, ite_11, ne_eq, and_self, or_self, decide_true, decide_false, Bool.not_true, Bool.not_false, Bool.false_eq_true, Nat.reduceEqDiff, Nat.reduceAdd, Int.reduceEq, Int.reduceLT, Int.reduceLE, Int.reduceNeg, Int.reduceAdd, Int.reduceSub, Int.reduceMul, reduceCtorEq]
  refine wM_mono (ha.num (lo := 1) (hi := 9) (hQ _ (fun w k z q => by rw [pv, pv, pv, pv]; exact q))) ?_
  rintro r w7 e (⟨g7, rfl, hb⟩ | ⟨g7, rfl, hb, hq, hps⟩)
  rotate_left
  · rw [stp_0f g7]
    simp only [vu_is, hp, wE_I, wE_V, wE_F, wE_A, wE_N, wE_1, wE_2, wE_D, wE_B, wE_If, wE_C, wE_CV, wE_SL, wE_SA, wA_0, wA_1, wC_B, wC_E, wC_And, wC_Or, wC_Not, wS_Skip, wS_Brk, wS_Cnt, wS_RetV, wS_Ret, wS_Seq, wS_Set, wS_Inc, wS_Do, wS_Put, wS_PutC, wS_Arr, wS_ArrC, wS_If, wS_Sw, wS_F0, wS_F1, wM_q, lu_ap, aL_ap, ct_0, ct_1, ct_2, ct_3, ct_4, ct_5, headD_1, List.mem_cons, List.not_mem_nil, or_false, false_or, or_true, true_or, true_and, and_true, false_and, and_false, not_true_eq_false, not_false_eq_true, if_true, if_false, nr_20, nr_24, nr_40, nr_41, nr_44, pt_lt, pt_ge, pt_eq, pt_ne, pt_gt, pt_le, pt_E, pt_N, pt_F, ite_10, ite_11, ne_eq, and_self, or_self, decide_true, decide_false, Bool.not_true, Bool.not_false, Bool.false_eq_true, Nat.reduceEqDiff, Nat.reduceAdd, Int.reduceEq, Int.reduceLT, Int.reduceLE, Int.reduceNeg, Int.reduceAdd, Int.reduceSub, Int.reduceMul, reduceCtorEq]
    exact ⟨g7, hb.put hnx, hq.1.put (by decide)⟩
  rw [stp_00 g7]
  have b7 := fNu_0 g7
  have n7 : ¬ nmT v T (j + 1 + 1 + 1 + 1 + 1 + 1) = -1 := by omega
  have hc := hb.put (a := p) (k := 10) (z := nmT v T (j + 1 + 1 + 1 + 1 + 1 + 1)) (Q' := fun w => foF u w x p ∧ w p 6 = nmT v T j ∧ w p 7 = nmT v T (j + 1 + 1) ∧ w p 8 = nmT v T (j + 1 + 1 + 1) ∧ w p 9 = nmT v T (j + 1 + 1 + 1 + 1) ∧ w p 10 = nmT v T (j + 1 + 1 + 1 + 1 + 1 + 1)) hxp (wp 10 0) (fun w q => ⟨q.1.put (by decide), by rw [vu_ne (by simp)]; exact q.2.1, by rw [vu_ne (by simp)]; exact q.2.2.1, by rw [vu_ne (by simp)]; exact q.2.2.2.1, by rw [vu_ne (by simp)]; exact q.2.2.2.2, vu_is⟩)
  simp only [vu_is, n7, hk, hp, wE_I, wE_V, wE_F, wE_A, wE_N, wE_1, wE_2, wE_D, wE_B, wE_If, wE_C, wE_CV, wE_SL, wE_SA, wA_0, wA_1, wC_B, wC_E, wC_And, wC_Or, wC_Not, wS_Skip, wS_Brk, wS_Cnt, wS_RetV, wS_Ret, wS_Seq, wS_Set, wS_Inc, wS_Do, wS_Put, wS_PutC, wS_Arr, wS_ArrC, wS_If, wS_Sw, wS_F0, wS_F1, wM_q, lu_ap, aL_ap, ct_0, ct_1, ct_2, ct_3, ct_4, ct_5, headD_1, List.mem_cons, List.not_mem_nil, or_false, false_or, or_true, true_or, true_and, and_true, false_and, and_false, not_true_eq_false, not_false_eq_true, if_true, if_false, nr_20, nr_24, nr_40, nr_41, nr_44, pt_lt, pt_ge, pt_eq, pt_ne, pt_gt, pt_le, pt_E, pt_N, pt_F, ite_10, ite_11, ne_eq, and_self, or_self, decide_true, decide_false, Bool.not_true, Bool.not_false, Bool.false_eq_true, Nat.reduceEqDiff, Nat.reduceAdd, Int.reduceEq, Int.reduceLT, Int.reduceLE, Int.reduceNeg, Int.reduceAdd, Int.reduceSub, Int.reduceMul, reduceCtorEq]
  have a2 : j + 1 + 1 = j + 2 := by omega
  have a3 : j + 1 + 1 + 1 = j + 3 := by omega
  have a4 : j + 1 + 1 + 1 + 1 = j + 4 := by omega
  have a6 : j + 1 + 1 + 1 + 1 + 1 + 1 = j + 6 := by omega
  have a7 : j + 1 + 1 + 1 + 1 + 1 + 1 + 1 = j + 7 := by omega
  rw [a7, a6, a4, a3, a2] at hc
  rw [a7, a6]
  exact ⟨rfl, hc⟩
end CF2
