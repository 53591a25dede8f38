/-! STORE: the class's whole -/
section CST
variable {S : QS} {u v w : QV} {b M P Pn B s : Int} {o : Int × Int}
/-- what a text that is taken leaves -/
def Su (b s P Pn : Int) (u w : QV) : Prop := (w b 10 = 0 ∧ w b 11 = -1 ∧ w (b + 1) 1 = 0) ∧ (w b 2 = Pn ∧ w b 3 = P) ∧ (w b 6 = 0 ∧ w b 7 = 0) ∧ (∀ x, 0 ≤ x → x < 2 → w (b + 886) x = 0) ∧ ((w s 0 = 0 ∧ w s 1 = 0) ∧ (∀ m, 0 ≤ m → m < 4 → BeM w w s Pn m) ∧ ∀ a, 0 ≤ a → a < 4 → BeR w s a) ∧ ∀ a k, (a = b → k ≠ 2 ∧ k ≠ 3 ∧ k ≠ 6 ∧ k ≠ 7 ∧ k ≠ 10 ∧ k ≠ 11) → (a = b + 1 → k ≠ 1) → a ≠ b + 886 → ¬ (s ≤ a ∧ a < s + 56) → w a k = u a k
theorem q_forget (h : S.1 b = 12) : mX11_forgetActs [b] S w = some (0, vu (vu w b 6 0) b 7 0) := by
  apply wM_eq
  simp only [mX11_forgetActs, sX11_forgetActs, wE_I, wE_V, wE_F, wE_A, wE_N, wE_1, wE_2, wE_D, wE_B, wE_If, wE_C, wE_CV, wE_SL, wE_SA, wA_0, wA_1, wC_B, wC_E, wC_And, wC_Or, wC_Not, wS_Skip, wS_Brk, wS_Cnt, wS_RetV, wS_Ret, wS_Seq, wS_Set, wS_Inc, wS_Do, wS_Put, wS_PutC, wS_Arr, wS_ArrC, wS_If, wS_Sw, wS_F0, wS_F1, wM_q, lu_ap, aL_ap, ct_0, ct_1, ct_2, ct_3, ct_4, ct_5, headD_1, List.mem_cons, List.not_mem_nil, or_false, false_or, or_true, true_or, true_and, and_true, false_and, and_false, not_true_eq_false, not_false_eq_true, if_true, if_false, nr_20, nr_24, nr_40, nr_41, nr_44, pt_lt, pt_ge, pt_eq, pt_ne, pt_gt, pt_le, pt_E, pt_N, pt_F, ite_10, ite_11, ne_eq, and_self, or_self, decide_true, decide_false, Bool.not_true, Bool.not_false, Bool.false_eq_true, Nat.reduceEqDiff, Nat.reduceAdd, Int.reduceEq, Int.reduceLT, Int.reduceLE, Int.reduceNeg, Int.reduceAdd, Int.reduceSub, Int.reduceMul, reduceCtorEq, iA, iS, iM, iD, iR, iN, lA, lS, lM, lD, lR, h]
def SuT (b s P Pn : Int) (u w : QV) : Prop := (w b 2 = Pn ∧ w b 3 = P) ∧ (w b 6 = 0 ∧ w b 7 = 0) ∧ (∀ x, 0 ≤ x → x < 2 → w (b + 886) x = 0) ∧ ((w s 0 = 0 ∧ w s 1 = 0) ∧ (∀ m, 0 ≤ m → m < 4 → BeM w w s Pn m) ∧ ∀ a, 0 ≤ a → a < 4 → BeR w s a) ∧ ∀ a k, (a = b → k ≠ 2 ∧ k ≠ 3 ∧ k ≠ 6 ∧ k ≠ 7) → a ≠ b + 886 → ¬ (s ≤ a ∧ a < s + 56) → w a k = u a k
theorem c_storeT {w3 : QV} {L2 : QL} {Q : Nat → Int → QL → QV → Prop} (c3 : LCl S w3 b) (hLP : LPl S w3 Pn) (p3 : P = b + 10 ∨ P = b + 27) (hPn : Pn = 2 * b + 37 - P) (s1 : 0 ≤ w3 b 5) (s2 : w3 b 5 < 13) (s3 : b + (45 + 56 * w3 b 5) = s) (n0 : L2 0 = b) (x2 : w3 b 2 = P) (x3 : w3 b 3 = Pn) (hfin : ∀ L' w7, Kc S w3 w7 → SuT b s P Pn w3 w7 → Q 3 (w3 Pn 1) L' w7) : wS (sSeq (sSet 2 (eF 11 2 (eV 0))) (sSeq (sPut 11 2 (eV 0) (eF 11 3 (eV 0))) (sSeq (sPut 11 3 (eV 0) (eV 2)) (sSeq (sDo (eCallV 8 mX8_begin [(eCallV 11 mX11_now [(eV 0)]), (eF 11 2 (eV 0))])) (sSeq (sDo (eCallV 11 mX11_forgetActs [(eV 0)])) (sSeq (sSeq (sSet 3 (eI 0)) (sWhile cX11_store_1 bX11_store_1 uX11_store_1)) (sRet (eF 6 1 (eF 11 2 (eV 0)))))))))) L2 S w3 Q := by
  refine ws_step (L' := lu L2 2 P) (w := w3) (by simp only [wE_I, wE_V, wE_F, wE_A, wE_N, wE_1, wE_2, wE_D, wE_B, wE_If, wE_C, wE_CV, wE_SL, wE_SA, wA_0, wA_1, wC_B, wC_E, wC_And, wC_Or, wC_Not, wS_Skip, wS_Brk, wS_Cnt, wS_RetV, wS_Ret, wS_Seq, wS_Set, wS_Inc, wS_Do, wS_Put, wS_PutC, wS_Arr, wS_ArrC, wS_If, wS_Sw, wS_F0, wS_F1, wM_q, lu_ap, aL_ap, ct_0, ct_1, ct_2, ct_3, ct_4, ct_5, headD_1, List.mem_cons, List.not_mem_nil, or_false, false_or, or_true, true_or, true_and, and_true, false_and, and_false, not_true_eq_false, not_false_eq_true, if_true, if_false, nr_20, nr_24, nr_40, nr_41, nr_44, pt_lt, pt_ge, pt_eq, pt_ne, pt_gt, pt_le, pt_E, pt_N, pt_F, ite_10, ite_11, ne_eq, and_self, or_self, decide_true, decide_false, Bool.not_true, Bool.not_false, Bool.false_eq_true, Nat.reduceEqDiff, Nat.reduceAdd, Int.reduceEq, Int.reduceLT, Int.reduceLE, Int.reduceNeg, Int.reduceAdd, Int.reduceSub, Int.reduceMul, reduceCtorEq, iA, iS, iM, iD, iR, iN, lA, lS, lM, lD, lR, n0, c3.k, x2]) ?_
  have m0 : lu L2 2 P 0 = b := by simp [lu_ap, n0]
  have m2 : lu L2 2 P 2 = P := by simp [lu_ap]
  generalize lu L2 2 P = L3 at *
  refine ws_step (L' := L3) (w := vu w3 b 2 Pn) (by simp only [wE_I, wE_V, wE_F, wE_A, wE_N, wE_1, wE_2, wE_D, wE_B, wE_If, wE_C, wE_CV, wE_SL, wE_SA, wA_0, wA_1, wC_B, wC_E, wC_And, wC_Or, wC_Not, wS_Skip, wS_Brk, wS_Cnt, wS_RetV, wS_Ret, wS_Seq, wS_Set, wS_Inc, wS_Do, wS_Put, wS_PutC, wS_Arr, wS_ArrC, wS_If, wS_Sw, wS_F0, wS_F1, wM_q, lu_ap, aL_ap, ct_0, ct_1, ct_2, ct_3, ct_4, ct_5, headD_1, List.mem_cons, List.not_mem_nil, or_false, false_or, or_true, true_or, true_and, and_true, false_and, and_false, not_true_eq_false, not_false_eq_true, if_true, if_false, nr_20, nr_24, nr_40, nr_41, nr_44, pt_lt, pt_ge, pt_eq, pt_ne, pt_gt, pt_le, pt_E, pt_N, pt_F, ite_10, ite_11, ne_eq, and_self, or_self, decide_true, decide_false, Bool.not_true, Bool.not_false, Bool.false_eq_true, Nat.reduceEqDiff, Nat.reduceAdd, Int.reduceEq, Int.reduceLT, Int.reduceLE, Int.reduceNeg, Int.reduceAdd, Int.reduceSub, Int.reduceMul, reduceCtorEq, iA, iS, iM, iD, iR, iN, lA, lS, lM, lD, lR, m0, c3.k, x3]) ?_
  refine ws_step (L' := L3) (w := vu (vu w3 b 2 Pn) b 3 P) (by simp only [wE_I, wE_V, wE_F, wE_A, wE_N, wE_1, wE_2, wE_D, wE_B, wE_If, wE_C, wE_CV, wE_SL, wE_SA, wA_0, wA_1, wC_B, wC_E, wC_And, wC_Or, wC_Not, wS_Skip, wS_Brk, wS_Cnt, wS_RetV, wS_Ret, wS_Seq, wS_Set, wS_Inc, wS_Do, wS_Put, wS_PutC, wS_Arr, wS_ArrC, wS_If, wS_Sw, wS_F0, wS_F1, wM_q, lu_ap, aL_ap, ct_0, ct_1, ct_2, ct_3, ct_4, ct_5, headD_1, List.mem_cons, List.not_mem_nil, or_false, false_or, or_true, true_or, true_and, and_true, false_and, and_false, not_true_eq_false, not_false_eq_true, if_true, if_false, nr_20, nr_24, nr_40, nr_41, nr_44, pt_lt, pt_ge, pt_eq, pt_ne, pt_gt, pt_le, pt_E, pt_N, pt_F, ite_10, ite_11, ne_eq, and_self, or_self, decide_true, decide_false, Bool.not_true, Bool.not_false, Bool.false_eq_true, Nat.reduceEqDiff, Nat.reduceAdd, Int.reduceEq, Int.reduceLT, Int.reduceLE, Int.reduceNeg, Int.reduceAdd, Int.reduceSub, Int.reduceMul, reduceCtorEq, iA, iS, iM, iD, iR, iN, lA, lS, lM, lD, lR, m0, m2, c3.k]) ?_
  have k4 : Kc S w3 (vu (vu w3 b 2 Pn) b 3 P) := (Kc.rf.vu (by rw [c3.k]; rfl)).vu (by rw [c3.k]; rfl)
  have j0 : (vu (vu w3 b 2 Pn) b 3 P) b 2 = Pn ∧ (vu (vu w3 b 2 Pn) b 3 P) b 3 = P := ⟨by rw [vu_ne (by simp), vu_is], vu_is⟩
  have j1 : ∀ a k, (a = b → k ≠ 2 ∧ k ≠ 3) → (vu (vu w3 b 2 Pn) b 3 P) a k = w3 a k := fun a k q1 => by rw [vu_ne (fun e => (q1 e.1).2 e.2), vu_ne (fun e => (q1 e.1).1 e.2)]
  generalize vu (vu w3 b 2 Pn) b 3 P = w4 at *
  have c4 := c3.keep k4.p
  have y5 : w4 b 5 = w3 b 5 := by rw [j1 _ _ (by simp)]
  have hst := c4.s _ s1 s2
  rw [s3] at hst
  have hnow : mX11_now [b] S w4 = some (s, w4) := by
    have := c4.es _ s1 s2
    have o1 : 0 ≤ w3 b 5 ∧ w3 b 5 < 13 := ⟨s1, s2⟩
    rw [s3] at this
    apply wM_eq
    simp only [mX11_now, sX11_now, wE_I, wE_V, wE_F, wE_A, wE_N, wE_1, wE_2, wE_D, wE_B, wE_If, wE_C, wE_CV, wE_SL, wE_SA, wA_0, wA_1, wC_B, wC_E, wC_And, wC_Or, wC_Not, wS_Skip, wS_Brk, wS_Cnt, wS_RetV, wS_Ret, wS_Seq, wS_Set, wS_Inc, wS_Do, wS_Put, wS_PutC, wS_Arr, wS_ArrC, wS_If, wS_Sw, wS_F0, wS_F1, wM_q, lu_ap, aL_ap, ct_0, ct_1, ct_2, ct_3, ct_4, ct_5, headD_1, List.mem_cons, List.not_mem_nil, or_false, false_or, or_true, true_or, true_and, and_true, false_and, and_false, not_true_eq_false, not_false_eq_true, if_true, if_false, nr_20, nr_24, nr_40, nr_41, nr_44, pt_lt, pt_ge, pt_eq, pt_ne, pt_gt, pt_le, pt_E, pt_N, pt_F, ite_10, ite_11, ne_eq, and_self, or_self, decide_true, decide_false, Bool.not_true, Bool.not_false, Bool.false_eq_true, Nat.reduceEqDiff, Nat.reduceAdd, Int.reduceEq, Int.reduceLT, Int.reduceLE, Int.reduceNeg, Int.reduceAdd, Int.reduceSub, Int.reduceMul, reduceCtorEq, iA, iS, iM, iD, iR, iN, lA, lS, lM, lD, lR, c4.k, c4.p4, c4.a44, c4.n44, y5, o1, this]
  have hLP4 : LPl S w4 Pn := hLP.keep k4.p
  rw [wS_Seq]
  refine wS_mono (Q' := fun k _ L' w => k = 0 ∧ L' = L3 ∧ Kc S w4 w ∧ ((w s 0 = 0 ∧ w s 1 = 0) ∧ (∀ m, 0 ≤ m → m < 4 → BeM w4 w s Pn m) ∧ (∀ a, 0 ≤ a → a < 4 → BeR w s a) ∧ ∀ a k, ¬ (s ≤ a ∧ a < s + 56) → w a k = w4 a k)) ?_ ?_
  · simp only [wE_I, wE_V, wE_F, wE_A, wE_N, wE_1, wE_2, wE_D, wE_B, wE_If, wE_C, wE_CV, wE_SL, wE_SA, wA_0, wA_1, wC_B, wC_E, wC_And, wC_Or, wC_Not, wS_Skip, wS_Brk, wS_Cnt, wS_RetV, wS_Ret, wS_Seq, wS_Set, wS_Inc, wS_Do, wS_Put, wS_PutC, wS_Arr, wS_ArrC, wS_If, wS_Sw, wS_F0, wS_F1, wM_q, lu_ap, aL_ap, ct_0, ct_1, ct_2, ct_3, ct_4, ct_5, headD_1, List.mem_cons, List.not_mem_nil, or_false, false_or, or_true, true_or, true_and, and_true, false_and, and_false, not_true_eq_false, not_false_eq_true, if_true, if_false, nr_20, nr_24, nr_40, nr_41, nr_44, pt_lt, pt_ge, pt_eq, pt_ne, pt_gt, pt_le, pt_E, pt_N, pt_F, ite_10, ite_11, ne_eq, and_self, or_self, decide_true, decide_false, Bool.not_true, Bool.not_false, Bool.false_eq_true, Nat.reduceEqDiff, Nat.reduceAdd, Int.reduceEq, Int.reduceLT, Int.reduceLE, Int.reduceNeg, Int.reduceAdd, Int.reduceSub, Int.reduceMul, reduceCtorEq, iA, iS, iM, iD, iR, iN, lA, lS, lM, lD, lR, m0, c4.k, wM_of hnow, hst.k, j0, hLP4.k]
    refine wM_mono (c_begin8 hst hLP4 (by omega)) ?_
    rintro zz w e q
    exact ⟨Kc.of kX8_begin e, q⟩
  rintro k zz L4 w5 ⟨rfl, rfl, k5, ⟨a0, a1, a2, a3⟩⟩
  rw [if_pos rfl]
  have c5 := c4.keep k5.p
  have hfo := q_forget (w := w5) c5.k
  refine ws_step (L' := L4) (w := vu (vu w5 b 6 0) b 7 0) (by simp only [wE_I, wE_V, wE_F, wE_A, wE_N, wE_1, wE_2, wE_D, wE_B, wE_If, wE_C, wE_CV, wE_SL, wE_SA, wA_0, wA_1, wC_B, wC_E, wC_And, wC_Or, wC_Not, wS_Skip, wS_Brk, wS_Cnt, wS_RetV, wS_Ret, wS_Seq, wS_Set, wS_Inc, wS_Do, wS_Put, wS_PutC, wS_Arr, wS_ArrC, wS_If, wS_Sw, wS_F0, wS_F1, wM_q, lu_ap, aL_ap, ct_0, ct_1, ct_2, ct_3, ct_4, ct_5, headD_1, List.mem_cons, List.not_mem_nil, or_false, false_or, or_true, true_or, true_and, and_true, false_and, and_false, not_true_eq_false, not_false_eq_true, if_true, if_false, nr_20, nr_24, nr_40, nr_41, nr_44, pt_lt, pt_ge, pt_eq, pt_ne, pt_gt, pt_le, pt_E, pt_N, pt_F, ite_10, ite_11, ne_eq, and_self, or_self, decide_true, decide_false, Bool.not_true, Bool.not_false, Bool.false_eq_true, Nat.reduceEqDiff, Nat.reduceAdd, Int.reduceEq, Int.reduceLT, Int.reduceLE, Int.reduceNeg, Int.reduceAdd, Int.reduceSub, Int.reduceMul, reduceCtorEq, iA, iS, iM, iD, iR, iN, lA, lS, lM, lD, lR, m0, c5.k, wM_of hfo]) ?_
  have k6 := Kc.of kX11_forgetActs hfo
  have i0 : (vu (vu w5 b 6 0) b 7 0) b 6 = 0 ∧ (vu (vu w5 b 6 0) b 7 0) b 7 = 0 := ⟨by rw [vu_ne (by simp), vu_is], vu_is⟩
  have i1 : ∀ a k, (a = b → k ≠ 6 ∧ k ≠ 7) → (vu (vu w5 b 6 0) b 7 0) a k = w5 a k := fun a k q1 => by rw [vu_ne (fun e => (q1 e.1).2 e.2), vu_ne (fun e => (q1 e.1).1 e.2)]
  clear hfo
  generalize vu (vu w5 b 6 0) b 7 0 = w6 at *
  have c6 := c5.keep k6.p
  rw [wS_Seq]
  refine wS_mono (Q' := fun k _ L' w => k = 0 ∧ L' 0 = b ∧ Kc S w6 w ∧ (∀ x, 0 ≤ x → x < 2 → w (b + 886) x = 0) ∧ ∀ a k, a ≠ b + 886 → w a k = w6 a k) ?_ ?_
  · refine ws_step (L' := lu L4 3 0) (w := w6) (by simp only [wE_I, wE_V, wE_F, wE_A, wE_N, wE_1, wE_2, wE_D, wE_B, wE_If, wE_C, wE_CV, wE_SL, wE_SA, wA_0, wA_1, wC_B, wC_E, wC_And, wC_Or, wC_Not, wS_Skip, wS_Brk, wS_Cnt, wS_RetV, wS_Ret, wS_Seq, wS_Set, wS_Inc, wS_Do, wS_Put, wS_PutC, wS_Arr, wS_ArrC, wS_If, wS_Sw, wS_F0, wS_F1, wM_q, lu_ap, aL_ap, ct_0, ct_1, ct_2, ct_3, ct_4, ct_5, headD_1, List.mem_cons, List.not_mem_nil, or_false, false_or, or_true, true_or, true_and, and_true, false_and, and_false, not_true_eq_false, not_false_eq_true, if_true, if_false, nr_20, nr_24, nr_40, nr_41, nr_44, pt_lt, pt_ge, pt_eq, pt_ne, pt_gt, pt_le, pt_E, pt_N, pt_F, ite_10, ite_11, ne_eq, and_self, or_self, decide_true, decide_false, Bool.not_true, Bool.not_false, Bool.false_eq_true, Nat.reduceEqDiff, Nat.reduceAdd, Int.reduceEq, Int.reduceLT, Int.reduceLE, Int.reduceNeg, Int.reduceAdd, Int.reduceSub, Int.reduceMul, reduceCtorEq, iA, iS, iM, iD, iR, iN, lA, lS, lM, lD, lR]) ?_
    have q0 : lu L4 3 0 0 = b := by simp [lu_ap, m0]
    have q3 : lu L4 3 0 3 = 0 := by simp [lu_ap]
    generalize lu L4 3 0 = L5 at *
    refine wS_For 2 (fun j L w => (L 0 = b ∧ L 3 = j) ∧ Kc S w6 w ∧ (∀ x, 0 ≤ x → x < (j : Int) → w (b + 886) x = 0) ∧ ∀ a k, a ≠ b + 886 → w a k = w6 a k) (by decide) ?_ ?_ ?_
    · exact ⟨⟨q0, q3⟩, Kc.rf, fun i i0 i1 => by omega, fun _ _ _ => rfl⟩
    · rintro j L w hj ⟨⟨d0, d3⟩, d4, d5, d6⟩
      have hw := c6.keep d4.p
      have lt : (j : Int) < 2 := by omega
      have o1 : 0 ≤ (j : Int) ∧ (j : Int) < 2 := by omega
      have ew : w32 ((j : Int) + 1) = ((j + 1 : Nat) : Int) := by rw [w32_e (by omega)]; omega
      have hk : Kc S w6 (vu w (b + 886) (j : Int) 0) := d4.vu (by rw [hw.a886]; rfl)
      simp only [cX11_store_1, bX11_store_1, uX11_store_1, wE_I, wE_V, wE_F, wE_A, wE_N, wE_1, wE_2, wE_D, wE_B, wE_If, wE_C, wE_CV, wE_SL, wE_SA, wA_0, wA_1, wC_B, wC_E, wC_And, wC_Or, wC_Not, wS_Skip, wS_Brk, wS_Cnt, wS_RetV, wS_Ret, wS_Seq, wS_Set, wS_Inc, wS_Do, wS_Put, wS_PutC, wS_Arr, wS_ArrC, wS_If, wS_Sw, wS_F0, wS_F1, wM_q, lu_ap, aL_ap, ct_0, ct_1, ct_2, ct_3, ct_4, ct_5, headD_1, List.mem_cons, List.not_mem_nil, or_false, false_or, or_true, true_or, true_and, and_true, false_and, and_false, not_true_eq_false, not_false_eq_true, if_true, if_false, nr_20, nr_24, nr_40, nr_41, nr_44, pt_lt, pt_ge, pt_eq, pt_ne, pt_gt, pt_le, pt_E, pt_N, pt_F, ite_10, ite_11, ne_eq, and_self, or_self, decide_true, decide_false, Bool.not_true, Bool.not_false, Bool.false_eq_true, Nat.reduceEqDiff, Nat.reduceAdd, Int.reduceEq, Int.reduceLT, Int.reduceLE, Int.reduceNeg, Int.reduceAdd, Int.reduceSub, Int.reduceMul, reduceCtorEq, iA, iS, iM, iD, iR, iN, lA, lS, lM, lD, lR, d0, d3, lt, hw.k, hw.p9, hw.a886, hw.n886, o1, ew]
      clear ew
      refine ⟨hk, fun k k0 k1 => ?_, fun a k q => by rw [vu_ne (by omega)]; exact d6 a k q⟩
      by_cases e : k = (j : Int)
      · rw [e]; exact vu_is
      · rw [vu_ne (by omega)]; exact d5 k k0 (by omega)
    · rintro L w ⟨⟨d0, d3⟩, d4, d5, d6⟩
      have nlt : ¬ (((2 : Nat)) : Int) < 2 := by decide
      simp only [cX11_store_1, wE_I, wE_V, wE_F, wE_A, wE_N, wE_1, wE_2, wE_D, wE_B, wE_If, wE_C, wE_CV, wE_SL, wE_SA, wA_0, wA_1, wC_B, wC_E, wC_And, wC_Or, wC_Not, wS_Skip, wS_Brk, wS_Cnt, wS_RetV, wS_Ret, wS_Seq, wS_Set, wS_Inc, wS_Do, wS_Put, wS_PutC, wS_Arr, wS_ArrC, wS_If, wS_Sw, wS_F0, wS_F1, wM_q, lu_ap, aL_ap, ct_0, ct_1, ct_2, ct_3, ct_4, ct_5, headD_1, List.mem_cons, List.not_mem_nil, or_false, false_or, or_true, true_or, true_and, and_true, false_and, and_false, not_true_eq_false, not_false_eq_true, if_true, if_false, nr_20, nr_24, nr_40, nr_41, nr_44, pt_lt, pt_ge, pt_eq, pt_ne, pt_gt, pt_le, pt_E, pt_N, pt_F, ite_10, ite_11, ne_eq, and_self, or_self, decide_true, decide_false, Bool.not_true, Bool.not_false, Bool.false_eq_true, Nat.reduceEqDiff, Nat.reduceAdd, Int.reduceEq, Int.reduceLT, Int.reduceLE, Int.reduceNeg, Int.reduceAdd, Int.reduceSub, Int.reduceMul, reduceCtorEq, iA, iS, iM, iD, iR, iN, lA, lS, lM, lD, lR, d0, d3, nlt]
      exact ⟨d4, fun k k0 k1 => d5 k k0 (by omega), d6⟩
  rintro k zz L5 w7 ⟨rfl, q0, k7, d5, d6⟩
  have c7 := c6.keep k7.p
  have hLP7 : LPl S w7 Pn := hLP4.keep ((k5.p.tr k6.p).tr k7.p)
  have r2 : w7 b 2 = Pn := by rw [d6 _ _ (by omega), i1 _ _ (by simp), a3 _ _ (by omega)]; exact j0.1
  have rr : w7 Pn 1 = w3 Pn 1 := by rw [d6 _ _ (by omega), i1 _ _ (by omega), a3 _ _ (by omega), j1 _ _ (by omega)]
  simp only [wE_I, wE_V, wE_F, wE_A, wE_N, wE_1, wE_2, wE_D, wE_B, wE_If, wE_C, wE_CV, wE_SL, wE_SA, wA_0, wA_1, wC_B, wC_E, wC_And, wC_Or, wC_Not, wS_Skip, wS_Brk, wS_Cnt, wS_RetV, wS_Ret, wS_Seq, wS_Set, wS_Inc, wS_Do, wS_Put, wS_PutC, wS_Arr, wS_ArrC, wS_If, wS_Sw, wS_F0, wS_F1, wM_q, lu_ap, aL_ap, ct_0, ct_1, ct_2, ct_3, ct_4, ct_5, headD_1, List.mem_cons, List.not_mem_nil, or_false, false_or, or_true, true_or, true_and, and_true, false_and, and_false, not_true_eq_false, not_false_eq_true, if_true, if_false, nr_20, nr_24, nr_40, nr_41, nr_44, pt_lt, pt_ge, pt_eq, pt_ne, pt_gt, pt_le, pt_E, pt_N, pt_F, ite_10, ite_11, ne_eq, and_self, or_self, decide_true, decide_false, Bool.not_true, Bool.not_false, Bool.false_eq_true, Nat.reduceEqDiff, Nat.reduceAdd, Int.reduceEq, Int.reduceLT, Int.reduceLE, Int.reduceNeg, Int.reduceAdd, Int.reduceSub, Int.reduceMul, reduceCtorEq, iA, iS, iM, iD, iR, iN, lA, lS, lM, lD, lR, if_pos, q0, c7.k, r2, hLP7.k, rr]
  refine hfin _ _ (((k4.tr k5).tr k6).tr k7) ⟨⟨r2, ?_⟩, ⟨?_, ?_⟩, d5, ⟨⟨?_, ?_⟩, fun m m0 m1 => ?_, fun a z0 z1 m m0 m1 => ?_⟩, fun a k q1 q3 q4 => ?_⟩
  · rw [d6 _ _ (by omega), i1 _ _ (by simp), a3 _ _ (by omega)]; exact j0.2
  · rw [d6 _ _ (by omega)]; exact i0.1
  · rw [d6 _ _ (by omega)]; exact i0.2
  · rw [d6 _ _ (by omega), i1 _ _ (by omega)]; exact a0.1
  · rw [d6 _ _ (by omega), i1 _ _ (by omega)]; exact a0.2
  · exact (a1 m m0 m1).cg (fun a k y0 y1 => by rw [d6 _ _ (by omega), i1 _ _ (by omega)]) (fun k => by rw [d6 _ _ (by omega), i1 _ _ (by omega), a3 _ _ (by omega)])
  · have := a2 a z0 z1 m m0 m1
    rw [d6 _ _ (by omega), i1 _ _ (by omega), d6 _ _ (by omega), i1 _ _ (by omega), d6 _ _ (by omega), i1 _ _ (by omega)]
    exact this
  · rw [d6 _ _ q3, i1 _ _ (fun e => ⟨(q1 e).2.2.1, (q1 e).2.2.2⟩), a3 _ _ q4, j1 _ _ (fun e => ⟨(q1 e).1, (q1 e).2.1⟩)]
theorem c_store (h : RR S v b M P B s) (hPn : Pn = 2 * b + 37 - P) : wM mX11_store [b] S v (fun r w => ∃ v1 wp o, (TK v1 (b + 1) ∧ v1 (b + 1) 1 = v (b + 1) 1 ∧ ∀ a k, a ≠ b + 1 + 2 → a ≠ b + 1 + 3 → a ≠ b + 1 + 4 → (a = b + 1 → k ≠ 5) → v1 a k = v a k) ∧ (Kc S v v1 ∧ Kc S v1 wp ∧ Kc S wp w) ∧ Pa S v1 (b + 1) (b + 6) Pn wp o ∧ FrP (b + 6) Pn v1 wp ∧ ((o.1 = 0 ∧ r = wp Pn 1 ∧ Su b s P Pn wp w) ∨ (0 < o.1 ∧ r = -1 ∧ w = vu (vu (vu wp b 10 o.1) b 11 (stT v1 (b + 1) o.2)) (b + 1) 1 0))) := by
  obtain ⟨⟨h1, h2, h3⟩, ⟨p1, p2, p3⟩, ⟨b1, b2⟩, ⟨s1, s2, s3⟩, r, t, ⟨u1, u2, u3⟩, un, re, bx, tp, fa⟩ := h
  rw [← hPn] at p2
  have hT := h1.t
  have hn : 0 ≤ v (b + 1) 1 ∧ v (b + 1) 1 ≤ 1000 := by rw [tp.1]; exact ⟨tp.2.1, tp.2.2.1⟩
  simp only [mX11_store, sX11_store, wM_q]
  generalize hL : aL 0 [2] [b] = L
  have l0 : L 0 = b := by rw [← hL]; simp [aL_ap, ct_0, ct_1, ct_2]
  clear hL
  rw [wS_Seq]
  refine wS_mono (Q' := fun k _ L' w => k = 0 ∧ L' = L ∧ (TK w (b + 1) ∧ w (b + 1) 1 = v (b + 1) 1 ∧ ∀ a k, a ≠ b + 1 + 2 → a ≠ b + 1 + 3 → a ≠ b + 1 + 4 → (a = b + 1 → k ≠ 5) → w a k = v a k) ∧ Kc S v w) ?_ ?_
  · simp only [wE_I, wE_V, wE_F, wE_A, wE_N, wE_1, wE_2, wE_D, wE_B, wE_If, wE_C, wE_CV, wE_SL, wE_SA, wA_0, wA_1, wC_B, wC_E, wC_And, wC_Or, wC_Not, wS_Skip, wS_Brk, wS_Cnt, wS_RetV, wS_Ret, wS_Seq, wS_Set, wS_Inc, wS_Do, wS_Put, wS_PutC, wS_Arr, wS_ArrC, wS_If, wS_Sw, wS_F0, wS_F1, wM_q, lu_ap, aL_ap, ct_0, ct_1, ct_2, ct_3, ct_4, ct_5, headD_1, List.mem_cons, List.not_mem_nil, or_false, false_or, or_true, true_or, true_and, and_true, false_and, and_false, not_true_eq_false, not_false_eq_true, if_true, if_false, nr_20, nr_24, nr_40, nr_41, nr_44, pt_lt, pt_ge, pt_eq, pt_ne, pt_gt, pt_le, pt_E, pt_N, pt_F, ite_10, ite_11, ne_eq, and_self, or_self, decide_true, decide_false, Bool.not_true, Bool.not_false, Bool.false_eq_true, Nat.reduceEqDiff, Nat.reduceAdd, Int.reduceEq, Int.reduceLT, Int.reduceLE, Int.reduceNeg, Int.reduceAdd, Int.reduceSub, Int.reduceMul, reduceCtorEq, iA, iS, iM, iD, iR, iN, lA, lS, lM, lD, lR, l0, h1.k, h1.p0, hT.k]
    refine wM_mono (c_scan hT hn) ?_
    rintro z w e q
    exact ⟨q, Kc.of kX10_scan e⟩
  rintro k z L1 v1 ⟨rfl, rfl, hv1, k1⟩
  rw [if_pos rfl]
  obtain ⟨t1, t2, t3⟩ := id hv1
  have c1 := h1.keep k1.p
  have f3 : v1 b 3 = Pn := by rw [t3 _ _ (by omega) (by omega) (by omega) (by omega)]; exact p2
  have hLP : LPl S v1 Pn := by
    rcases p3 with e | e
    · have : Pn = b + 27 := by omega
      rw [this]; exact c1.P2
    · have : Pn = b + 10 := by omega
      rw [this]; exact c1.P1
  have hby : ∀ k, 0 ≤ k → k < v1 (b + 1) 1 → 0 ≤ v1 (b + 1 + 1) k ∧ v1 (b + 1 + 1) k ≤ 255 := fun k k0 k1 => by
    rw [t2, tp.1] at k1
    have := tp.2.2.2 k k0 k1
    rw [t3 _ _ (by omega) (by omega) (by omega) (by omega), show b + 1 + 1 = b + 2 by omega]
    omega
  have hpa := c_parse c1.t c1.x hLP t1 (by rw [t2]; exact hn) hby (show b + 1 + 5 = b + 6 by omega) (by omega)
  rw [wS_Seq]
  refine wS_mono (Q' := fun k _ L' w => k = 0 ∧ ∃ o r, L' = lu L1 1 r ∧ Pa S v1 (b + 1) (b + 6) Pn w o ∧ (Kc S v1 w ∧ FrP (b + 6) Pn v1 w) ∧ LE v1 (b + 1) (b + 6) w o r) ?_ ?_
  · simp only [wE_I, wE_V, wE_F, wE_A, wE_N, wE_1, wE_2, wE_D, wE_B, wE_If, wE_C, wE_CV, wE_SL, wE_SA, wA_0, wA_1, wC_B, wC_E, wC_And, wC_Or, wC_Not, wS_Skip, wS_Brk, wS_Cnt, wS_RetV, wS_Ret, wS_Seq, wS_Set, wS_Inc, wS_Do, wS_Put, wS_PutC, wS_Arr, wS_ArrC, wS_If, wS_Sw, wS_F0, wS_F1, wM_q, lu_ap, aL_ap, ct_0, ct_1, ct_2, ct_3, ct_4, ct_5, headD_1, List.mem_cons, List.not_mem_nil, or_false, false_or, or_true, true_or, true_and, and_true, false_and, and_false, not_true_eq_false, not_false_eq_true, if_true, if_false, nr_20, nr_24, nr_40, nr_41, nr_44, pt_lt, pt_ge, pt_eq, pt_ne, pt_gt, pt_le, pt_E, pt_N, pt_F, ite_10, ite_11, ne_eq, and_self, or_self, decide_true, decide_false, Bool.not_true, Bool.not_false, Bool.false_eq_true, Nat.reduceEqDiff, Nat.reduceAdd, Int.reduceEq, Int.reduceLT, Int.reduceLE, Int.reduceNeg, Int.reduceAdd, Int.reduceSub, Int.reduceMul, reduceCtorEq, iA, iS, iM, iD, iR, iN, lA, lS, lM, lD, lR, l0, c1.k, c1.p0, c1.p1, f3, c1.x.k]
    refine wM_mono hpa ?_
    rintro z w e ⟨o, q⟩
    exact ⟨o, z, rfl, q⟩
  rintro k z L2 wp ⟨rfl, o, rg, rfl, hPa, ⟨k2, fp⟩, hLE⟩
  rw [if_pos rfl]
  have n0 : lu L1 1 rg 0 = b := by simp [lu_ap, l0]
  have n1 : lu L1 1 rg 1 = rg := by simp [lu_ap]
  generalize lu L1 1 rg = L2 at *
  have c2 := c1.keep k2.p
  have ep : ∀ a k, a < b + 6 ∨ b + 44 ≤ a → wp a k = v1 a k := fun a k q => fp a k (by omega) (by omega)
  have ev : ∀ a k, a ≤ b ∨ b + 44 ≤ a → wp a k = v a k := fun a k q => by rw [ep a k (by omega)]; exact t3 _ _ (by omega) (by omega) (by omega) (by omega)
  -- the faults, the tape
  generalize hF3 : wp (b + 6) 3 = F3 at *
  generalize hF4 : wp (b + 6) 4 = F4 at *
  refine ws_step (L' := L2) (w := vu wp b 10 F3) (by simp only [wE_I, wE_V, wE_F, wE_A, wE_N, wE_1, wE_2, wE_D, wE_B, wE_If, wE_C, wE_CV, wE_SL, wE_SA, wA_0, wA_1, wC_B, wC_E, wC_And, wC_Or, wC_Not, wS_Skip, wS_Brk, wS_Cnt, wS_RetV, wS_Ret, wS_Seq, wS_Set, wS_Inc, wS_Do, wS_Put, wS_PutC, wS_Arr, wS_ArrC, wS_If, wS_Sw, wS_F0, wS_F1, wM_q, lu_ap, aL_ap, ct_0, ct_1, ct_2, ct_3, ct_4, ct_5, headD_1, List.mem_cons, List.not_mem_nil, or_false, false_or, or_true, true_or, true_and, and_true, false_and, and_false, not_true_eq_false, not_false_eq_true, if_true, if_false, nr_20, nr_24, nr_40, nr_41, nr_44, pt_lt, pt_ge, pt_eq, pt_ne, pt_gt, pt_le, pt_E, pt_N, pt_F, ite_10, ite_11, ne_eq, and_self, or_self, decide_true, decide_false, Bool.not_true, Bool.not_false, Bool.false_eq_true, Nat.reduceEqDiff, Nat.reduceAdd, Int.reduceEq, Int.reduceLT, Int.reduceLE, Int.reduceNeg, Int.reduceAdd, Int.reduceSub, Int.reduceMul, reduceCtorEq, iA, iS, iM, iD, iR, iN, lA, lS, lM, lD, lR, n0, c2.k, c2.p1, c2.x.k, hF3]) ?_
  have e1 : vu wp b 10 F3 b 1 = b + 6 := by rw [vu_ne (by simp)]; exact c2.p1
  have e4 : vu wp b 10 F3 (b + 6) 4 = F4 := by rw [vu_ne (by omega)]; exact hF4
  refine ws_step (L' := L2) (w := vu (vu wp b 10 F3) b 11 F4) (by simp only [wE_I, wE_V, wE_F, wE_A, wE_N, wE_1, wE_2, wE_D, wE_B, wE_If, wE_C, wE_CV, wE_SL, wE_SA, wA_0, wA_1, wC_B, wC_E, wC_And, wC_Or, wC_Not, wS_Skip, wS_Brk, wS_Cnt, wS_RetV, wS_Ret, wS_Seq, wS_Set, wS_Inc, wS_Do, wS_Put, wS_PutC, wS_Arr, wS_ArrC, wS_If, wS_Sw, wS_F0, wS_F1, wM_q, lu_ap, aL_ap, ct_0, ct_1, ct_2, ct_3, ct_4, ct_5, headD_1, List.mem_cons, List.not_mem_nil, or_false, false_or, or_true, true_or, true_and, and_true, false_and, and_false, not_true_eq_false, not_false_eq_true, if_true, if_false, nr_20, nr_24, nr_40, nr_41, nr_44, pt_lt, pt_ge, pt_eq, pt_ne, pt_gt, pt_le, pt_E, pt_N, pt_F, ite_10, ite_11, ne_eq, and_self, or_self, decide_true, decide_false, Bool.not_true, Bool.not_false, Bool.false_eq_true, Nat.reduceEqDiff, Nat.reduceAdd, Int.reduceEq, Int.reduceLT, Int.reduceLE, Int.reduceNeg, Int.reduceAdd, Int.reduceSub, Int.reduceMul, reduceCtorEq, iA, iS, iM, iD, iR, iN, lA, lS, lM, lD, lR, n0, c2.k, e1, c2.x.k, e4]) ?_
  have e0 : vu (vu wp b 10 F3) b 11 F4 b 0 = b + 1 := by rw [vu_ne (by simp), vu_ne (by simp)]; exact c2.p0
  refine ws_step (L' := L2) (w := vu (vu (vu wp b 10 F3) b 11 F4) (b + 1) 1 0) (by simp only [wE_I, wE_V, wE_F, wE_A, wE_N, wE_1, wE_2, wE_D, wE_B, wE_If, wE_C, wE_CV, wE_SL, wE_SA, wA_0, wA_1, wC_B, wC_E, wC_And, wC_Or, wC_Not, wS_Skip, wS_Brk, wS_Cnt, wS_RetV, wS_Ret, wS_Seq, wS_Set, wS_Inc, wS_Do, wS_Put, wS_PutC, wS_Arr, wS_ArrC, wS_If, wS_Sw, wS_F0, wS_F1, wM_q, lu_ap, aL_ap, ct_0, ct_1, ct_2, ct_3, ct_4, ct_5, headD_1, List.mem_cons, List.not_mem_nil, or_false, false_or, or_true, true_or, true_and, and_true, false_and, and_false, not_true_eq_false, not_false_eq_true, if_true, if_false, nr_20, nr_24, nr_40, nr_41, nr_44, pt_lt, pt_ge, pt_eq, pt_ne, pt_gt, pt_le, pt_E, pt_N, pt_F, ite_10, ite_11, ne_eq, and_self, or_self, decide_true, decide_false, Bool.not_true, Bool.not_false, Bool.false_eq_true, Nat.reduceEqDiff, Nat.reduceAdd, Int.reduceEq, Int.reduceLT, Int.reduceLE, Int.reduceNeg, Int.reduceAdd, Int.reduceSub, Int.reduceMul, reduceCtorEq, iA, iS, iM, iD, iR, iN, lA, lS, lM, lD, lR, n0, c2.k, e0, c2.t.k]) ?_
  have k3 : Kc S wp (vu (vu (vu wp b 10 F3) b 11 F4) (b + 1) 1 0) := ((Kc.rf.vu (by rw [c2.k]; rfl)).vu (by rw [c2.k]; rfl)).vu (by rw [c2.t.k]; rfl)
  rcases hLE with ⟨z, rfl, y3, y4⟩ | ⟨z, rfl, y3, y4⟩
  · -- taken
    rw [hF3] at y3
    rw [hF4] at y4
    subst y3 y4
    refine ws_step (L' := L2) (w := vu (vu (vu wp b 10 0) b 11 (-1)) (b + 1) 1 0) (by simp only [wE_I, wE_V, wE_F, wE_A, wE_N, wE_1, wE_2, wE_D, wE_B, wE_If, wE_C, wE_CV, wE_SL, wE_SA, wA_0, wA_1, wC_B, wC_E, wC_And, wC_Or, wC_Not, wS_Skip, wS_Brk, wS_Cnt, wS_RetV, wS_Ret, wS_Seq, wS_Set, wS_Inc, wS_Do, wS_Put, wS_PutC, wS_Arr, wS_ArrC, wS_If, wS_Sw, wS_F0, wS_F1, wM_q, lu_ap, aL_ap, ct_0, ct_1, ct_2, ct_3, ct_4, ct_5, headD_1, List.mem_cons, List.not_mem_nil, or_false, false_or, or_true, true_or, true_and, and_true, false_and, and_false, not_true_eq_false, not_false_eq_true, if_true, if_false, nr_20, nr_24, nr_40, nr_41, nr_44, pt_lt, pt_ge, pt_eq, pt_ne, pt_gt, pt_le, pt_E, pt_N, pt_F, ite_10, ite_11, ne_eq, and_self, or_self, decide_true, decide_false, Bool.not_true, Bool.not_false, Bool.false_eq_true, Nat.reduceEqDiff, Nat.reduceAdd, Int.reduceEq, Int.reduceLT, Int.reduceLE, Int.reduceNeg, Int.reduceAdd, Int.reduceSub, Int.reduceMul, reduceCtorEq, iA, iS, iM, iD, iR, iN, lA, lS, lM, lD, lR, n1]) ?_
    have g0 : (vu (vu (vu wp b 10 0) b 11 (-1)) (b + 1) 1 0) b 10 = 0 ∧ (vu (vu (vu wp b 10 0) b 11 (-1)) (b + 1) 1 0) b 11 = -1 ∧ (vu (vu (vu wp b 10 0) b 11 (-1)) (b + 1) 1 0) (b + 1) 1 = 0 := ⟨by rw [vu_ne (by omega), vu_ne (by simp), vu_is], by rw [vu_ne (by omega), vu_is], vu_is⟩
    have g1 : ∀ a k, (a = b → k ≠ 10 ∧ k ≠ 11) → (a = b + 1 → k ≠ 1) → (vu (vu (vu wp b 10 0) b 11 (-1)) (b + 1) 1 0) a k = wp a k := fun a k q1 q2 => by rw [vu_ne (fun e => q2 e.1 e.2), vu_ne (fun e => (q1 e.1).2 e.2), vu_ne (fun e => (q1 e.1).1 e.2)]
    generalize vu (vu (vu wp b 10 0) b 11 (-1)) (b + 1) 1 0 = w3 at *
    have c3 := c2.keep k3.p
    have x2 : w3 b 2 = P := by rw [g1 _ _ (by simp) (by omega), ev _ _ (by omega)]; exact p1
    have x3 : w3 b 3 = Pn := by rw [g1 _ _ (by simp) (by omega), ev _ _ (by omega)]; exact p2
    have x5 : w3 b 5 = v b 5 := by rw [g1 _ _ (by simp) (by omega), ev _ _ (by omega)]
    refine c_storeT (s := s) c3 (hLP.keep (k2.p.tr k3.p)) p3 hPn (by rw [x5]; exact s1) (by rw [x5]; exact s2) (by rw [x5]; exact s3) n0 x2 x3 ?_
    intro L' w7 k7 hs
    obtain ⟨a1, a2, a3, ⟨⟨a4, a5⟩, a6, a7⟩, a8⟩ := hs
    have rr : w3 Pn 1 = wp Pn 1 := g1 _ _ (by omega) (by omega)
    refine ⟨rfl, v1, wp, o, hv1, ⟨k1, k2, k3.tr k7⟩, hPa, fp, Or.inl ⟨z, rr, ⟨?_, ?_, ?_⟩, a1, a2, a3, ⟨⟨a4, a5⟩, a6, a7⟩, fun a k q1 q2 q3 q4 => ?_⟩⟩
    · rw [a8 _ _ (by simp) (by omega) (by omega)]; exact g0.1
    · rw [a8 _ _ (by simp) (by omega) (by omega)]; exact g0.2.1
    · rw [a8 _ _ (by omega) (by omega) (by omega)]; exact g0.2.2
    · rw [a8 _ _ (fun e => ⟨(q1 e).1, (q1 e).2.1, (q1 e).2.2.1, (q1 e).2.2.2.1⟩) q3 q4, g1 _ _ (fun e => ⟨(q1 e).2.2.2.2.1, (q1 e).2.2.2.2.2⟩) q2]
  · -- not taken
    rw [hF3] at y3
    rw [hF4] at y4
    subst y3 y4
    simp only [wE_I, wE_V, wE_F, wE_A, wE_N, wE_1, wE_2, wE_D, wE_B, wE_If, wE_C, wE_CV, wE_SL, wE_SA, wA_0, wA_1, wC_B, wC_E, wC_And, wC_Or, wC_Not, wS_Skip, wS_Brk, wS_Cnt, wS_RetV, wS_Ret, wS_Seq, wS_Set, wS_Inc, wS_Do, wS_Put, wS_PutC, wS_Arr, wS_ArrC, wS_If, wS_Sw, wS_F0, wS_F1, wM_q, lu_ap, aL_ap, ct_0, ct_1, ct_2, ct_3, ct_4, ct_5, headD_1, List.mem_cons, List.not_mem_nil, or_false, false_or, or_true, true_or, true_and, and_true, false_and, and_false, not_true_eq_false, not_false_eq_true, if_true, if_false, nr_20, nr_24, nr_40, nr_41, nr_44, pt_lt, pt_ge, pt_eq, pt_ne, pt_gt, pt_le, pt_E, pt_N, pt_F, ite_10, ite_11, ne_eq, and_self, or_self, decide_true, decide_false, Bool.not_true, Bool.not_false, Bool.false_eq_true, Nat.reduceEqDiff, Nat.reduceAdd, Int.reduceEq, Int.reduceLT, Int.reduceLE, Int.reduceNeg, Int.reduceAdd, Int.reduceSub, Int.reduceMul, reduceCtorEq, iA, iS, iM, iD, iR, iN, lA, lS, lM, lD, lR, n1]
    exact ⟨v1, wp, o, hv1, ⟨k1, k2, k3⟩, hPa, fp, Or.inr ⟨z, rfl⟩⟩
end CST
