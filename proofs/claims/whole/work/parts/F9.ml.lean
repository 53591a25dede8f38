/-! STORE: one line of the reference -/
def FrM (M B : Int) (u w : QV) : Prop := ∀ a k, (a = M → k ≠ 27 ∧ (k < 32 ∨ 38 < k) ∧ k ≠ 44 ∧ k ≠ 45) → ¬ (M + 26 ≤ a ∧ a ≤ M + 27) → a ≠ M + 30 → a ≠ M + 31 → (M + 2 ≤ a ∧ a ≤ M + 7 → k ≠ B) → ((M + 8 ≤ a ∧ a ≤ M + 23) ∨ a = M + 25 → k < 4 * B ∨ 4 * B + 4 ≤ k) → (a = M + 24 → k < 100 * B ∨ 100 * B + 100 ≤ k) → w a k = u a k
theorem FrM.rf {M B : Int} {u : QV} : FrM M B u u := fun _ _ _ _ _ _ _ _ _ => rfl
theorem FrM.tr {M B : Int} {u v w : QV} (h : FrM M B u v) (h' : FrM M B v w) : FrM M B u w := fun a k q1 q2 q3 q4 q5 q6 q7 => (h' a k q1 q2 q3 q4 q5 q6 q7).trans (h a k q1 q2 q3 q4 q5 q6 q7)
theorem Fp.fr {M B : Int} {u w : QV} (h : Fp M u w) : FrM M B u w := fun a k q1 _ _ _ _ _ _ => h a k (fun e => (q1 e).2.1)
section ML
variable {S : QS} {u v w m m' : QV} {T x P M B i n : Int} {o : Int × Int}
theorem Gx.fp (h : Gx u m T x P M B) (hx : x + 3 < P ∧ T + 5 = x) (hPM : P + 16 < M) (hn : u P 1 ≤ 4 ∧ u P 2 ≤ 4) (hf : Fp M m m') : Gx u m' T x P M B := by
  obtain ⟨⟨r1, r2, r3, r4, r5, r6, r7⟩, gl, gs, gN, gf⟩ := h
  have gm : ∀ a k, a ≠ M → m' a k = m a k := fun a k q => hf _ _ (by omega)
  have eu : ∀ a k, a < M → mgm M u m' a k = mgm M u m a k := fun a k q => by rw [mgm_u q, mgm_u q]
  have em : ∀ a k, M < a → mgm M u m' a k = mgm M u m a k := fun a k q => by rw [mgm_m (by omega), mgm_m (by omega)]; exact gm _ _ (by omega)
  refine ⟨⟨?_, ?_, ?_, ?_, ?_, ?_, ?_⟩, ?_, ?_, ?_, ?_⟩
  · rw [eu _ _ (by omega), em _ _ (by omega)]; exact r1
  · rw [eu _ _ (by omega), em _ _ (by omega)]; exact r2
  · rw [eu _ _ (by omega), em _ _ (by omega)]; exact r3
  · rw [eu _ 0 (by omega), eu _ 1 (by omega), em (M + 5) _ (by omega), em (M + 6) _ (by omega)]; exact r4
  · intro k k0 k1
    rw [eu _ _ (by omega)] at k1
    have k2 := k1
    rw [mgm_u (by omega)] at k2
    exact (r5 k k0 k1).cg (fun j => eu _ _ (by omega)) (fun a a0 => em _ _ (by omega))
  · intro k k0 k1
    rw [eu _ _ (by omega)] at k1
    have k2 := k1
    rw [mgm_u (by omega)] at k2
    exact (r6 k k0 k1).cg (fun j => eu _ _ (by omega)) (fun a a0 => em _ _ (by omega))
  · rw [mCo_e (fun k => em _ _ (by omega)), mEn_e (fun k => em _ _ (by omega)), eu P _ (by omega), eu (P + 3) _ (by omega)]
    refine r7.cg (eu _ _ (by omega)) (fun k => eu _ _ (by omega)) (fun k => ⟨eu _ _ (by omega), eu _ _ (by omega)⟩) ⟨Int.le_refl _, ?_⟩
    rw [mgm_u (by omega)]
    exact hn.1
  · rw [gm _ _ (by omega)]
    exact ⟨gl.1, fun k k0 k1 => by rw [gm _ _ (by omega)]; exact gl.2 k k0 k1⟩
  · rw [mEn_e (fun k => gm _ _ (by omega))]; exact gs
  · exact gN.cg rfl (fun _ _ _ _ => rfl) (fun _ => rfl) (fun _ => rfl) (hf _ _ (by omega)) (fun k => gm _ _ (by omega)) (fun k => gm _ _ (by omega)) (fun k => gm _ _ (by omega))
  · intro k k0 k1
    rw [gm _ _ (by omega)]
    exact gf k k0 k1
theorem m_meas4 (h : Mm S v T M n (fun _ => True) m (0, i)) (hB : B = 0 ∨ B = 1) (hcnt : m (M + 3) B = 4) : wM mX12_readMeasure [M, B] S m (fun _ w' => Mm S v T M n (fun w' => Fp M m w') w' (4, i)) := by
  have hM := h.2.1.1
  have oB : 0 ≤ B ∧ B < 2 := by omega
  have hfl := (h.cg (Q' := fun w' => Fp M m w') (fun _ => Fp.rf)).fl (fun w1 w2 q1 q2 => q1.tr q2) (f := 4) (by decide)
  rw [if_pos rfl] at hfl
  simp only [mX12_readMeasure, sX12_readMeasure, wE_I, wE_V, wE_F, wE_A, wE_N, wE_1, wE_2, wE_D, wE_B, wE_If, wE_C, wE_CV, wE_SL, wE_SA, wA_0, wA_1, wC_B, wC_E, wC_And, wC_Or, wC_Not, wS_Skip, wS_Brk, wS_Cnt, wS_RetV, wS_Ret, wS_Seq, wS_Set, wS_Inc, wS_Do, wS_Put, wS_PutC, wS_Arr, wS_ArrC, wS_If, wS_Sw, wS_F0, wS_F1, wM_q, lu_ap, aL_ap, ct_0, ct_1, ct_2, ct_3, ct_4, ct_5, headD_1, List.mem_cons, List.not_mem_nil, or_false, false_or, or_true, true_or, true_and, and_true, false_and, and_false, not_true_eq_false, not_false_eq_true, if_true, if_false, nr_20, nr_24, nr_40, nr_41, nr_44, pt_lt, pt_ge, pt_eq, pt_ne, pt_gt, pt_le, pt_E, pt_N, pt_F, ite_10, ite_11, ne_eq, and_self, or_self, decide_true, decide_false, Bool.not_true, Bool.not_false, Bool.false_eq_true, Nat.reduceEqDiff, Nat.reduceAdd, Int.reduceEq, Int.reduceLT, Int.reduceLE, Int.reduceNeg, Int.reduceAdd, Int.reduceSub, Int.reduceMul, reduceCtorEq, iA, iS, iM, iD, iR, iN, lA, lS, lM, lD, lR, hM.k, hM.p2, hM.a3, hM.n3, oB, hcnt]
  refine wM_mono hfl ?_
  rintro r w' e hm
  have hd := hm.dead (by simp)
  simp only [hm.2.1.1.k, hd, wE_I, wE_V, wE_F, wE_A, wE_N, wE_1, wE_2, wE_D, wE_B, wE_If, wE_C, wE_CV, wE_SL, wE_SA, wA_0, wA_1, wC_B, wC_E, wC_And, wC_Or, wC_Not, wS_Skip, wS_Brk, wS_Cnt, wS_RetV, wS_Ret, wS_Seq, wS_Set, wS_Inc, wS_Do, wS_Put, wS_PutC, wS_Arr, wS_ArrC, wS_If, wS_Sw, wS_F0, wS_F1, wM_q, lu_ap, aL_ap, ct_0, ct_1, ct_2, ct_3, ct_4, ct_5, headD_1, List.mem_cons, List.not_mem_nil, or_false, false_or, or_true, true_or, true_and, and_true, false_and, and_false, not_true_eq_false, not_false_eq_true, if_true, if_false, nr_20, nr_24, nr_40, nr_41, nr_44, pt_lt, pt_ge, pt_eq, pt_ne, pt_gt, pt_le, pt_E, pt_N, pt_F, ite_10, ite_11, ne_eq, and_self, or_self, decide_true, decide_false, Bool.not_true, Bool.not_false, Bool.false_eq_true, Nat.reduceEqDiff, Nat.reduceAdd, Int.reduceEq, Int.reduceLT, Int.reduceLE, Int.reduceNeg, Int.reduceAdd, Int.reduceSub, Int.reduceMul, reduceCtorEq]
  exact hm
theorem m_arch4 (h : Mm S v T M n (fun _ => True) m (0, i)) (hB : B = 0 ∨ B = 1) (hcnt : m (M + 4) B = 4) : wM mX12_readArchive [M, B] S m (fun _ w' => Mm S v T M n (fun w' => Fp M m w') w' (4, i)) := by
  have hM := h.2.1.1
  have oB : 0 ≤ B ∧ B < 2 := by omega
  have hfl := (h.cg (Q' := fun w' => Fp M m w') (fun _ => Fp.rf)).fl (fun w1 w2 q1 q2 => q1.tr q2) (f := 4) (by decide)
  rw [if_pos rfl] at hfl
  simp only [mX12_readArchive, sX12_readArchive, wE_I, wE_V, wE_F, wE_A, wE_N, wE_1, wE_2, wE_D, wE_B, wE_If, wE_C, wE_CV, wE_SL, wE_SA, wA_0, wA_1, wC_B, wC_E, wC_And, wC_Or, wC_Not, wS_Skip, wS_Brk, wS_Cnt, wS_RetV, wS_Ret, wS_Seq, wS_Set, wS_Inc, wS_Do, wS_Put, wS_PutC, wS_Arr, wS_ArrC, wS_If, wS_Sw, wS_F0, wS_F1, wM_q, lu_ap, aL_ap, ct_0, ct_1, ct_2, ct_3, ct_4, ct_5, headD_1, List.mem_cons, List.not_mem_nil, or_false, false_or, or_true, true_or, true_and, and_true, false_and, and_false, not_true_eq_false, not_false_eq_true, if_true, if_false, nr_20, nr_24, nr_40, nr_41, nr_44, pt_lt, pt_ge, pt_eq, pt_ne, pt_gt, pt_le, pt_E, pt_N, pt_F, ite_10, ite_11, ne_eq, and_self, or_self, decide_true, decide_false, Bool.not_true, Bool.not_false, Bool.false_eq_true, Nat.reduceEqDiff, Nat.reduceAdd, Int.reduceEq, Int.reduceLT, Int.reduceLE, Int.reduceNeg, Int.reduceAdd, Int.reduceSub, Int.reduceMul, reduceCtorEq, iA, iS, iM, iD, iR, iN, lA, lS, lM, lD, lR, hM.k, hM.p3, hM.a4, hM.n4, oB, hcnt]
  refine wM_mono hfl ?_
  rintro r w' e hm
  have hd := hm.dead (by simp)
  simp only [hm.2.1.1.k, hd, wE_I, wE_V, wE_F, wE_A, wE_N, wE_1, wE_2, wE_D, wE_B, wE_If, wE_C, wE_CV, wE_SL, wE_SA, wA_0, wA_1, wC_B, wC_E, wC_And, wC_Or, wC_Not, wS_Skip, wS_Brk, wS_Cnt, wS_RetV, wS_Ret, wS_Seq, wS_Set, wS_Inc, wS_Do, wS_Put, wS_PutC, wS_Arr, wS_ArrC, wS_If, wS_Sw, wS_F0, wS_F1, wM_q, lu_ap, aL_ap, ct_0, ct_1, ct_2, ct_3, ct_4, ct_5, headD_1, List.mem_cons, List.not_mem_nil, or_false, false_or, or_true, true_or, true_and, and_true, false_and, and_false, not_true_eq_false, not_false_eq_true, if_true, if_false, nr_20, nr_24, nr_40, nr_41, nr_44, pt_lt, pt_ge, pt_eq, pt_ne, pt_gt, pt_le, pt_E, pt_N, pt_F, ite_10, ite_11, ne_eq, and_self, or_self, decide_true, decide_false, Bool.not_true, Bool.not_false, Bool.false_eq_true, Nat.reduceEqDiff, Nat.reduceAdd, Int.reduceEq, Int.reduceLT, Int.reduceLE, Int.reduceNeg, Int.reduceAdd, Int.reduceSub, Int.reduceMul, reduceCtorEq]
  exact hm
theorem m_show4 (h : Mm S v T M n (fun _ => True) m (0, i)) (hB : B = 0 ∨ B = 1) (hcnt : m (M + 5) B = 4) : wM mX12_readShow [M, B] S m (fun _ w' => Mm S v T M n (fun w' => Fp M m w') w' (4, i)) := by
  have hM := h.2.1.1
  have oB : 0 ≤ B ∧ B < 2 := by omega
  have hfl := (h.cg (Q' := fun w' => Fp M m w') (fun _ => Fp.rf)).fl (fun w1 w2 q1 q2 => q1.tr q2) (f := 4) (by decide)
  rw [if_pos rfl] at hfl
  simp only [mX12_readShow, sX12_readShow, wE_I, wE_V, wE_F, wE_A, wE_N, wE_1, wE_2, wE_D, wE_B, wE_If, wE_C, wE_CV, wE_SL, wE_SA, wA_0, wA_1, wC_B, wC_E, wC_And, wC_Or, wC_Not, wS_Skip, wS_Brk, wS_Cnt, wS_RetV, wS_Ret, wS_Seq, wS_Set, wS_Inc, wS_Do, wS_Put, wS_PutC, wS_Arr, wS_ArrC, wS_If, wS_Sw, wS_F0, wS_F1, wM_q, lu_ap, aL_ap, ct_0, ct_1, ct_2, ct_3, ct_4, ct_5, headD_1, List.mem_cons, List.not_mem_nil, or_false, false_or, or_true, true_or, true_and, and_true, false_and, and_false, not_true_eq_false, not_false_eq_true, if_true, if_false, nr_20, nr_24, nr_40, nr_41, nr_44, pt_lt, pt_ge, pt_eq, pt_ne, pt_gt, pt_le, pt_E, pt_N, pt_F, ite_10, ite_11, ne_eq, and_self, or_self, decide_true, decide_false, Bool.not_true, Bool.not_false, Bool.false_eq_true, Nat.reduceEqDiff, Nat.reduceAdd, Int.reduceEq, Int.reduceLT, Int.reduceLE, Int.reduceNeg, Int.reduceAdd, Int.reduceSub, Int.reduceMul, reduceCtorEq, iA, iS, iM, iD, iR, iN, lA, lS, lM, lD, lR, hM.k, hM.p4, hM.a5, hM.n5, oB, hcnt]
  refine wM_mono hfl ?_
  rintro r w' e hm
  have hd := hm.dead (by simp)
  simp only [hm.2.1.1.k, hd, wE_I, wE_V, wE_F, wE_A, wE_N, wE_1, wE_2, wE_D, wE_B, wE_If, wE_C, wE_CV, wE_SL, wE_SA, wA_0, wA_1, wC_B, wC_E, wC_And, wC_Or, wC_Not, wS_Skip, wS_Brk, wS_Cnt, wS_RetV, wS_Ret, wS_Seq, wS_Set, wS_Inc, wS_Do, wS_Put, wS_PutC, wS_Arr, wS_ArrC, wS_If, wS_Sw, wS_F0, wS_F1, wM_q, lu_ap, aL_ap, ct_0, ct_1, ct_2, ct_3, ct_4, ct_5, headD_1, List.mem_cons, List.not_mem_nil, or_false, false_or, or_true, true_or, true_and, and_true, false_and, and_false, not_true_eq_false, not_false_eq_true, if_true, if_false, nr_20, nr_24, nr_40, nr_41, nr_44, pt_lt, pt_ge, pt_eq, pt_ne, pt_gt, pt_le, pt_E, pt_N, pt_F, ite_10, ite_11, ne_eq, and_self, or_self, decide_true, decide_false, Bool.not_true, Bool.not_false, Bool.false_eq_true, Nat.reduceEqDiff, Nat.reduceAdd, Int.reduceEq, Int.reduceLT, Int.reduceLE, Int.reduceNeg, Int.reduceAdd, Int.reduceSub, Int.reduceMul, reduceCtorEq]
  exact hm
/-- a forecast of what is no measure -/
theorem m_foreN {b : Int} (hc : CX v M T n) (h : Mm S v T M n (fun _ => True) m (0, i)) (hK : kdT v T i ≠ 1) (hu : ∀ q k, T ≤ q → q ≤ T + 4 → u q k = v q k) (hR : NR u m T x M) (hb : kdT v T (i + 1) = 4 → isBe u T x (i + 1) b ∧ (b < 0 ∨ 4 ≤ b)) : wM mX12_readForecast [M, B] S m (fun _ w' => Mm S v T M n (fun w' => Fp M m w') w' (if kdT v T (i + 1) = 4 then (3, i + 1) else (1, i + 1))) := by
  have hM := h.2.1.1
  have hQ0 : Qz M (fun w' => Fp M m w') := fun w1 w2 q1 q2 => q1.tr q2
  have hm0 := h.cg (Q' := fun w' => Fp M m w') (fun _ => Fp.rf)
  have hu5 : nTk u T = nTk v T := nt_q hu
  simp only [mX12_readForecast, sX12_readForecast, wM_q]
  generalize hL : aL 0 [2, 0] [M, B] = L
  have m0 : L 0 = M := by rw [← hL]; simp [lu_ap, aL_ap, ct_0, ct_1, ct_2]
  have m1 : L 1 = B := by rw [← hL]; simp [lu_ap, aL_ap, ct_0, ct_1, ct_2]
  clear hL
  refine ws_call (fun w' => Mm S v T M n (fun w' => Fp M m w') w' (0, i + 1)) (by simp only [wE_I, wE_V, wE_F, wE_A, wE_N, wE_1, wE_2, wE_D, wE_B, wE_If, wE_C, wE_CV, wE_SL, wE_SA, wA_0, wA_1, wC_B, wC_E, wC_And, wC_Or, wC_Not, wS_Skip, wS_Brk, wS_Cnt, wS_RetV, wS_Ret, wS_Seq, wS_Set, wS_Inc, wS_Do, wS_Put, wS_PutC, wS_Arr, wS_ArrC, wS_If, wS_Sw, wS_F0, wS_F1, wM_q, lu_ap, aL_ap, ct_0, ct_1, ct_2, ct_3, ct_4, ct_5, headD_1, List.mem_cons, List.not_mem_nil, or_false, false_or, or_true, true_or, true_and, and_true, false_and, and_false, not_true_eq_false, not_false_eq_true, if_true, if_false, nr_20, nr_24, nr_40, nr_41, nr_44, pt_lt, pt_ge, pt_eq, pt_ne, pt_gt, pt_le, pt_E, pt_N, pt_F, ite_10, ite_11, ne_eq, and_self, or_self, decide_true, decide_false, Bool.not_true, Bool.not_false, Bool.false_eq_true, Nat.reduceEqDiff, Nat.reduceAdd, Int.reduceEq, Int.reduceLT, Int.reduceLE, Int.reduceNeg, Int.reduceAdd, Int.reduceSub, Int.reduceMul, reduceCtorEq, iA, iS, iM, iD, iR, iN, lA, lS, lM, lD, lR, m0, hM.k]; exact hm0.sc hc hQ0 hK) ?_
  intro w1 hm1
  have hM1 := hm1.2.1.1
  have hR1 := hR.fp hm1.2.2
  have hnm := m_isNameO hm1.2.1 hm1.1
  simp only [true_and] at hnm
  rw [wS_Seq]
  refine wS_mono (Q' := fun k _ L' w' => k = 0 ∧ L' = lu L 2 (if kdT v T (i + 1) = 4 then (if b = -1 then -1 else cvB b) else -1) ∧ w' = w1) ?_ ?_
  · by_cases ck : kdT v T (i + 1) = 4
    · rw [if_pos ck] at hnm ⊢
      have hsy := hm1.1.2
      rw [if_pos rfl] at hsy
      have hnh := m_nameHere hm1.2.1 hc hu hu5 hR1 hm1.1.1 hsy.1.1.1 hsy.1.1.2
      simp only [wE_I, wE_V, wE_F, wE_A, wE_N, wE_1, wE_2, wE_D, wE_B, wE_If, wE_C, wE_CV, wE_SL, wE_SA, wA_0, wA_1, wC_B, wC_E, wC_And, wC_Or, wC_Not, wS_Skip, wS_Brk, wS_Cnt, wS_RetV, wS_Ret, wS_Seq, wS_Set, wS_Inc, wS_Do, wS_Put, wS_PutC, wS_Arr, wS_ArrC, wS_If, wS_Sw, wS_F0, wS_F1, wM_q, lu_ap, aL_ap, ct_0, ct_1, ct_2, ct_3, ct_4, ct_5, headD_1, List.mem_cons, List.not_mem_nil, or_false, false_or, or_true, true_or, true_and, and_true, false_and, and_false, not_true_eq_false, not_false_eq_true, if_true, if_false, nr_20, nr_24, nr_40, nr_41, nr_44, pt_lt, pt_ge, pt_eq, pt_ne, pt_gt, pt_le, pt_E, pt_N, pt_F, ite_10, ite_11, ne_eq, and_self, or_self, decide_true, decide_false, Bool.not_true, Bool.not_false, Bool.false_eq_true, Nat.reduceEqDiff, Nat.reduceAdd, Int.reduceEq, Int.reduceLT, Int.reduceLE, Int.reduceNeg, Int.reduceAdd, Int.reduceSub, Int.reduceMul, reduceCtorEq, iA, iS, iM, iD, iR, iN, lA, lS, lM, lD, lR, m0, hM1.k, wM_of hnm]
      refine wM_mono hnh ?_
      rintro r w1' e ⟨rfl, b', hb', rfl⟩
      have ebb := isBe_u hb' (hb ck).1
      subst ebb
      exact ⟨rfl, rfl⟩
    · rw [if_neg ck] at hnm ⊢
      simp only [wE_I, wE_V, wE_F, wE_A, wE_N, wE_1, wE_2, wE_D, wE_B, wE_If, wE_C, wE_CV, wE_SL, wE_SA, wA_0, wA_1, wC_B, wC_E, wC_And, wC_Or, wC_Not, wS_Skip, wS_Brk, wS_Cnt, wS_RetV, wS_Ret, wS_Seq, wS_Set, wS_Inc, wS_Do, wS_Put, wS_PutC, wS_Arr, wS_ArrC, wS_If, wS_Sw, wS_F0, wS_F1, wM_q, lu_ap, aL_ap, ct_0, ct_1, ct_2, ct_3, ct_4, ct_5, headD_1, List.mem_cons, List.not_mem_nil, or_false, false_or, or_true, true_or, true_and, and_true, false_and, and_false, not_true_eq_false, not_false_eq_true, if_true, if_false, nr_20, nr_24, nr_40, nr_41, nr_44, pt_lt, pt_ge, pt_eq, pt_ne, pt_gt, pt_le, pt_E, pt_N, pt_F, ite_10, ite_11, ne_eq, and_self, or_self, decide_true, decide_false, Bool.not_true, Bool.not_false, Bool.false_eq_true, Nat.reduceEqDiff, Nat.reduceAdd, Int.reduceEq, Int.reduceLT, Int.reduceLE, Int.reduceNeg, Int.reduceAdd, Int.reduceSub, Int.reduceMul, reduceCtorEq, iA, iS, iM, iD, iR, iN, lA, lS, lM, lD, lR, m0, hM1.k, wM_of hnm]
  rintro k z L1 w1' ⟨rfl, hL1, rfl⟩
  rw [if_pos rfl]
  have l0 : L1 0 = M := by rw [hL1]; simp [lu_ap, m0]
  have l1 : L1 1 = B := by rw [hL1]; simp [lu_ap, m1]
  have l2 : L1 2 = if kdT v T (i + 1) = 4 then (if b = -1 then -1 else cvB b) else -1 := by rw [hL1]; simp [lu_ap]
  clear hL1
  by_cases ck : kdT v T (i + 1) = 4
  · rw [if_pos ck] at hnm l2 ⊢
    have cb := (hb ck).2
    have hin := fun u : QV => m_isIn (S := S) (v := u) (x := if b = -1 then -1 else cvB b) (l := 0) (h := 3)
    have hni : ¬ (0 ≤ (if b = -1 then -1 else cvB b) ∧ (if b = -1 then -1 else cvB b) ≤ 3) := by
      unfold cvB
      split
      · omega
      · split <;> omega
    have hin1 := hin w1'
    rw [if_neg hni] at hin1
    have hfl := hm1.fl hQ0 (f := 3) (by decide)
    rw [if_pos rfl] at hfl
    simp only [wE_I, wE_V, wE_F, wE_A, wE_N, wE_1, wE_2, wE_D, wE_B, wE_If, wE_C, wE_CV, wE_SL, wE_SA, wA_0, wA_1, wC_B, wC_E, wC_And, wC_Or, wC_Not, wS_Skip, wS_Brk, wS_Cnt, wS_RetV, wS_Ret, wS_Seq, wS_Set, wS_Inc, wS_Do, wS_Put, wS_PutC, wS_Arr, wS_ArrC, wS_If, wS_Sw, wS_F0, wS_F1, wM_q, lu_ap, aL_ap, ct_0, ct_1, ct_2, ct_3, ct_4, ct_5, headD_1, List.mem_cons, List.not_mem_nil, or_false, false_or, or_true, true_or, true_and, and_true, false_and, and_false, not_true_eq_false, not_false_eq_true, if_true, if_false, nr_20, nr_24, nr_40, nr_41, nr_44, pt_lt, pt_ge, pt_eq, pt_ne, pt_gt, pt_le, pt_E, pt_N, pt_F, ite_10, ite_11, ne_eq, and_self, or_self, decide_true, decide_false, Bool.not_true, Bool.not_false, Bool.false_eq_true, Nat.reduceEqDiff, Nat.reduceAdd, Int.reduceEq, Int.reduceLT, Int.reduceLE, Int.reduceNeg, Int.reduceAdd, Int.reduceSub, Int.reduceMul, reduceCtorEq, iA, iS, iM, iD, iR, iN, lA, lS, lM, lD, lR, l0, l1, l2, hM1.k, wM_of hnm, wM_of hin1]
    refine wM_mono hfl ?_
    rintro r w2 e2 hm2
    have hd := hm2.dead (by simp)
    simp only [l0, hm2.2.1.1.k, hd, wE_I, wE_V, wE_F, wE_A, wE_N, wE_1, wE_2, wE_D, wE_B, wE_If, wE_C, wE_CV, wE_SL, wE_SA, wA_0, wA_1, wC_B, wC_E, wC_And, wC_Or, wC_Not, wS_Skip, wS_Brk, wS_Cnt, wS_RetV, wS_Ret, wS_Seq, wS_Set, wS_Inc, wS_Do, wS_Put, wS_PutC, wS_Arr, wS_ArrC, wS_If, wS_Sw, wS_F0, wS_F1, wM_q, lu_ap, aL_ap, ct_0, ct_1, ct_2, ct_3, ct_4, ct_5, headD_1, List.mem_cons, List.not_mem_nil, or_false, false_or, or_true, true_or, true_and, and_true, false_and, and_false, not_true_eq_false, not_false_eq_true, if_true, if_false, nr_20, nr_24, nr_40, nr_41, nr_44, pt_lt, pt_ge, pt_eq, pt_ne, pt_gt, pt_le, pt_E, pt_N, pt_F, ite_10, ite_11, ne_eq, and_self, or_self, decide_true, decide_false, Bool.not_true, Bool.not_false, Bool.false_eq_true, Nat.reduceEqDiff, Nat.reduceAdd, Int.reduceEq, Int.reduceLT, Int.reduceLE, Int.reduceNeg, Int.reduceAdd, Int.reduceSub, Int.reduceMul, reduceCtorEq]
    exact hm2
  · rw [if_neg ck] at hnm l2 ⊢
    have hfl := hm1.fl hQ0 (f := 1) (by decide)
    rw [if_pos rfl] at hfl
    simp only [wE_I, wE_V, wE_F, wE_A, wE_N, wE_1, wE_2, wE_D, wE_B, wE_If, wE_C, wE_CV, wE_SL, wE_SA, wA_0, wA_1, wC_B, wC_E, wC_And, wC_Or, wC_Not, wS_Skip, wS_Brk, wS_Cnt, wS_RetV, wS_Ret, wS_Seq, wS_Set, wS_Inc, wS_Do, wS_Put, wS_PutC, wS_Arr, wS_ArrC, wS_If, wS_Sw, wS_F0, wS_F1, wM_q, lu_ap, aL_ap, ct_0, ct_1, ct_2, ct_3, ct_4, ct_5, headD_1, List.mem_cons, List.not_mem_nil, or_false, false_or, or_true, true_or, true_and, and_true, false_and, and_false, not_true_eq_false, not_false_eq_true, if_true, if_false, nr_20, nr_24, nr_40, nr_41, nr_44, pt_lt, pt_ge, pt_eq, pt_ne, pt_gt, pt_le, pt_E, pt_N, pt_F, ite_10, ite_11, ne_eq, and_self, or_self, decide_true, decide_false, Bool.not_true, Bool.not_false, Bool.false_eq_true, Nat.reduceEqDiff, Nat.reduceAdd, Int.reduceEq, Int.reduceLT, Int.reduceLE, Int.reduceNeg, Int.reduceAdd, Int.reduceSub, Int.reduceMul, reduceCtorEq, iA, iS, iM, iD, iR, iN, lA, lS, lM, lD, lR, l0, l1, l2, hM1.k, wM_of hnm]
    refine wM_mono hfl ?_
    rintro r w2 e2 hm2
    have hd := hm2.dead (by simp)
    simp only [l0, hm2.2.1.1.k, hd, wE_I, wE_V, wE_F, wE_A, wE_N, wE_1, wE_2, wE_D, wE_B, wE_If, wE_C, wE_CV, wE_SL, wE_SA, wA_0, wA_1, wC_B, wC_E, wC_And, wC_Or, wC_Not, wS_Skip, wS_Brk, wS_Cnt, wS_RetV, wS_Ret, wS_Seq, wS_Set, wS_Inc, wS_Do, wS_Put, wS_PutC, wS_Arr, wS_ArrC, wS_If, wS_Sw, wS_F0, wS_F1, wM_q, lu_ap, aL_ap, ct_0, ct_1, ct_2, ct_3, ct_4, ct_5, headD_1, List.mem_cons, List.not_mem_nil, or_false, false_or, or_true, true_or, true_and, and_true, false_and, and_false, not_true_eq_false, not_false_eq_true, if_true, if_false, nr_20, nr_24, nr_40, nr_41, nr_44, pt_lt, pt_ge, pt_eq, pt_ne, pt_gt, pt_le, pt_E, pt_N, pt_F, ite_10, ite_11, ne_eq, and_self, or_self, decide_true, decide_false, Bool.not_true, Bool.not_false, Bool.false_eq_true, Nat.reduceEqDiff, Nat.reduceAdd, Int.reduceEq, Int.reduceLT, Int.reduceLE, Int.reduceNeg, Int.reduceAdd, Int.reduceSub, Int.reduceMul, reduceCtorEq]
    exact hm2
end ML
