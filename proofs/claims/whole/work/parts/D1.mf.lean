/-! STORE: a forecast's line, the reference's -/
def foM (v : QV) (T i b sea : Int) : Int × Int := if ¬ kdT v T (i + 1) = 4 then (1, i + 1) else if b < 0 ∨ 4 ≤ b ∨ 0 < sea then (3, i + 1) else foN v T (stp (fKd v T 270) (0, i + 2))
theorem foM_o {v : QV} {T i b sea : Int} : foO v T i b sea = stp (fKd v T 59) (foM v T i b sea) := by
  unfold foO foM
  split
  · rw [stp_ff (by decide)]
  · split
    · rw [stp_ff (by decide)]
    · rfl
def fmF (u w : QV) (M B b : Int) : Prop := ∀ a k, (a = M → k < 32 ∨ 38 < k) → (M + 18 ≤ a → a ≤ M + 23 → k ≠ 4 * B + b) → w a k = u a k
theorem fmF.f {u w w' : QV} {M B b : Int} (h : fmF u w M B b) (hf : Fp M w w') : fmF u w' M B b := fun a k h1 h2 => (hf a k h1).trans (h a k h1 h2)
theorem fmF.put {u w : QV} {M B b a z : Int} (h : fmF u w M B b) (ha : M + 18 ≤ a ∧ a ≤ M + 23) : fmF u (vu w a (4 * B + b) z) M B b := fun q k h1 h2 => by
  rw [vu_ne (fun e => h2 (by omega) (by omega) e.2)]
  exact h q k h1 h2
theorem NR.fp {u w w' : QV} {T x M : Int} (h : NR u w T x M) (hf : Fp M w w') : NR u w' T x M := by
  obtain ⟨⟨r1, r2⟩, r3⟩ := h
  refine ⟨⟨by rw [hf _ _ (by omega)]; exact r1, r2⟩, fun j j0 j1 => ?_⟩
  rw [hf (M + 26) _ (by omega), hf (M + 27) _ (by omega), hf (M + 30) _ (by omega)]
  exact r3 j j0 j1
section MF2
variable {S : QS} {v w u : QV} {M T n x P B : Int} {o : Int × Int}
theorem m_foN {Q : QV → Prop} (hc : CX v M T n) {b : Int} (h : Mm S v T M n (fun w' => fmF u w' M B b ∧ w' (M + 18) (4 * B + b) = 1) w o) (o8 : 0 ≤ 4 * B + b ∧ 4 * B + b < 8) {L : QL} (l0 : L 0 = M) (l3 : L 3 = 4 * B + b) (hQ : ∀ w', (Mm S v T M n (fun w' => fmF u w' M B b ∧ ((foN v T o).1 = 0 → w' (M + 18) (4 * B + b) = 1 ∧ w' (M + 19) (4 * B + b) = nmT v T o.2 ∧ w' (M + 20) (4 * B + b) = nmT v T (o.2 + 2) ∧ w' (M + 21) (4 * B + b) = nmT v T (o.2 + 3) ∧ w' (M + 22) (4 * B + b) = nmT v T (o.2 + 4) ∧ w' (M + 23) (4 * B + b) = nmT v T (o.2 + 6))) w' (foN v T o)) → Q w') : wS (sSeq (sArr 40 (eF 12 18 (eV 0)) (eV 3) (eCallV 12 mX12_numeral [(eV 0), (eI 2), (eI 24)])) (sSeq (sDo (eCallV 12 mX12_needWord [(eV 0), (eI 6)])) (sSeq (sArr 40 (eF 12 19 (eV 0)) (eV 3) (eCallV 12 mX12_numeral [(eV 0), (eI 0), (eI 16)])) (sSeq (sArr 40 (eF 12 20 (eV 0)) (eV 3) (eCallV 12 mX12_numeral [(eV 0), (eI 0), (eI 16)])) (sSeq (sArr 40 (eF 12 21 (eV 0)) (eV 3) (eCallV 12 mX12_numeral [(eV 0), (eI 0), (eI 16)])) (sSeq (sDo (eCallV 12 mX12_needWord [(eV 0), (eI 10)])) (sSeq (sArr 40 (eF 12 22 (eV 0)) (eV 3) (eCallV 12 mX12_numeral [(eV 0), (eI 1), (eI 9)])) sRetV))))))) L S w (fun k z _ w' => k = 3 ∧ Q w') := by
  have hM := h.2.1.1
  have qf : ∀ (R : QV → Prop), (∀ w1 w2, R w1 → Fp M w1 w2 → R w2) → Qz M (fun w' => fmF u w' M B b ∧ R w') := fun R hR w1 w2 q1 q2 => ⟨q1.1.f q2, hR w1 w2 q1.2 q2⟩
  have pz : ∀ (a : Int) (z : Int), a ≠ M → ∀ w1 w2 : QV, w1 a (4 * B + b) = z → Fp M w1 w2 → w2 a (4 * B + b) = z := fun a z ha w1 w2 q1 q2 => by rw [q2 _ _ (by omega)]; exact q1
  simp only [wE_I, wE_V, wE_F, wE_A, wE_N, wE_1, wE_2, wE_D, wE_B, wE_If, wE_C, wE_CV, wE_SL, wE_SA, wA_0, wA_1, wC_B, wC_E, wC_And, wC_Or, wC_Not, wS_Skip, wS_Brk, wS_Cnt, wS_RetV, wS_Ret, wS_Seq, wS_Set, wS_Inc, wS_Do, wS_Put, wS_PutC, wS_Arr, wS_ArrC, wS_If, wS_Sw, wS_F0, wS_F1, wM_q, lu_ap, aL_ap, ct_0, ct_1, ct_2, ct_3, ct_4, ct_5, headD_1, List.mem_cons, List.not_mem_nil, or_false, false_or, or_true, true_or, true_and, and_true, false_and, and_false, not_true_eq_false, not_false_eq_true, if_true, if_false, nr_20, nr_24, nr_40, nr_41, nr_44, pt_lt, pt_ge, pt_eq, pt_ne, pt_gt, pt_le, pt_E, pt_N, pt_F, ite_10, ite_11, ne_eq, and_self, or_self, decide_true, decide_false, Bool.not_true, Bool.not_false, Bool.false_eq_true, Nat.reduceEqDiff, Nat.reduceAdd, Int.reduceEq, Int.reduceLT, Int.reduceLE, Int.reduceNeg, Int.reduceAdd, Int.reduceSub, Int.reduceMul, reduceCtorEq, iA, iS, iM, iD, iR, iN, lA, lS, lM, lD, lR, l0, l3, hM.k, hM.p18]
  refine wM_mono (h.nl hc (qf _ (pz _ _ (by omega))) (lo := 2) (hi := 24) (by decide)) ?_
  rintro r1 u1 e1 ⟨hm1, hr1⟩
  have hM1 := hm1.2.1.1
  have hm1' := hm1.put (a := M + 19) (k := 4 * B + b) (z := r1) (Q' := fun w' => fmF u w' M B b ∧ w' (M + 18) (4 * B + b) = 1 ∧ w' (M + 19) (4 * B + b) = r1) (by omega) (by rw [hM1.a19]; rfl) (fun w' q => ⟨q.1.put (by omega), by rw [vu_ne (by omega)]; exact q.2, vu_is⟩)
  have q2 : Qz M (fun w' => fmF u w' M B b ∧ w' (M + 18) (4 * B + b) = 1 ∧ w' (M + 19) (4 * B + b) = r1) := qf _ (fun w1 w2 a c => ⟨pz _ _ (by omega) w1 w2 a.1 c, pz _ _ (by omega) w1 w2 a.2 c⟩)
  simp only [hM1.a19, hM1.n19, o8, hM1.k, l0, wE_I, wE_V, wE_F, wE_A, wE_N, wE_1, wE_2, wE_D, wE_B, wE_If, wE_C, wE_CV, wE_SL, wE_SA, wA_0, wA_1, wC_B, wC_E, wC_And, wC_Or, wC_Not, wS_Skip, wS_Brk, wS_Cnt, wS_RetV, wS_Ret, wS_Seq, wS_Set, wS_Inc, wS_Do, wS_Put, wS_PutC, wS_Arr, wS_ArrC, wS_If, wS_Sw, wS_F0, wS_F1, wM_q, lu_ap, aL_ap, ct_0, ct_1, ct_2, ct_3, ct_4, ct_5, headD_1, List.mem_cons, List.not_mem_nil, or_false, false_or, or_true, true_or, true_and, and_true, false_and, and_false, not_true_eq_false, not_false_eq_true, if_true, if_false, nr_20, nr_24, nr_40, nr_41, nr_44, pt_lt, pt_ge, pt_eq, pt_ne, pt_gt, pt_le, pt_E, pt_N, pt_F, ite_10, ite_11, ne_eq, and_self, or_self, decide_true, decide_false, Bool.not_true, Bool.not_false, Bool.false_eq_true, Nat.reduceEqDiff, Nat.reduceAdd, Int.reduceEq, Int.reduceLT, Int.reduceLE, Int.reduceNeg, Int.reduceAdd, Int.reduceSub, Int.reduceMul, reduceCtorEq]
  refine wM_mono (hm1'.nw hc q2 (j := 6) (by decide)) ?_
  rintro r2 u2 e2 hm2
  rw [show (256 : Int) + (pmN 6 : Nat) = 267 from rfl] at hm2
  have hM2 := hm2.2.1.1
  simp only [l0, l3, hM2.k, hM2.p19, wE_I, wE_V, wE_F, wE_A, wE_N, wE_1, wE_2, wE_D, wE_B, wE_If, wE_C, wE_CV, wE_SL, wE_SA, wA_0, wA_1, wC_B, wC_E, wC_And, wC_Or, wC_Not, wS_Skip, wS_Brk, wS_Cnt, wS_RetV, wS_Ret, wS_Seq, wS_Set, wS_Inc, wS_Do, wS_Put, wS_PutC, wS_Arr, wS_ArrC, wS_If, wS_Sw, wS_F0, wS_F1, wM_q, lu_ap, aL_ap, ct_0, ct_1, ct_2, ct_3, ct_4, ct_5, headD_1, List.mem_cons, List.not_mem_nil, or_false, false_or, or_true, true_or, true_and, and_true, false_and, and_false, not_true_eq_false, not_false_eq_true, if_true, if_false, nr_20, nr_24, nr_40, nr_41, nr_44, pt_lt, pt_ge, pt_eq, pt_ne, pt_gt, pt_le, pt_E, pt_N, pt_F, ite_10, ite_11, ne_eq, and_self, or_self, decide_true, decide_false, Bool.not_true, Bool.not_false, Bool.false_eq_true, Nat.reduceEqDiff, Nat.reduceAdd, Int.reduceEq, Int.reduceLT, Int.reduceLE, Int.reduceNeg, Int.reduceAdd, Int.reduceSub, Int.reduceMul, reduceCtorEq]
  refine wM_mono (hm2.nl hc q2 (lo := 0) (hi := 16) (by decide)) ?_
  rintro r3 u3 e3 ⟨hm3, hr3⟩
  have hM3 := hm3.2.1.1
  have hm3' := hm3.put (a := M + 20) (k := 4 * B + b) (z := r3) (Q' := fun w' => fmF u w' M B b ∧ w' (M + 18) (4 * B + b) = 1 ∧ w' (M + 19) (4 * B + b) = r1 ∧ w' (M + 20) (4 * B + b) = r3) (by omega) (by rw [hM3.a20]; rfl) (fun w' q => ⟨q.1.put (by omega), by rw [vu_ne (by omega)]; exact q.2.1, by rw [vu_ne (by omega)]; exact q.2.2, vu_is⟩)
  have q3 : Qz M (fun w' => fmF u w' M B b ∧ w' (M + 18) (4 * B + b) = 1 ∧ w' (M + 19) (4 * B + b) = r1 ∧ w' (M + 20) (4 * B + b) = r3) := qf _ (fun w1 w2 a c => ⟨pz _ _ (by omega) w1 w2 a.1 c, pz _ _ (by omega) w1 w2 a.2.1 c, pz _ _ (by omega) w1 w2 a.2.2 c⟩)
  have hM3' := hm3'.2.1.1
  simp only [hM3.a20, hM3.n20, o8, l0, l3, hM3'.k, hM3'.p20, wE_I, wE_V, wE_F, wE_A, wE_N, wE_1, wE_2, wE_D, wE_B, wE_If, wE_C, wE_CV, wE_SL, wE_SA, wA_0, wA_1, wC_B, wC_E, wC_And, wC_Or, wC_Not, wS_Skip, wS_Brk, wS_Cnt, wS_RetV, wS_Ret, wS_Seq, wS_Set, wS_Inc, wS_Do, wS_Put, wS_PutC, wS_Arr, wS_ArrC, wS_If, wS_Sw, wS_F0, wS_F1, wM_q, lu_ap, aL_ap, ct_0, ct_1, ct_2, ct_3, ct_4, ct_5, headD_1, List.mem_cons, List.not_mem_nil, or_false, false_or, or_true, true_or, true_and, and_true, false_and, and_false, not_true_eq_false, not_false_eq_true, if_true, if_false, nr_20, nr_24, nr_40, nr_41, nr_44, pt_lt, pt_ge, pt_eq, pt_ne, pt_gt, pt_le, pt_E, pt_N, pt_F, ite_10, ite_11, ne_eq, and_self, or_self, decide_true, decide_false, Bool.not_true, Bool.not_false, Bool.false_eq_true, Nat.reduceEqDiff, Nat.reduceAdd, Int.reduceEq, Int.reduceLT, Int.reduceLE, Int.reduceNeg, Int.reduceAdd, Int.reduceSub, Int.reduceMul, reduceCtorEq]
  refine wM_mono (hm3'.nl hc q3 (lo := 0) (hi := 16) (by decide)) ?_
  rintro r4 u4 e4 ⟨hm4, hr4⟩
  have hM4 := hm4.2.1.1
  have hm4' := hm4.put (a := M + 21) (k := 4 * B + b) (z := r4) (Q' := fun w' => fmF u w' M B b ∧ w' (M + 18) (4 * B + b) = 1 ∧ w' (M + 19) (4 * B + b) = r1 ∧ w' (M + 20) (4 * B + b) = r3 ∧ w' (M + 21) (4 * B + b) = r4) (by omega) (by rw [hM4.a21]; rfl) (fun w' q => ⟨q.1.put (by omega), by rw [vu_ne (by omega)]; exact q.2.1, by rw [vu_ne (by omega)]; exact q.2.2.1, by rw [vu_ne (by omega)]; exact q.2.2.2, vu_is⟩)
  have q4 : Qz M (fun w' => fmF u w' M B b ∧ w' (M + 18) (4 * B + b) = 1 ∧ w' (M + 19) (4 * B + b) = r1 ∧ w' (M + 20) (4 * B + b) = r3 ∧ w' (M + 21) (4 * B + b) = r4) := qf _ (fun w1 w2 a c => ⟨pz _ _ (by omega) w1 w2 a.1 c, pz _ _ (by omega) w1 w2 a.2.1 c, pz _ _ (by omega) w1 w2 a.2.2.1 c, pz _ _ (by omega) w1 w2 a.2.2.2 c⟩)
  have hM4' := hm4'.2.1.1
  simp only [hM4.a21, hM4.n21, o8, l0, l3, hM4'.k, hM4'.p21, wE_I, wE_V, wE_F, wE_A, wE_N, wE_1, wE_2, wE_D, wE_B, wE_If, wE_C, wE_CV, wE_SL, wE_SA, wA_0, wA_1, wC_B, wC_E, wC_And, wC_Or, wC_Not, wS_Skip, wS_Brk, wS_Cnt, wS_RetV, wS_Ret, wS_Seq, wS_Set, wS_Inc, wS_Do, wS_Put, wS_PutC, wS_Arr, wS_ArrC, wS_If, wS_Sw, wS_F0, wS_F1, wM_q, lu_ap, aL_ap, ct_0, ct_1, ct_2, ct_3, ct_4, ct_5, headD_1, List.mem_cons, List.not_mem_nil, or_false, false_or, or_true, true_or, true_and, and_true, false_and, and_false, not_true_eq_false, not_false_eq_true, if_true, if_false, nr_20, nr_24, nr_40, nr_41, nr_44, pt_lt, pt_ge, pt_eq, pt_ne, pt_gt, pt_le, pt_E, pt_N, pt_F, ite_10, ite_11, ne_eq, and_self, or_self, decide_true, decide_false, Bool.not_true, Bool.not_false, Bool.false_eq_true, Nat.reduceEqDiff, Nat.reduceAdd, Int.reduceEq, Int.reduceLT, Int.reduceLE, Int.reduceNeg, Int.reduceAdd, Int.reduceSub, Int.reduceMul, reduceCtorEq]
  refine wM_mono (hm4'.nl hc q4 (lo := 0) (hi := 16) (by decide)) ?_
  rintro r5 u5 e5 ⟨hm5, hr5⟩
  have hM5 := hm5.2.1.1
  have hm5' := hm5.put (a := M + 22) (k := 4 * B + b) (z := r5) (Q' := fun w' => fmF u w' M B b ∧ w' (M + 18) (4 * B + b) = 1 ∧ w' (M + 19) (4 * B + b) = r1 ∧ w' (M + 20) (4 * B + b) = r3 ∧ w' (M + 21) (4 * B + b) = r4 ∧ w' (M + 22) (4 * B + b) = r5) (by omega) (by rw [hM5.a22]; rfl) (fun w' q => ⟨q.1.put (by omega), by rw [vu_ne (by omega)]; exact q.2.1, by rw [vu_ne (by omega)]; exact q.2.2.1, by rw [vu_ne (by omega)]; exact q.2.2.2.1, by rw [vu_ne (by omega)]; exact q.2.2.2.2, vu_is⟩)
  have q5 : Qz M (fun w' => fmF u w' M B b ∧ w' (M + 18) (4 * B + b) = 1 ∧ w' (M + 19) (4 * B + b) = r1 ∧ w' (M + 20) (4 * B + b) = r3 ∧ w' (M + 21) (4 * B + b) = r4 ∧ w' (M + 22) (4 * B + b) = r5) := qf _ (fun w1 w2 a c => ⟨pz _ _ (by omega) w1 w2 a.1 c, pz _ _ (by omega) w1 w2 a.2.1 c, pz _ _ (by omega) w1 w2 a.2.2.1 c, pz _ _ (by omega) w1 w2 a.2.2.2.1 c, pz _ _ (by omega) w1 w2 a.2.2.2.2 c⟩)
  have hM5' := hm5'.2.1.1
  simp only [hM5.a22, hM5.n22, o8, l0, l3, hM5'.k, wE_I, wE_V, wE_F, wE_A, wE_N, wE_1, wE_2, wE_D, wE_B, wE_If, wE_C, wE_CV, wE_SL, wE_SA, wA_0, wA_1, wC_B, wC_E, wC_And, wC_Or, wC_Not, wS_Skip, wS_Brk, wS_Cnt, wS_RetV, wS_Ret, wS_Seq, wS_Set, wS_Inc, wS_Do, wS_Put, wS_PutC, wS_Arr, wS_ArrC, wS_If, wS_Sw, wS_F0, wS_F1, wM_q, lu_ap, aL_ap, ct_0, ct_1, ct_2, ct_3, ct_4, ct_5, headD_1, List.mem_cons, List.not_mem_nil, or_false, false_or, or_true, true_or, true_and, and_true, false_and, and_false, not_true_eq_false, not_false_eq_true, if_true, if_false, nr_20, nr_24, nr_40, nr_41, nr_44, pt_lt, pt_ge, pt_eq, pt_ne, pt_gt, pt_le, pt_E, pt_N, pt_F, ite_10, ite_11, ne_eq, and_self, or_self, decide_true, decide_false, Bool.not_true, Bool.not_false, Bool.false_eq_true, Nat.reduceEqDiff, Nat.reduceAdd, Int.reduceEq, Int.reduceLT, Int.reduceLE, Int.reduceNeg, Int.reduceAdd, Int.reduceSub, Int.reduceMul, reduceCtorEq]
  refine wM_mono (hm5'.nw hc q5 (j := 10) (by decide)) ?_
  rintro r6 u6 e6 hm6
  rw [show (256 : Int) + (pmN 10 : Nat) = 271 from rfl] at hm6
  have hM6 := hm6.2.1.1
  simp only [l0, l3, hM6.k, hM6.p22, wE_I, wE_V, wE_F, wE_A, wE_N, wE_1, wE_2, wE_D, wE_B, wE_If, wE_C, wE_CV, wE_SL, wE_SA, wA_0, wA_1, wC_B, wC_E, wC_And, wC_Or, wC_Not, wS_Skip, wS_Brk, wS_Cnt, wS_RetV, wS_Ret, wS_Seq, wS_Set, wS_Inc, wS_Do, wS_Put, wS_PutC, wS_Arr, wS_ArrC, wS_If, wS_Sw, wS_F0, wS_F1, wM_q, lu_ap, aL_ap, ct_0, ct_1, ct_2, ct_3, ct_4, ct_5, headD_1, List.mem_cons, List.not_mem_nil, or_false, false_or, or_true, true_or, true_and, and_true, false_and, and_false, not_true_eq_false, not_false_eq_true, if_true, if_false, nr_20, nr_24, nr_40, nr_41, nr_44, pt_lt, pt_ge, pt_eq, pt_ne, pt_gt, pt_le, pt_E, pt_N, pt_F, ite_10, ite_11, ne_eq, and_self, or_self, decide_true, decide_false, Bool.not_true, Bool.not_false, Bool.false_eq_true, Nat.reduceEqDiff, Nat.reduceAdd, Int.reduceEq, Int.reduceLT, Int.reduceLE, Int.reduceNeg, Int.reduceAdd, Int.reduceSub, Int.reduceMul, reduceCtorEq]
  refine wM_mono (hm6.nl hc q5 (lo := 1) (hi := 9) (by decide)) ?_
  rintro r7 u7 e7 ⟨hm7, hr7⟩
  have hM7 := hm7.2.1.1
  simp only [hM7.a23, hM7.n23, o8, wE_I, wE_V, wE_F, wE_A, wE_N, wE_1, wE_2, wE_D, wE_B, wE_If, wE_C, wE_CV, wE_SL, wE_SA, wA_0, wA_1, wC_B, wC_E, wC_And, wC_Or, wC_Not, wS_Skip, wS_Brk, wS_Cnt, wS_RetV, wS_Ret, wS_Seq, wS_Set, wS_Inc, wS_Do, wS_Put, wS_PutC, wS_Arr, wS_ArrC, wS_If, wS_Sw, wS_F0, wS_F1, wM_q, lu_ap, aL_ap, ct_0, ct_1, ct_2, ct_3, ct_4, ct_5, headD_1, List.mem_cons, List.not_mem_nil, or_false, false_or, or_true, true_or, true_and, and_true, false_and, and_false, not_true_eq_false, not_false_eq_true, if_true, if_false, nr_20, nr_24, nr_40, nr_41, nr_44, pt_lt, pt_ge, pt_eq, pt_ne, pt_gt, pt_le, pt_E, pt_N, pt_F, ite_10, ite_11, ne_eq, and_self, or_self, decide_true, decide_false, Bool.not_true, Bool.not_false, Bool.false_eq_true, Nat.reduceEqDiff, Nat.reduceAdd, Int.reduceEq, Int.reduceLT, Int.reduceLE, Int.reduceNeg, Int.reduceAdd, Int.reduceSub, Int.reduceMul, reduceCtorEq]
  refine hQ _ (hm7.put (by omega) (by rw [hM7.a23]; rfl) (fun w' q => ⟨q.1.put (by omega), fun z => ?_⟩))
  unfold foN at z
  obtain ⟨z1, z2, z3⟩ := stp_i z
  obtain ⟨z4, z5, z6⟩ := stp_i z1
  obtain ⟨z7, z8, z9⟩ := stp_i z4
  obtain ⟨za, zb, zc⟩ := stp_i z7
  obtain ⟨zd, ze, zf⟩ := stp_i za
  obtain ⟨zg, zh, zi⟩ := stp_i zd
  obtain ⟨zj, zk, zl⟩ := stp_i zg
  refine ⟨by rw [vu_ne (by omega)]; exact q.2.1, ?_, ?_, ?_, ?_, ?_⟩
  · rw [vu_ne (by omega), q.2.2.1]; exact hr1 zg
  · rw [vu_ne (by omega), q.2.2.2.1, hr3 za]
    congr 1
    rw [zi, zl]; omega
  · rw [vu_ne (by omega), q.2.2.2.2.1, hr4 z7]
    congr 1
    rw [zf, zi, zl]; omega
  · rw [vu_ne (by omega), q.2.2.2.2.2, hr5 z4]
    congr 1
    rw [zc, zf, zi, zl]; omega
  · rw [vu_is, hr7 z]
    congr 1
    rw [z6, z9, zc, zf, zi, zl]; omega
end MF2
