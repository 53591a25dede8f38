/-! STORE: a forecast's line, a new name, the class's -/
section CG
variable {S : QS} {v w u : QV} {M T n x P : Int} {o : Int × Int}
theorem stp_t {φ : Int → Int} {o : Int × Int} (h : ¬ o.1 = 0) : stp φ o = o := stp_d h
theorem pair_e {o : Int × Int} {a b : Int} (h1 : o.1 = a) (h2 : o.2 = b) : o = (a, b) := by
  rw [← h1, ← h2]
theorem isBe_q {i r : Int} (hw : ∀ a k, T ≤ a → a ≤ T + 4 → w a k = u a k) (hx : w x 7 = u x 7) (h1 : ∀ k, w (x + 1) k = u (x + 1) k) (h2 : ∀ k, w (x + 2) k = u (x + 2) k) (h : isBe w T x i r) : isBe u T x i r := by
  unfold isBe at h ⊢
  rw [hx] at h
  simp only [h1, h2, smW_q hw] at h
  exact h
theorem c_forecastLine {i : Int} (h : PS S u T x P i) (hL : LPl S u P) (hxP : x + 3 < P) (ht : TR T v u) (hK : kdT v T i ≠ 1) (hN : NB u T x) : wM mX5_forecastLine [x] S u (fun r w => ∃ b, (kdT v T (i + 1) = 4 → isBe u T x (i + 1) b) ∧ LnC u w T x v (foO v T i b (u (P + (9 + b)) 6)) r ∧ foF u w x (P + (9 + b)) ∧ ((foO v T i b (u (P + (9 + b)) 6)).1 = 0 → (0 ≤ b ∧ b < 4 ∧ ¬ 0 < u (P + (9 + b)) 6) ∧ w (P + (9 + b)) 6 = nmT v T (i + 3) ∧ w (P + (9 + b)) 7 = nmT v T (i + 5) ∧ w (P + (9 + b)) 8 = nmT v T (i + 6) ∧ w (P + (9 + b)) 9 = nmT v T (i + 7) ∧ w (P + (9 + b)) 10 = nmT v T (i + 9))) := by
  have h10 := h.2.2.2.2.2.2.2.2.2
  have hx1 := h.2.2.2.1
  have hx2 := h.2.2.2.2.1
  have hi6 := h.2.2.2.2.2.1
  have hi7 := h.2.2.2.2.2.2.1.1
  have hnx := h.nx (by rw [kd_q ht]; exact hK)
  have e1 : w32 (i + 1) = i + 1 := w32_e (by omega)
  have hP1 := h.go (j := i + 1) (by clear e1; omega)
  have hkd := q_kind hP1
  have ht1 : TR T v (vu u x 2 (i + 1)) := ht.vu (by clear e1; omega)
  rw [kd_q ht1] at hkd
  have g0 : ∀ a k, (a = x → k ≠ 2) → vu u x 2 (i + 1) a k = u a k := fun a k q => vu_ne (fun e => q e.1 e.2)
  have hN1 : NB (vu u x 2 (i + 1)) T x := by
    clear e1
    unfold NB at hN ⊢
    rw [g0 x 7 (by omega), nt_5 (g0 T 5 (by omega))]
    have q1 : ∀ k, vu u x 2 (i + 1) (x + 1) k = u (x + 1) k := fun k => g0 _ k (by omega)
    have q2 : ∀ k, vu u x 2 (i + 1) (x + 2) k = u (x + 2) k := fun k => g0 _ k (by omega)
    simp only [q1, q2]
    exact hN
  simp only [mX5_forecastLine, sX5_forecastLine, wM_q]
  generalize hLL : aL 0 [2] [x] = L
  have m0 : L 0 = x := by rw [← hLL]; simp [aL_ap, ct_0, ct_1, ct_2]
  clear hLL
  refine ws_step (L' := L) (w := vu u x 2 (i + 1)) (by simp only [wE_I, wE_V, wE_F, wE_A, wE_N, wE_1, wE_2, wE_D, wE_B, wE_If, wE_C, wE_CV, wE_SL, wE_SA, wA_0, wA_1, wC_B, wC_E, wC_And, wC_Or, wC_Not, wS_Skip, wS_Brk, wS_Cnt, wS_RetV, wS_Ret, wS_Seq, wS_Set, wS_Inc, wS_Do, wS_Put, wS_PutC, wS_Arr, wS_ArrC, wS_If, wS_Sw, wS_F0, wS_F1, wM_q, lu_ap, aL_ap, ct_0, ct_1, ct_2, ct_3, ct_4, ct_5, headD_1, List.mem_cons, List.not_mem_nil, or_false, false_or, or_true, true_or, true_and, and_true, false_and, and_false, not_true_eq_false, not_false_eq_true, if_true, if_false, nr_20, nr_24, nr_40, nr_41, nr_44, pt_lt, pt_ge, pt_eq, pt_ne, pt_gt, pt_le, pt_E, pt_N, pt_F, ite_10, ite_11, ne_eq, and_self, or_self, decide_true, decide_false, Bool.not_true, Bool.not_false, Bool.false_eq_true, Nat.reduceEqDiff, Nat.reduceAdd, Int.reduceEq, Int.reduceLT, Int.reduceLE, Int.reduceNeg, Int.reduceAdd, Int.reduceSub, Int.reduceMul, reduceCtorEq, iA, iS, iM, iD, iR, iN, lA, lS, lM, lD, lR, m0, h.2.1.k, hx2, e1]) ?_
  clear e1
  by_cases ck : kdT v T (i + 1) = 4
  · have c4 : ¬ ¬ kdT v T (i + 1) = 4 := fun z => z ck
    refine ws_step (L' := L) (w := vu u x 2 (i + 1)) (by simp only [wE_I, wE_V, wE_F, wE_A, wE_N, wE_1, wE_2, wE_D, wE_B, wE_If, wE_C, wE_CV, wE_SL, wE_SA, wA_0, wA_1, wC_B, wC_E, wC_And, wC_Or, wC_Not, wS_Skip, wS_Brk, wS_Cnt, wS_RetV, wS_Ret, wS_Seq, wS_Set, wS_Inc, wS_Do, wS_Put, wS_PutC, wS_Arr, wS_ArrC, wS_If, wS_Sw, wS_F0, wS_F1, wM_q, lu_ap, aL_ap, ct_0, ct_1, ct_2, ct_3, ct_4, ct_5, headD_1, List.mem_cons, List.not_mem_nil, or_false, false_or, or_true, true_or, true_and, and_true, false_and, and_false, not_true_eq_false, not_false_eq_true, if_true, if_false, nr_20, nr_24, nr_40, nr_41, nr_44, pt_lt, pt_ge, pt_eq, pt_ne, pt_gt, pt_le, pt_E, pt_N, pt_F, ite_10, ite_11, ne_eq, and_self, or_self, decide_true, decide_false, Bool.not_true, Bool.not_false, Bool.false_eq_true, Nat.reduceEqDiff, Nat.reduceAdd, Int.reduceEq, Int.reduceLT, Int.reduceLE, Int.reduceNeg, Int.reduceAdd, Int.reduceSub, Int.reduceMul, reduceCtorEq, iA, iS, iM, iD, iR, iN, lA, lS, lM, lD, lR, m0, h.2.1.k, wM_of hkd, ck]) ?_
    simp only [wE_I, wE_V, wE_F, wE_A, wE_N, wE_1, wE_2, wE_D, wE_B, wE_If, wE_C, wE_CV, wE_SL, wE_SA, wA_0, wA_1, wC_B, wC_E, wC_And, wC_Or, wC_Not, wS_Skip, wS_Brk, wS_Cnt, wS_RetV, wS_Ret, wS_Seq, wS_Set, wS_Inc, wS_Do, wS_Put, wS_PutC, wS_Arr, wS_ArrC, wS_If, wS_Sw, wS_F0, wS_F1, wM_q, lu_ap, aL_ap, ct_0, ct_1, ct_2, ct_3, ct_4, ct_5, headD_1, List.mem_cons, List.not_mem_nil, or_false, false_or, or_true, true_or, true_and, and_true, false_and, and_false, not_true_eq_false, not_false_eq_true, if_true, if_false, nr_20, nr_24, nr_40, nr_41, nr_44, pt_lt, pt_ge, pt_eq, pt_ne, pt_gt, pt_le, pt_E, pt_N, pt_F, ite_10, ite_11, ne_eq, and_self, or_self, decide_true, decide_false, Bool.not_true, Bool.not_false, Bool.false_eq_true, Nat.reduceEqDiff, Nat.reduceAdd, Int.reduceEq, Int.reduceLT, Int.reduceLE, Int.reduceNeg, Int.reduceAdd, Int.reduceSub, Int.reduceMul, reduceCtorEq, iA, iS, iM, iD, iR, iN, lA, lS, lM, lD, lR, m0, h.2.1.k]
    refine wM_mono (c_bearerHere hP1 hN1) ?_
    rintro b w1 e ⟨rfl, hbe⟩
    have hbe' : isBe u T x (i + 1) b := isBe_q (fun a k q1 q2 => g0 a k (by omega)) (g0 x 7 (by omega)) (fun k => g0 _ k (by omega)) (fun k => g0 _ k (by omega)) hbe
    have hbb := isBe_b hN hbe'
    have hM0 : Mi S u v T x P (fun w => foF u w x (P + (9 + b)) ∧ True) (vu u x 2 (i + 1)) (i + 1) := ⟨hP1, ht1, ⟨g0 _ _ (by omega), g0 _ _ (by omega)⟩, fun a k q1 q2 => g0 a k (fun z => (q1 z).1), trivial⟩
    have hQ0 : Qx x (fun w => foF u w x (P + (9 + b)) ∧ True) := foF.qx (by omega) _ (fun _ _ _ _ => trivial)
    have g6 : vu u x 2 (i + 1) (P + (9 + b)) 6 = u (P + (9 + b)) 6 := g0 _ _ (by omega)
    have hLp := hL.keep (show Kp S u (vu u x 2 (i + 1)) from Kp.rf.vuc (by rw [h.2.1.k]; rfl))
    have gx1 : vu u x 2 (i + 1) x 1 = P := by rw [g0 _ _ (by omega)]; exact hx1
    have gx2 : vu u x 2 (i + 1) x 2 = i + 1 := vu_is
    generalize vu u x 2 (i + 1) = u1 at *
    have hf := q_fail (f := 3) hP1
    rw [st_q ht1] at hf
    obtain ⟨f1, f2⟩ := hM0.fail hQ0 (f := 3) (by decide)
    have hfail : (b < 0 ∨ 4 ≤ b ∨ 0 < u (P + (9 + b)) 6) → foO v T i b (u (P + (9 + b)) 6) = (3, i + 1) := fun z => by unfold foO; rw [if_neg c4, if_pos z]
    by_cases c1 : b < 0
    · simp only [c1, m0, h.2.1.k, wM_of hf, wE_I, wE_V, wE_F, wE_A, wE_N, wE_1, wE_2, wE_D, wE_B, wE_If, wE_C, wE_CV, wE_SL, wE_SA, wA_0, wA_1, wC_B, wC_E, wC_And, wC_Or, wC_Not, wS_Skip, wS_Brk, wS_Cnt, wS_RetV, wS_Ret, wS_Seq, wS_Set, wS_Inc, wS_Do, wS_Put, wS_PutC, wS_Arr, wS_ArrC, wS_If, wS_Sw, wS_F0, wS_F1, wM_q, lu_ap, aL_ap, ct_0, ct_1, ct_2, ct_3, ct_4, ct_5, headD_1, List.mem_cons, List.not_mem_nil, or_false, false_or, or_true, true_or, true_and, and_true, false_and, and_false, not_true_eq_false, not_false_eq_true, if_true, if_false, nr_20, nr_24, nr_40, nr_41, nr_44, pt_lt, pt_ge, pt_eq, pt_ne, pt_gt, pt_le, pt_E, pt_N, pt_F, ite_10, ite_11, ne_eq, and_self, or_self, decide_true, decide_false, Bool.not_true, Bool.not_false, Bool.false_eq_true, Nat.reduceEqDiff, Nat.reduceAdd, Int.reduceEq, Int.reduceLT, Int.reduceLE, Int.reduceNeg, Int.reduceAdd, Int.reduceSub, Int.reduceMul, reduceCtorEq]
      refine ⟨b, fun _ => hbe', ?_, f2.1, fun z => ?_⟩
      · rw [hfail (Or.inl c1)]; exact f1
      · rw [hfail (Or.inl c1)] at z; exact absurd z (by simp)
    · by_cases c2 : 4 ≤ b
      · simp only [c1, c2, m0, h.2.1.k, wM_of hf, wE_I, wE_V, wE_F, wE_A, wE_N, wE_1, wE_2, wE_D, wE_B, wE_If, wE_C, wE_CV, wE_SL, wE_SA, wA_0, wA_1, wC_B, wC_E, wC_And, wC_Or, wC_Not, wS_Skip, wS_Brk, wS_Cnt, wS_RetV, wS_Ret, wS_Seq, wS_Set, wS_Inc, wS_Do, wS_Put, wS_PutC, wS_Arr, wS_ArrC, wS_If, wS_Sw, wS_F0, wS_F1, wM_q, lu_ap, aL_ap, ct_0, ct_1, ct_2, ct_3, ct_4, ct_5, headD_1, List.mem_cons, List.not_mem_nil, or_false, false_or, or_true, true_or, true_and, and_true, false_and, and_false, not_true_eq_false, not_false_eq_true, if_true, if_false, nr_20, nr_24, nr_40, nr_41, nr_44, pt_lt, pt_ge, pt_eq, pt_ne, pt_gt, pt_le, pt_E, pt_N, pt_F, ite_10, ite_11, ne_eq, and_self, or_self, decide_true, decide_false, Bool.not_true, Bool.not_false, Bool.false_eq_true, Nat.reduceEqDiff, Nat.reduceAdd, Int.reduceEq, Int.reduceLT, Int.reduceLE, Int.reduceNeg, Int.reduceAdd, Int.reduceSub, Int.reduceMul, reduceCtorEq]
        refine ⟨b, fun _ => hbe', ?_, f2.1, fun z => ?_⟩
        · rw [hfail (Or.inr (Or.inl c2))]; exact f1
        · rw [hfail (Or.inr (Or.inl c2))] at z; exact absurd z (by simp)
      · have ob : 0 ≤ b ∧ b < 4 := by omega
        have hpm := hLp.m b ob.1 ob.2
        have hem := hLp.em b ob.1 ob.2
        by_cases c3 : 0 < u (P + (9 + b)) 6
        · simp only [c1, c2, m0, h.2.1.k, gx1, hLp.k, hLp.p3, hLp.a1, hLp.n1, ob, hem, hpm, g6, c3, wM_of hf, wE_I, wE_V, wE_F, wE_A, wE_N, wE_1, wE_2, wE_D, wE_B, wE_If, wE_C, wE_CV, wE_SL, wE_SA, wA_0, wA_1, wC_B, wC_E, wC_And, wC_Or, wC_Not, wS_Skip, wS_Brk, wS_Cnt, wS_RetV, wS_Ret, wS_Seq, wS_Set, wS_Inc, wS_Do, wS_Put, wS_PutC, wS_Arr, wS_ArrC, wS_If, wS_Sw, wS_F0, wS_F1, wM_q, lu_ap, aL_ap, ct_0, ct_1, ct_2, ct_3, ct_4, ct_5, headD_1, List.mem_cons, List.not_mem_nil, or_false, false_or, or_true, true_or, true_and, and_true, false_and, and_false, not_true_eq_false, not_false_eq_true, if_true, if_false, nr_20, nr_24, nr_40, nr_41, nr_44, pt_lt, pt_ge, pt_eq, pt_ne, pt_gt, pt_le, pt_E, pt_N, pt_F, ite_10, ite_11, ne_eq, and_self, or_self, decide_true, decide_false, Bool.not_true, Bool.not_false, Bool.false_eq_true, Nat.reduceEqDiff, Nat.reduceAdd, Int.reduceEq, Int.reduceLT, Int.reduceLE, Int.reduceNeg, Int.reduceAdd, Int.reduceSub, Int.reduceMul, reduceCtorEq]
          refine ⟨b, fun _ => hbe', ?_, f2.1, fun z => ?_⟩
          · rw [hfail (Or.inr (Or.inr c3))]; exact f1
          · rw [hfail (Or.inr (Or.inr c3))] at z; exact absurd z (by simp)
        · have hfo : foO v T i b (u (P + (9 + b)) 6) = stp (fKd v T 59) (foN v T (stp (fKd v T 270) (0, i + 2))) := by unfold foO; rw [if_neg c4, if_neg (by omega)]
          have hnx2 := hP1.nx (by rw [kd_q ht1, ck]; decide)
          rw [nt_q ht1] at hnx2
          have hM1 := hM0.go hQ0 (j' := i + 1 + 1) (by omega)
          have hk1 : Kp S u1 (vu u1 x 2 (i + 1 + 1)) := Kp.rf.vuc (by rw [h.2.1.k]; rfl)
          have e2 : w32 (i + 1 + 1) = i + 1 + 1 := w32_e (by omega)
          simp only [c1, c2, m0, h.2.1.k, gx1, gx2, hLp.k, hLp.p3, hLp.a1, hLp.n1, ob, hem, hpm, g6, c3, e2, wE_I, wE_V, wE_F, wE_A, wE_N, wE_1, wE_2, wE_D, wE_B, wE_If, wE_C, wE_CV, wE_SL, wE_SA, wA_0, wA_1, wC_B, wC_E, wC_And, wC_Or, wC_Not, wS_Skip, wS_Brk, wS_Cnt, wS_RetV, wS_Ret, wS_Seq, wS_Set, wS_Inc, wS_Do, wS_Put, wS_PutC, wS_Arr, wS_ArrC, wS_If, wS_Sw, wS_F0, wS_F1, wM_q, lu_ap, aL_ap, ct_0, ct_1, ct_2, ct_3, ct_4, ct_5, headD_1, List.mem_cons, List.not_mem_nil, or_false, false_or, or_true, true_or, true_and, and_true, false_and, and_false, not_true_eq_false, not_false_eq_true, if_true, if_false, nr_20, nr_24, nr_40, nr_41, nr_44, pt_lt, pt_ge, pt_eq, pt_ne, pt_gt, pt_le, pt_E, pt_N, pt_F, ite_10, ite_11, ne_eq, and_self, or_self, decide_true, decide_false, Bool.not_true, Bool.not_false, Bool.false_eq_true, Nat.reduceEqDiff, Nat.reduceAdd, Int.reduceEq, Int.reduceLT, Int.reduceLE, Int.reduceNeg, Int.reduceAdd, Int.reduceSub, Int.reduceMul, reduceCtorEq, iA, iS, iM, iD, iR, iN, lA, lS, lM, lD, lR]
          clear e2
          rw [show i + 1 + 1 = i + 2 by omega] at hM1 hk1 ⊢
          have hLq := hLp.keep hk1
          generalize vu u1 x 2 (i + 2) = u2 at *
          refine wM_mono (hM1.tak (k := 270) hQ0 (by decide)) ?_
          rintro r w2 e2 (⟨g2, rfl, hM2⟩ | ⟨g2, rfl, hb, hq⟩)
          rotate_left
          · simp only [wE_I, wE_V, wE_F, wE_A, wE_N, wE_1, wE_2, wE_D, wE_B, wE_If, wE_C, wE_CV, wE_SL, wE_SA, wA_0, wA_1, wC_B, wC_E, wC_And, wC_Or, wC_Not, wS_Skip, wS_Brk, wS_Cnt, wS_RetV, wS_Ret, wS_Seq, wS_Set, wS_Inc, wS_Do, wS_Put, wS_PutC, wS_Arr, wS_ArrC, wS_If, wS_Sw, wS_F0, wS_F1, wM_q, lu_ap, aL_ap, ct_0, ct_1, ct_2, ct_3, ct_4, ct_5, headD_1, List.mem_cons, List.not_mem_nil, or_false, false_or, or_true, true_or, true_and, and_true, false_and, and_false, not_true_eq_false, not_false_eq_true, if_true, if_false, nr_20, nr_24, nr_40, nr_41, nr_44, pt_lt, pt_ge, pt_eq, pt_ne, pt_gt, pt_le, pt_E, pt_N, pt_F, ite_10, ite_11, ne_eq, and_self, or_self, decide_true, decide_false, Bool.not_true, Bool.not_false, Bool.false_eq_true, Nat.reduceEqDiff, Nat.reduceAdd, Int.reduceEq, Int.reduceLT, Int.reduceLE, Int.reduceNeg, Int.reduceAdd, Int.reduceSub, Int.reduceMul, reduceCtorEq]
            have ho : foO v T i b (u (P + (9 + b)) 6) = (fKd v T 270 (i + 2), i + 2) := by
              rw [hfo, stp_0f g2]
              unfold foN
              rw [stp_ff g2, stp_ff g2, stp_ff g2, stp_ff g2, stp_ff g2, stp_ff g2, stp_ff g2, stp_ff g2]
            refine ⟨b, fun _ => hbe', by rw [ho]; exact hb, hq.1, fun z => by rw [ho] at z; exact absurd z g2⟩
          have hk2 : LPl S w2 P := hLq.keep (Kc.of kX5_take e2).p
          have hx1' := hM2.1.2.2.2.1
          rw [stp_00 g2] at hfo
          simp only [hM2.1.2.1.k, hx1', hk2.k, hk2.p3, hk2.a1, hk2.n1, hk2.em b ob.1 ob.2, ob, wE_I, wE_V, wE_F, wE_A, wE_N, wE_1, wE_2, wE_D, wE_B, wE_If, wE_C, wE_CV, wE_SL, wE_SA, wA_0, wA_1, wC_B, wC_E, wC_And, wC_Or, wC_Not, wS_Skip, wS_Brk, wS_Cnt, wS_RetV, wS_Ret, wS_Seq, wS_Set, wS_Inc, wS_Do, wS_Put, wS_PutC, wS_Arr, wS_ArrC, wS_If, wS_Sw, wS_F0, wS_F1, wM_q, lu_ap, aL_ap, ct_0, ct_1, ct_2, ct_3, ct_4, ct_5, headD_1, List.mem_cons, List.not_mem_nil, or_false, false_or, or_true, true_or, true_and, and_true, false_and, and_false, not_true_eq_false, not_false_eq_true, if_true, if_false, nr_20, nr_24, nr_40, nr_41, nr_44, pt_lt, pt_ge, pt_eq, pt_ne, pt_gt, pt_le, pt_E, pt_N, pt_F, ite_10, ite_11, ne_eq, and_self, or_self, decide_true, decide_false, Bool.not_true, Bool.not_false, Bool.false_eq_true, Nat.reduceEqDiff, Nat.reduceAdd, Int.reduceEq, Int.reduceLT, Int.reduceLE, Int.reduceNeg, Int.reduceAdd, Int.reduceSub, Int.reduceMul, reduceCtorEq]
          refine wM_mono (c_fNumbers hpm (by omega) hM2) ?_
          rintro r w3 e3 (⟨g3, rfl, g4, hM3⟩ | ⟨g3, rfl, hb, hq⟩)
          rotate_left
          · simp only [wE_I, wE_V, wE_F, wE_A, wE_N, wE_1, wE_2, wE_D, wE_B, wE_If, wE_C, wE_CV, wE_SL, wE_SA, wA_0, wA_1, wC_B, wC_E, wC_And, wC_Or, wC_Not, wS_Skip, wS_Brk, wS_Cnt, wS_RetV, wS_Ret, wS_Seq, wS_Set, wS_Inc, wS_Do, wS_Put, wS_PutC, wS_Arr, wS_ArrC, wS_If, wS_Sw, wS_F0, wS_F1, wM_q, lu_ap, aL_ap, ct_0, ct_1, ct_2, ct_3, ct_4, ct_5, headD_1, List.mem_cons, List.not_mem_nil, or_false, false_or, or_true, true_or, true_and, and_true, false_and, and_false, not_true_eq_false, not_false_eq_true, if_true, if_false, nr_20, nr_24, nr_40, nr_41, nr_44, pt_lt, pt_ge, pt_eq, pt_ne, pt_gt, pt_le, pt_E, pt_N, pt_F, ite_10, ite_11, ne_eq, and_self, or_self, decide_true, decide_false, Bool.not_true, Bool.not_false, Bool.false_eq_true, Nat.reduceEqDiff, Nat.reduceAdd, Int.reduceEq, Int.reduceLT, Int.reduceLE, Int.reduceNeg, Int.reduceAdd, Int.reduceSub, Int.reduceMul, reduceCtorEq]
            have ho : foO v T i b (u (P + (9 + b)) 6) = foN v T (0, i + 2 + 1) := by rw [hfo, stp_t g3]
            refine ⟨b, fun _ => hbe', by rw [ho]; exact hb, hq, fun z => by rw [ho] at z; exact absurd z g3⟩
          rw [pair_e g3 g4] at hfo
          have pv : ∀ (w : QV) (k z f : Int), vu w x k z (P + (9 + b)) f = w (P + (9 + b)) f := fun w k z f => vu_ne (by omega)
          simp only [hM3.1.2.1.k, wE_I, wE_V, wE_F, wE_A, wE_N, wE_1, wE_2, wE_D, wE_B, wE_If, wE_C, wE_CV, wE_SL, wE_SA, wA_0, wA_1, wC_B, wC_E, wC_And, wC_Or, wC_Not, wS_Skip, wS_Brk, wS_Cnt, wS_RetV, wS_Ret, wS_Seq, wS_Set, wS_Inc, wS_Do, wS_Put, wS_PutC, wS_Arr, wS_ArrC, wS_If, wS_Sw, wS_F0, wS_F1, wM_q, lu_ap, aL_ap, ct_0, ct_1, ct_2, ct_3, ct_4, ct_5, headD_1, List.mem_cons, List.not_mem_nil, or_false, false_or, or_true, true_or, true_and, and_true, false_and, and_false, not_true_eq_false, not_false_eq_true, if_true, if_false, nr_20, nr_24, nr_40, nr_41, nr_44, pt_lt, pt_ge, pt_eq, pt_ne, pt_gt, pt_le, pt_E, pt_N, pt_F, ite_10, ite_11, ne_eq, and_self, or_self, decide_true, decide_false, Bool.not_true, Bool.not_false, Bool.false_eq_true, Nat.reduceEqDiff, Nat.reduceAdd, Int.reduceEq, Int.reduceLT, Int.reduceLE, Int.reduceNeg, Int.reduceAdd, Int.reduceSub, Int.reduceMul, reduceCtorEq]
          refine wM_mono (hM3.tak (k := 59) (foF.qx (by omega) _ (fun w k z q => by rw [pv, pv, pv, pv, pv]; exact q)) (by decide)) ?_
          rintro r w4 e4 (⟨g5, rfl, hM4⟩ | ⟨g5, rfl, hb, hq⟩)
          rotate_left
          · simp only [wE_I, wE_V, wE_F, wE_A, wE_N, wE_1, wE_2, wE_D, wE_B, wE_If, wE_C, wE_CV, wE_SL, wE_SA, wA_0, wA_1, wC_B, wC_E, wC_And, wC_Or, wC_Not, wS_Skip, wS_Brk, wS_Cnt, wS_RetV, wS_Ret, wS_Seq, wS_Set, wS_Inc, wS_Do, wS_Put, wS_PutC, wS_Arr, wS_ArrC, wS_If, wS_Sw, wS_F0, wS_F1, wM_q, lu_ap, aL_ap, ct_0, ct_1, ct_2, ct_3, ct_4, ct_5, headD_1, List.mem_cons, List.not_mem_nil, or_false, false_or, or_true, true_or, true_and, and_true, false_and, and_false, not_true_eq_false, not_false_eq_true, if_true, if_false, nr_20, nr_24, nr_40, nr_41, nr_44, pt_lt, pt_ge, pt_eq, pt_ne, pt_gt, pt_le, pt_E, pt_N, pt_F, ite_10, ite_11, ne_eq, and_self, or_self, decide_true, decide_false, Bool.not_true, Bool.not_false, Bool.false_eq_true, Nat.reduceEqDiff, Nat.reduceAdd, Int.reduceEq, Int.reduceLT, Int.reduceLE, Int.reduceNeg, Int.reduceAdd, Int.reduceSub, Int.reduceMul, reduceCtorEq]
            have ho : foO v T i b (u (P + (9 + b)) 6) = (fKd v T 59 (i + 2 + 1 + 7), i + 2 + 1 + 7) := by rw [hfo, stp_0f g5]
            refine ⟨b, fun _ => hbe', by rw [ho]; exact hb, hq.1, fun z => by rw [ho] at z; exact absurd z g5⟩
          rw [stp_00 g5] at hfo
          simp only [wE_I, wE_V, wE_F, wE_A, wE_N, wE_1, wE_2, wE_D, wE_B, wE_If, wE_C, wE_CV, wE_SL, wE_SA, wA_0, wA_1, wC_B, wC_E, wC_And, wC_Or, wC_Not, wS_Skip, wS_Brk, wS_Cnt, wS_RetV, wS_Ret, wS_Seq, wS_Set, wS_Inc, wS_Do, wS_Put, wS_PutC, wS_Arr, wS_ArrC, wS_If, wS_Sw, wS_F0, wS_F1, wM_q, lu_ap, aL_ap, ct_0, ct_1, ct_2, ct_3, ct_4, ct_5, headD_1, List.mem_cons, List.not_mem_nil, or_false, false_or, or_true, true_or, true_and, and_true, false_and, and_false, not_true_eq_false, not_false_eq_true, if_true, if_false, nr_20, nr_24, nr_40, nr_41, nr_44, pt_lt, pt_ge, pt_eq, pt_ne, pt_gt, pt_le, pt_E, pt_N, pt_F, ite_10, ite_11, ne_eq, and_self, or_self, decide_true, decide_false, Bool.not_true, Bool.not_false, Bool.false_eq_true, Nat.reduceEqDiff, Nat.reduceAdd, Int.reduceEq, Int.reduceLT, Int.reduceLE, Int.reduceNeg, Int.reduceAdd, Int.reduceSub, Int.reduceMul, reduceCtorEq]
          obtain ⟨z0, z1, z2, z3⟩ := hM4
          refine ⟨b, fun _ => hbe', Or.inl ⟨by rw [hfo], rfl, by rw [hfo]; exact z0.2.2.2.2.1, z2.1, z2.2⟩, z3.1, fun _ => ⟨⟨ob.1, ob.2, c3⟩, ?_⟩⟩
          have := z3.2
          rw [show i + 2 + 1 = i + 3 by omega, show i + 3 + 2 = i + 5 by omega, show i + 3 + 3 = i + 6 by omega, show i + 3 + 4 = i + 7 by omega, show i + 3 + 6 = i + 9 by omega] at this
          exact this
  · have hfo : foO v T i (-1) (u (P + (9 + -1)) 6) = (1, i + 1) := by unfold foO; rw [if_pos ck]
    have hf := q_fail (f := 1) hP1
    rw [st_q ht1] at hf
    simp only [wE_I, wE_V, wE_F, wE_A, wE_N, wE_1, wE_2, wE_D, wE_B, wE_If, wE_C, wE_CV, wE_SL, wE_SA, wA_0, wA_1, wC_B, wC_E, wC_And, wC_Or, wC_Not, wS_Skip, wS_Brk, wS_Cnt, wS_RetV, wS_Ret, wS_Seq, wS_Set, wS_Inc, wS_Do, wS_Put, wS_PutC, wS_Arr, wS_ArrC, wS_If, wS_Sw, wS_F0, wS_F1, wM_q, lu_ap, aL_ap, ct_0, ct_1, ct_2, ct_3, ct_4, ct_5, headD_1, List.mem_cons, List.not_mem_nil, or_false, false_or, or_true, true_or, true_and, and_true, false_and, and_false, not_true_eq_false, not_false_eq_true, if_true, if_false, nr_20, nr_24, nr_40, nr_41, nr_44, pt_lt, pt_ge, pt_eq, pt_ne, pt_gt, pt_le, pt_E, pt_N, pt_F, ite_10, ite_11, ne_eq, and_self, or_self, decide_true, decide_false, Bool.not_true, Bool.not_false, Bool.false_eq_true, Nat.reduceEqDiff, Nat.reduceAdd, Int.reduceEq, Int.reduceLT, Int.reduceLE, Int.reduceNeg, Int.reduceAdd, Int.reduceSub, Int.reduceMul, reduceCtorEq, iA, iS, iM, iD, iR, iN, lA, lS, lM, lD, lR, m0, h.2.1.k, wM_of hkd, ck, wM_of hf]
    refine ⟨-1, fun z => z.elim, ?_, fun a k q1 q2 => ?_, fun z => ?_⟩
    · rw [hfo]
      exact Or.inr ⟨by simp, rfl, by rw [vu_ne (by simp), vu_is], vu_is⟩
    · rw [vu_ne (fun e => (q1 e.1).2.2 e.2), vu_ne (fun e => (q1 e.1).2.1 e.2)]
      exact g0 a k (fun z => (q1 z).1)
    · rw [hfo] at z; exact absurd z (by simp)
end CG
