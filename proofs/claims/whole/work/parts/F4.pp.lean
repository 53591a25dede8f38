/-! STORE: a whole text, the class's -/
def stO (v : QV) (T : Int) : Int × Int := stp (fKd v T 59) (stp (fNu v T 1 60) (stp (fKd v T 256) (0, 0)))
def Clr (x P z : Int) (u : QV) : Prop := (u P 0 = z ∧ u P 1 = 0 ∧ u P 2 = 0) ∧ (u (P + 3) 0 = 0 ∧ u (P + 3) 1 = 0 ∧ u (P + 3) 2 = 0) ∧ u x 7 = 0
def stG (x P : Int) (u w : QV) : Prop := ∀ a k, (a = x → k ≠ 2 ∧ k ≠ 3 ∧ k ≠ 4) → (a = P → k ≠ 0) → w a k = u a k
/-- what comes of a text -/
def Pa (S : QS) (v : QV) (T x P : Int) (w : QV) (o : Int × Int) : Prop := (kdT v T 0 = 1 ∧ o = (0, 0) ∧ Clr x P 1 w) ∨ (kdT v T 0 ≠ 1 ∧ ¬ (stO v T).1 = 0 ∧ o = stO v T) ∨ (kdT v T 0 ≠ 1 ∧ stO v T = (0, 3) ∧ ∃ u N, Clr x P (nmT v T 1) u ∧ (1 ≤ nmT v T 1 ∧ nmT v T 1 ≤ 60) ∧ Cl S v T x P u 3 ∧ Tr S v T x P N u 3 w o)
section PP
variable {S : QS} {u v w : QV} {T x P : Int} {o : Int × Int}
theorem q_clear1 {F : Int} (h : S.1 F = 2) : mX1_clear [F] S w = some (0, vu (vu (vu w F 0 0) F 1 0) F 2 0) := by
  apply wM_eq
  simp only [mX1_clear, sX1_clear, wE_I, wE_V, wE_F, wE_A, wE_N, wE_1, wE_2, wE_D, wE_B, wE_If, wE_C, wE_CV, wE_SL, wE_SA, wA_0, wA_1, wC_B, wC_E, wC_And, wC_Or, wC_Not, wS_Skip, wS_Brk, wS_Cnt, wS_RetV, wS_Ret, wS_Seq, wS_Set, wS_Inc, wS_Do, wS_Put, wS_PutC, wS_Arr, wS_ArrC, wS_If, wS_Sw, wS_F0, wS_F1, wM_q, lu_ap, aL_ap, ct_0, ct_1, ct_2, ct_3, ct_4, ct_5, headD_1, List.mem_cons, List.not_mem_nil, or_false, false_or, or_true, true_or, true_and, and_true, false_and, and_false, not_true_eq_false, not_false_eq_true, if_true, if_false, nr_20, nr_24, nr_40, nr_41, nr_44, pt_lt, pt_ge, pt_eq, pt_ne, pt_gt, pt_le, pt_E, pt_N, pt_F, ite_10, ite_11, ne_eq, and_self, or_self, decide_true, decide_false, Bool.not_true, Bool.not_false, Bool.false_eq_true, Nat.reduceEqDiff, Nat.reduceAdd, Int.reduceEq, Int.reduceLT, Int.reduceLE, Int.reduceNeg, Int.reduceAdd, Int.reduceSub, Int.reduceMul, reduceCtorEq, iA, iS, iM, iD, iR, iN, lA, lS, lM, lD, lR, h]
theorem q_clear6 (h : LPl S w P) : mX6_clear [P] S w = some (0, vu (vu (vu (vu (vu (vu w P 0 1) P 1 0) P 2 0) (P + 3) 0 0) (P + 3) 1 0) (P + 3) 2 0) := by
  have h5 : (vu (vu (vu w P 0 1) P 1 0) P 2 0) P 5 = P + 3 := by rw [vu_ne (by omega), vu_ne (by omega), vu_ne (by omega)]; exact h.p5
  have hc := q_clear1 (S := S) (w := vu (vu (vu w P 0 1) P 1 0) P 2 0) h.f.k
  apply wM_eq
  simp only [mX6_clear, sX6_clear, wE_I, wE_V, wE_F, wE_A, wE_N, wE_1, wE_2, wE_D, wE_B, wE_If, wE_C, wE_CV, wE_SL, wE_SA, wA_0, wA_1, wC_B, wC_E, wC_And, wC_Or, wC_Not, wS_Skip, wS_Brk, wS_Cnt, wS_RetV, wS_Ret, wS_Seq, wS_Set, wS_Inc, wS_Do, wS_Put, wS_PutC, wS_Arr, wS_ArrC, wS_If, wS_Sw, wS_F0, wS_F1, wM_q, lu_ap, aL_ap, ct_0, ct_1, ct_2, ct_3, ct_4, ct_5, headD_1, List.mem_cons, List.not_mem_nil, or_false, false_or, or_true, true_or, true_and, and_true, false_and, and_false, not_true_eq_false, not_false_eq_true, if_true, if_false, nr_20, nr_24, nr_40, nr_41, nr_44, pt_lt, pt_ge, pt_eq, pt_ne, pt_gt, pt_le, pt_E, pt_N, pt_F, ite_10, ite_11, ne_eq, and_self, or_self, decide_true, decide_false, Bool.not_true, Bool.not_false, Bool.false_eq_true, Nat.reduceEqDiff, Nat.reduceAdd, Int.reduceEq, Int.reduceLT, Int.reduceLE, Int.reduceNeg, Int.reduceAdd, Int.reduceSub, Int.reduceMul, reduceCtorEq, iA, iS, iM, iD, iR, iN, lA, lS, lM, lD, lR, h.k, h5, h.f.k, wM_of hc]
theorem c_stepLine (h : PS S u T x P 0) (hL : LPl S u P) (hxP : x + 3 < P) (ht : TR T v u) (hK : kdT v T 0 = 256) : wM mX5_stepLine [x] S u (fun r w => LnC u w T x v (stO v T) r ∧ stG x P u w ∧ ((stO v T).1 = 0 → w P 0 = nmT v T 1 ∧ 1 ≤ nmT v T 1 ∧ nmT v T 1 ≤ 60)) := by
  have h10 := h.2.2.2.2.2.2.2.2.2
  have hx1 := h.2.2.2.1
  have hx2 := h.2.2.2.2.1
  have hk := h.2.1.k
  have hq : Qx x (stG x P u) := fun w k z q hk a j q1 q2 => by
    rw [vu_ne (fun e => by have := q1 e.1; omega)]; exact q a j q1 q2
  have hM0 : Mi S u v T x P (stG x P u) u 0 := ⟨h, ht, ⟨rfl, rfl⟩, fun _ _ _ _ => rfl⟩
  obtain ⟨hM1, -⟩ := hM0.nx hq (by rw [hK]; decide)
  rw [show (0 : Int) + 1 = 1 from rfl] at hM1
  have hst : stO v T = stp (fKd v T 59) (stp (fNu v T 1 60) (0, 1)) := by
    unfold stO
    rw [stp_00 (φ := fKd v T 256) (j := 0) (if_pos hK)]
    rfl
  have e1 : w32 ((0 : Int) + 1) = 1 := w32_e (by omega)
  simp only [mX5_stepLine, sX5_stepLine, wE_I, wE_V, wE_F, wE_A, wE_N, wE_1, wE_2, wE_D, wE_B, wE_If, wE_C, wE_CV, wE_SL, wE_SA, wA_0, wA_1, wC_B, wC_E, wC_And, wC_Or, wC_Not, wS_Skip, wS_Brk, wS_Cnt, wS_RetV, wS_Ret, wS_Seq, wS_Set, wS_Inc, wS_Do, wS_Put, wS_PutC, wS_Arr, wS_ArrC, wS_If, wS_Sw, wS_F0, wS_F1, wM_q, lu_ap, aL_ap, ct_0, ct_1, ct_2, ct_3, ct_4, ct_5, headD_1, List.mem_cons, List.not_mem_nil, or_false, false_or, or_true, true_or, true_and, and_true, false_and, and_false, not_true_eq_false, not_false_eq_true, if_true, if_false, nr_20, nr_24, nr_40, nr_41, nr_44, pt_lt, pt_ge, pt_eq, pt_ne, pt_gt, pt_le, pt_E, pt_N, pt_F, ite_10, ite_11, ne_eq, and_self, or_self, decide_true, decide_false, Bool.not_true, Bool.not_false, Bool.false_eq_true, Nat.reduceEqDiff, Nat.reduceAdd, Int.reduceEq, Int.reduceLT, Int.reduceLE, Int.reduceNeg, Int.reduceAdd, Int.reduceSub, Int.reduceMul, reduceCtorEq, iA, iS, iM, iD, iR, iN, lA, lS, lM, lD, lR, hk, hx2, e1]
  clear e1
  refine wM_mono (hM1.num hq (lo := 1) (hi := 60)) ?_
  rintro r w1 e (⟨g1, rfl, hM2⟩ | ⟨g1, rfl, hb, hq1, -⟩)
  · obtain ⟨g2, g3, g4⟩ := fNu_0 g1
    have y1 : w1 x 1 = P := hM2.1.2.2.2.1
    have nn : ¬ nmT v T 1 = -1 := by omega
    have hM3 := hM2.put (a := P) (k := 0) (z := nmT v T 1) (Q' := fun w => stG x P u w ∧ w P 0 = nmT v T 1) (by omega) (by rw [hL.k]; rfl) (fun w q => ⟨fun a j q1 q2 => by rw [vu_ne (fun e => q2 e.1 e.2)]; exact q a j q1 q2, vu_is⟩)
    have hq3 : Qx x (fun w => stG x P u w ∧ w P 0 = nmT v T 1) := fun w k z q hk => ⟨hq _ _ _ q.1 hk, by rw [vu_ne (by omega)]; exact q.2⟩
    simp only [nn, hk, hL.k, y1, wE_I, wE_V, wE_F, wE_A, wE_N, wE_1, wE_2, wE_D, wE_B, wE_If, wE_C, wE_CV, wE_SL, wE_SA, wA_0, wA_1, wC_B, wC_E, wC_And, wC_Or, wC_Not, wS_Skip, wS_Brk, wS_Cnt, wS_RetV, wS_Ret, wS_Seq, wS_Set, wS_Inc, wS_Do, wS_Put, wS_PutC, wS_Arr, wS_ArrC, wS_If, wS_Sw, wS_F0, wS_F1, wM_q, lu_ap, aL_ap, ct_0, ct_1, ct_2, ct_3, ct_4, ct_5, headD_1, List.mem_cons, List.not_mem_nil, or_false, false_or, or_true, true_or, true_and, and_true, false_and, and_false, not_true_eq_false, not_false_eq_true, if_true, if_false, nr_20, nr_24, nr_40, nr_41, nr_44, pt_lt, pt_ge, pt_eq, pt_ne, pt_gt, pt_le, pt_E, pt_N, pt_F, ite_10, ite_11, ne_eq, and_self, or_self, decide_true, decide_false, Bool.not_true, Bool.not_false, Bool.false_eq_true, Nat.reduceEqDiff, Nat.reduceAdd, Int.reduceEq, Int.reduceLT, Int.reduceLE, Int.reduceNeg, Int.reduceAdd, Int.reduceSub, Int.reduceMul, reduceCtorEq]
    refine wM_mono (hM3.tak hq3 (k := 59) (by decide)) ?_
    rintro r w2 e2 (⟨g5, rfl, hM4⟩ | ⟨g5, rfl, hb, hq4⟩)
    · have hs : stO v T = (0, 3) := by
        rw [hst, stp_00 g1, stp_00 g5]; rfl
      rw [hs]
      exact ⟨Or.inl ⟨rfl, rfl, hM4.tok, hM4.2.2.1.1, hM4.2.2.1.2⟩, hM4.2.2.2.1, fun _ => ⟨hM4.2.2.2.2, g3, g4⟩⟩
    · have hs : stO v T = (fKd v T 59 2, 2) := by
        rw [hst, stp_00 g1, stp_0f g5]; rfl
      rw [hs]
      exact ⟨hb, hq4.1, fun z => absurd z g5⟩
  · have hs : stO v T = (fNu v T 1 60 1, 1) := by
      rw [hst, stp_0f g1, stp_ff g1]
    simp only [wE_I, wE_V, wE_F, wE_A, wE_N, wE_1, wE_2, wE_D, wE_B, wE_If, wE_C, wE_CV, wE_SL, wE_SA, wA_0, wA_1, wC_B, wC_E, wC_And, wC_Or, wC_Not, wS_Skip, wS_Brk, wS_Cnt, wS_RetV, wS_Ret, wS_Seq, wS_Set, wS_Inc, wS_Do, wS_Put, wS_PutC, wS_Arr, wS_ArrC, wS_If, wS_Sw, wS_F0, wS_F1, wM_q, lu_ap, aL_ap, ct_0, ct_1, ct_2, ct_3, ct_4, ct_5, headD_1, List.mem_cons, List.not_mem_nil, or_false, false_or, or_true, true_or, true_and, and_true, false_and, and_false, not_true_eq_false, not_false_eq_true, if_true, if_false, nr_20, nr_24, nr_40, nr_41, nr_44, pt_lt, pt_ge, pt_eq, pt_ne, pt_gt, pt_le, pt_E, pt_N, pt_F, ite_10, ite_11, ne_eq, and_self, or_self, decide_true, decide_false, Bool.not_true, Bool.not_false, Bool.false_eq_true, Nat.reduceEqDiff, Nat.reduceAdd, Int.reduceEq, Int.reduceLT, Int.reduceLE, Int.reduceNeg, Int.reduceAdd, Int.reduceSub, Int.reduceMul, reduceCtorEq]
    rw [hs]
    exact ⟨hb, hq1, fun z => absurd z g1⟩
theorem c_parse (hT : LTp S v T) (hX : LPs S v x) (hL : LPl S v P) (hK : TK v T) (hn : 0 ≤ v T 1 ∧ v T 1 ≤ 1000) (hby : ∀ k, 0 ≤ k → k < v T 1 → 0 ≤ v (T + 1) k ∧ v (T + 1) k ≤ 255) (h10 : T + 5 = x) (hxP : x + 3 < P) : wM mX5_parse [x, T, P] S v (fun r w => ∃ o, Pa S v T x P w o ∧ (Kc S v w ∧ FrP x P v w) ∧ LE v T x w o r) := by
  simp only [mX5_parse, sX5_parse, wM_q]
  generalize hLL : aL 0 [2, 2, 2] [x, T, P] = L
  have m0 : L 0 = x := by rw [← hLL]; simp [lu_ap, aL_ap, ct_0, ct_1, ct_2]
  have m1 : L 1 = T := by rw [← hLL]; simp [lu_ap, aL_ap, ct_0, ct_1, ct_2]
  have m2 : L 2 = P := by rw [← hLL]; simp [lu_ap, aL_ap, ct_0, ct_1, ct_2]
  clear hLL
  refine ws_step (L' := L) (w := vu v x 0 T) (by simp only [wE_I, wE_V, wE_F, wE_A, wE_N, wE_1, wE_2, wE_D, wE_B, wE_If, wE_C, wE_CV, wE_SL, wE_SA, wA_0, wA_1, wC_B, wC_E, wC_And, wC_Or, wC_Not, wS_Skip, wS_Brk, wS_Cnt, wS_RetV, wS_Ret, wS_Seq, wS_Set, wS_Inc, wS_Do, wS_Put, wS_PutC, wS_Arr, wS_ArrC, wS_If, wS_Sw, wS_F0, wS_F1, wM_q, lu_ap, aL_ap, ct_0, ct_1, ct_2, ct_3, ct_4, ct_5, headD_1, List.mem_cons, List.not_mem_nil, or_false, false_or, or_true, true_or, true_and, and_true, false_and, and_false, not_true_eq_false, not_false_eq_true, if_true, if_false, nr_20, nr_24, nr_40, nr_41, nr_44, pt_lt, pt_ge, pt_eq, pt_ne, pt_gt, pt_le, pt_E, pt_N, pt_F, ite_10, ite_11, ne_eq, and_self, or_self, decide_true, decide_false, Bool.not_true, Bool.not_false, Bool.false_eq_true, Nat.reduceEqDiff, Nat.reduceAdd, Int.reduceEq, Int.reduceLT, Int.reduceLE, Int.reduceNeg, Int.reduceAdd, Int.reduceSub, Int.reduceMul, reduceCtorEq, iA, iS, iM, iD, iR, iN, lA, lS, lM, lD, lR, m0, m1, hX.k]) ?_
  refine ws_step (L' := L) (w := vu (vu v x 0 T) x 1 P) (by simp only [wE_I, wE_V, wE_F, wE_A, wE_N, wE_1, wE_2, wE_D, wE_B, wE_If, wE_C, wE_CV, wE_SL, wE_SA, wA_0, wA_1, wC_B, wC_E, wC_And, wC_Or, wC_Not, wS_Skip, wS_Brk, wS_Cnt, wS_RetV, wS_Ret, wS_Seq, wS_Set, wS_Inc, wS_Do, wS_Put, wS_PutC, wS_Arr, wS_ArrC, wS_If, wS_Sw, wS_F0, wS_F1, wM_q, lu_ap, aL_ap, ct_0, ct_1, ct_2, ct_3, ct_4, ct_5, headD_1, List.mem_cons, List.not_mem_nil, or_false, false_or, or_true, true_or, true_and, and_true, false_and, and_false, not_true_eq_false, not_false_eq_true, if_true, if_false, nr_20, nr_24, nr_40, nr_41, nr_44, pt_lt, pt_ge, pt_eq, pt_ne, pt_gt, pt_le, pt_E, pt_N, pt_F, ite_10, ite_11, ne_eq, and_self, or_self, decide_true, decide_false, Bool.not_true, Bool.not_false, Bool.false_eq_true, Nat.reduceEqDiff, Nat.reduceAdd, Int.reduceEq, Int.reduceLT, Int.reduceLE, Int.reduceNeg, Int.reduceAdd, Int.reduceSub, Int.reduceMul, reduceCtorEq, iA, iS, iM, iD, iR, iN, lA, lS, lM, lD, lR, m0, m2, hX.k]) ?_
  have y1 : (vu (vu v x 0 T) x 1 P) x 1 = P := vu_is
  have k2 : Kc S v (vu (vu v x 0 T) x 1 P) := (Kc.rf.vu (by rw [hX.k]; rfl)).vu (by rw [hX.k]; rfl)
  have hc := q_clear6 (hL.keep k2.p)
  have kc := k2.tr (Kc.of kX6_clear hc)
  refine ws_step (L' := L) (w := vu (vu (vu (vu (vu (vu (vu (vu v x 0 T) x 1 P) P 0 1) P 1 0) P 2 0) (P + 3) 0 0) (P + 3) 1 0) (P + 3) 2 0) (by simp only [wE_I, wE_V, wE_F, wE_A, wE_N, wE_1, wE_2, wE_D, wE_B, wE_If, wE_C, wE_CV, wE_SL, wE_SA, wA_0, wA_1, wC_B, wC_E, wC_And, wC_Or, wC_Not, wS_Skip, wS_Brk, wS_Cnt, wS_RetV, wS_Ret, wS_Seq, wS_Set, wS_Inc, wS_Do, wS_Put, wS_PutC, wS_Arr, wS_ArrC, wS_If, wS_Sw, wS_F0, wS_F1, wM_q, lu_ap, aL_ap, ct_0, ct_1, ct_2, ct_3, ct_4, ct_5, headD_1, List.mem_cons, List.not_mem_nil, or_false, false_or, or_true, true_or, true_and, and_true, false_and, and_false, not_true_eq_false, not_false_eq_true, if_true, if_false, nr_20, nr_24, nr_40, nr_41, nr_44, pt_lt, pt_ge, pt_eq, pt_ne, pt_gt, pt_le, pt_E, pt_N, pt_F, ite_10, ite_11, ne_eq, and_self, or_self, decide_true, decide_false, Bool.not_true, Bool.not_false, Bool.false_eq_true, Nat.reduceEqDiff, Nat.reduceAdd, Int.reduceEq, Int.reduceLT, Int.reduceLE, Int.reduceNeg, Int.reduceAdd, Int.reduceSub, Int.reduceMul, reduceCtorEq, iA, iS, iM, iD, iR, iN, lA, lS, lM, lD, lR, m0, hX.k, y1, hL.k, wM_of hc]) ?_
  have z0 : ∀ k, k ≠ 0 → k ≠ 1 → (vu (vu (vu (vu (vu (vu (vu (vu v x 0 T) x 1 P) P 0 1) P 1 0) P 2 0) (P + 3) 0 0) (P + 3) 1 0) (P + 3) 2 0) x k = v x k := fun k q1 q2 => by rw [vu_ne (by omega), vu_ne (by omega), vu_ne (by omega), vu_ne (by omega), vu_ne (by omega), vu_ne (by omega), vu_ne (by omega), vu_ne (by omega)]
  have zx : (vu (vu (vu (vu (vu (vu (vu (vu v x 0 T) x 1 P) P 0 1) P 1 0) P 2 0) (P + 3) 0 0) (P + 3) 1 0) (P + 3) 2 0) x 0 = T ∧ (vu (vu (vu (vu (vu (vu (vu (vu v x 0 T) x 1 P) P 0 1) P 1 0) P 2 0) (P + 3) 0 0) (P + 3) 1 0) (P + 3) 2 0) x 1 = P := ⟨by rw [vu_ne (by omega), vu_ne (by omega), vu_ne (by omega), vu_ne (by omega), vu_ne (by omega), vu_ne (by omega), vu_ne (by simp), vu_is], by rw [vu_ne (by omega), vu_ne (by omega), vu_ne (by omega), vu_ne (by omega), vu_ne (by omega), vu_ne (by omega), vu_is]⟩
  have zp : ((vu (vu (vu (vu (vu (vu (vu (vu v x 0 T) x 1 P) P 0 1) P 1 0) P 2 0) (P + 3) 0 0) (P + 3) 1 0) (P + 3) 2 0) P 0 = 1 ∧ (vu (vu (vu (vu (vu (vu (vu (vu v x 0 T) x 1 P) P 0 1) P 1 0) P 2 0) (P + 3) 0 0) (P + 3) 1 0) (P + 3) 2 0) P 1 = 0 ∧ (vu (vu (vu (vu (vu (vu (vu (vu v x 0 T) x 1 P) P 0 1) P 1 0) P 2 0) (P + 3) 0 0) (P + 3) 1 0) (P + 3) 2 0) P 2 = 0) ∧ ((vu (vu (vu (vu (vu (vu (vu (vu v x 0 T) x 1 P) P 0 1) P 1 0) P 2 0) (P + 3) 0 0) (P + 3) 1 0) (P + 3) 2 0) (P + 3) 0 = 0 ∧ (vu (vu (vu (vu (vu (vu (vu (vu v x 0 T) x 1 P) P 0 1) P 1 0) P 2 0) (P + 3) 0 0) (P + 3) 1 0) (P + 3) 2 0) (P + 3) 1 = 0 ∧ (vu (vu (vu (vu (vu (vu (vu (vu v x 0 T) x 1 P) P 0 1) P 1 0) P 2 0) (P + 3) 0 0) (P + 3) 1 0) (P + 3) 2 0) (P + 3) 2 = 0) := by
    refine ⟨⟨?_, ?_, ?_⟩, ?_, ?_, ?_⟩
    · rw [vu_ne (by omega), vu_ne (by omega), vu_ne (by omega), vu_ne (by simp), vu_ne (by simp), vu_is]
    · rw [vu_ne (by omega), vu_ne (by omega), vu_ne (by omega), vu_ne (by simp), vu_is]
    · rw [vu_ne (by omega), vu_ne (by omega), vu_ne (by omega), vu_is]
    · rw [vu_ne (by simp), vu_ne (by simp), vu_is]
    · rw [vu_ne (by simp), vu_is]
    · exact vu_is
  have zf : FrP x P v (vu (vu (vu (vu (vu (vu (vu (vu v x 0 T) x 1 P) P 0 1) P 1 0) P 2 0) (P + 3) 0 0) (P + 3) 1 0) (P + 3) 2 0) := fun a k q1 q2 => by rw [vu_ne (by omega), vu_ne (by omega), vu_ne (by omega), vu_ne (by omega), vu_ne (by omega), vu_ne (by omega), vu_ne (by omega), vu_ne (by omega)]
  clear hc
  generalize vu (vu (vu (vu (vu (vu (vu (vu v x 0 T) x 1 P) P 0 1) P 1 0) P 2 0) (P + 3) 0 0) (P + 3) 1 0) (P + 3) 2 0 = w1 at *
  refine ws_step (L' := L) (w := vu w1 x 2 0) (by simp only [wE_I, wE_V, wE_F, wE_A, wE_N, wE_1, wE_2, wE_D, wE_B, wE_If, wE_C, wE_CV, wE_SL, wE_SA, wA_0, wA_1, wC_B, wC_E, wC_And, wC_Or, wC_Not, wS_Skip, wS_Brk, wS_Cnt, wS_RetV, wS_Ret, wS_Seq, wS_Set, wS_Inc, wS_Do, wS_Put, wS_PutC, wS_Arr, wS_ArrC, wS_If, wS_Sw, wS_F0, wS_F1, wM_q, lu_ap, aL_ap, ct_0, ct_1, ct_2, ct_3, ct_4, ct_5, headD_1, List.mem_cons, List.not_mem_nil, or_false, false_or, or_true, true_or, true_and, and_true, false_and, and_false, not_true_eq_false, not_false_eq_true, if_true, if_false, nr_20, nr_24, nr_40, nr_41, nr_44, pt_lt, pt_ge, pt_eq, pt_ne, pt_gt, pt_le, pt_E, pt_N, pt_F, ite_10, ite_11, ne_eq, and_self, or_self, decide_true, decide_false, Bool.not_true, Bool.not_false, Bool.false_eq_true, Nat.reduceEqDiff, Nat.reduceAdd, Int.reduceEq, Int.reduceLT, Int.reduceLE, Int.reduceNeg, Int.reduceAdd, Int.reduceSub, Int.reduceMul, reduceCtorEq, iA, iS, iM, iD, iR, iN, lA, lS, lM, lD, lR, m0, hX.k]) ?_
  refine ws_step (L' := L) (w := vu (vu w1 x 2 0) x 7 0) (by simp only [wE_I, wE_V, wE_F, wE_A, wE_N, wE_1, wE_2, wE_D, wE_B, wE_If, wE_C, wE_CV, wE_SL, wE_SA, wA_0, wA_1, wC_B, wC_E, wC_And, wC_Or, wC_Not, wS_Skip, wS_Brk, wS_Cnt, wS_RetV, wS_Ret, wS_Seq, wS_Set, wS_Inc, wS_Do, wS_Put, wS_PutC, wS_Arr, wS_ArrC, wS_If, wS_Sw, wS_F0, wS_F1, wM_q, lu_ap, aL_ap, ct_0, ct_1, ct_2, ct_3, ct_4, ct_5, headD_1, List.mem_cons, List.not_mem_nil, or_false, false_or, or_true, true_or, true_and, and_true, false_and, and_false, not_true_eq_false, not_false_eq_true, if_true, if_false, nr_20, nr_24, nr_40, nr_41, nr_44, pt_lt, pt_ge, pt_eq, pt_ne, pt_gt, pt_le, pt_E, pt_N, pt_F, ite_10, ite_11, ne_eq, and_self, or_self, decide_true, decide_false, Bool.not_true, Bool.not_false, Bool.false_eq_true, Nat.reduceEqDiff, Nat.reduceAdd, Int.reduceEq, Int.reduceLT, Int.reduceLE, Int.reduceNeg, Int.reduceAdd, Int.reduceSub, Int.reduceMul, reduceCtorEq, iA, iS, iM, iD, iR, iN, lA, lS, lM, lD, lR, m0, hX.k]) ?_
  refine ws_step (L' := L) (w := vu (vu (vu w1 x 2 0) x 7 0) x 3 0) (by simp only [wE_I, wE_V, wE_F, wE_A, wE_N, wE_1, wE_2, wE_D, wE_B, wE_If, wE_C, wE_CV, wE_SL, wE_SA, wA_0, wA_1, wC_B, wC_E, wC_And, wC_Or, wC_Not, wS_Skip, wS_Brk, wS_Cnt, wS_RetV, wS_Ret, wS_Seq, wS_Set, wS_Inc, wS_Do, wS_Put, wS_PutC, wS_Arr, wS_ArrC, wS_If, wS_Sw, wS_F0, wS_F1, wM_q, lu_ap, aL_ap, ct_0, ct_1, ct_2, ct_3, ct_4, ct_5, headD_1, List.mem_cons, List.not_mem_nil, or_false, false_or, or_true, true_or, true_and, and_true, false_and, and_false, not_true_eq_false, not_false_eq_true, if_true, if_false, nr_20, nr_24, nr_40, nr_41, nr_44, pt_lt, pt_ge, pt_eq, pt_ne, pt_gt, pt_le, pt_E, pt_N, pt_F, ite_10, ite_11, ne_eq, and_self, or_self, decide_true, decide_false, Bool.not_true, Bool.not_false, Bool.false_eq_true, Nat.reduceEqDiff, Nat.reduceAdd, Int.reduceEq, Int.reduceLT, Int.reduceLE, Int.reduceNeg, Int.reduceAdd, Int.reduceSub, Int.reduceMul, reduceCtorEq, iA, iS, iM, iD, iR, iN, lA, lS, lM, lD, lR, m0, hX.k]) ?_
  refine ws_step (L' := L) (w := vu (vu (vu (vu w1 x 2 0) x 7 0) x 3 0) x 4 (-1)) (by simp only [wE_I, wE_V, wE_F, wE_A, wE_N, wE_1, wE_2, wE_D, wE_B, wE_If, wE_C, wE_CV, wE_SL, wE_SA, wA_0, wA_1, wC_B, wC_E, wC_And, wC_Or, wC_Not, wS_Skip, wS_Brk, wS_Cnt, wS_RetV, wS_Ret, wS_Seq, wS_Set, wS_Inc, wS_Do, wS_Put, wS_PutC, wS_Arr, wS_ArrC, wS_If, wS_Sw, wS_F0, wS_F1, wM_q, lu_ap, aL_ap, ct_0, ct_1, ct_2, ct_3, ct_4, ct_5, headD_1, List.mem_cons, List.not_mem_nil, or_false, false_or, or_true, true_or, true_and, and_true, false_and, and_false, not_true_eq_false, not_false_eq_true, if_true, if_false, nr_20, nr_24, nr_40, nr_41, nr_44, pt_lt, pt_ge, pt_eq, pt_ne, pt_gt, pt_le, pt_E, pt_N, pt_F, ite_10, ite_11, ne_eq, and_self, or_self, decide_true, decide_false, Bool.not_true, Bool.not_false, Bool.false_eq_true, Nat.reduceEqDiff, Nat.reduceAdd, Int.reduceEq, Int.reduceLT, Int.reduceLE, Int.reduceNeg, Int.reduceAdd, Int.reduceSub, Int.reduceMul, reduceCtorEq, iA, iS, iM, iD, iR, iN, lA, lS, lM, lD, lR, m0, hX.k]) ?_
  have kd : Kc S v (vu (vu (vu (vu w1 x 2 0) x 7 0) x 3 0) x 4 (-1)) := (((kc.vu (by rw [hX.k]; rfl)).vu (by rw [hX.k]; rfl)).vu (by rw [hX.k]; rfl)).vu (by rw [hX.k]; rfl)
  have wxx : ((vu (vu (vu (vu w1 x 2 0) x 7 0) x 3 0) x 4 (-1)) x 0 = T ∧ (vu (vu (vu (vu w1 x 2 0) x 7 0) x 3 0) x 4 (-1)) x 1 = P ∧ (vu (vu (vu (vu w1 x 2 0) x 7 0) x 3 0) x 4 (-1)) x 2 = 0) ∧ (vu (vu (vu (vu w1 x 2 0) x 7 0) x 3 0) x 4 (-1)) x 7 = 0 ∧ (vu (vu (vu (vu w1 x 2 0) x 7 0) x 3 0) x 4 (-1)) x 3 = 0 ∧ (vu (vu (vu (vu w1 x 2 0) x 7 0) x 3 0) x 4 (-1)) x 4 = -1 := by
    refine ⟨⟨?_, ?_, ?_⟩, ?_, ?_, vu_is⟩
    · rw [vu_ne (by simp), vu_ne (by simp), vu_ne (by simp), vu_ne (by simp)]; exact zx.1
    · rw [vu_ne (by simp), vu_ne (by simp), vu_ne (by simp), vu_ne (by simp)]; exact zx.2
    · rw [vu_ne (by simp), vu_ne (by simp), vu_ne (by simp), vu_is]
    · rw [vu_ne (by simp), vu_ne (by simp), vu_is]
    · rw [vu_ne (by simp), vu_is]
  have wo : ∀ a k, a ≠ x → (vu (vu (vu (vu w1 x 2 0) x 7 0) x 3 0) x 4 (-1)) a k = w1 a k := fun a k q => by rw [vu_ne (by omega), vu_ne (by omega), vu_ne (by omega), vu_ne (by omega)]
  generalize vu (vu (vu (vu w1 x 2 0) x 7 0) x 3 0) x 4 (-1) = w2 at *
  obtain ⟨⟨x0, x1, x2⟩, x7, x3, x4⟩ := wxx
  have hfr : FrP x P v w2 := zf.tr (fun a k q1 q2 => wo a k (by omega))
  have hTR : TR T v w2 := fun a k q1 q2 => hfr a k (by omega) (by omega)
  have hclr : ∀ w, stG x P w2 w → w P 0 = w P 0 ∧ Clr x P (w P 0) w := fun w hs => by
    refine ⟨rfl, ⟨rfl, ?_, ?_⟩, ⟨?_, ?_, ?_⟩, ?_⟩
    · rw [hs _ _ (by omega) (by omega), wo _ _ (by omega)]; exact zp.1.2.1
    · rw [hs _ _ (by omega) (by omega), wo _ _ (by omega)]; exact zp.1.2.2
    · rw [hs _ _ (by omega) (by omega), wo _ _ (by omega)]; exact zp.2.1
    · rw [hs _ _ (by omega) (by omega), wo _ _ (by omega)]; exact zp.2.2.1
    · rw [hs _ _ (by omega) (by omega), wo _ _ (by omega)]; exact zp.2.2.2
    · rw [hs _ _ (by omega) (by omega)]; exact x7
  have hPS : PS S w2 T x P 0 := ⟨hT.keep kd.p, hX.keep kd.p, x0, x1, x2, ⟨Int.le_refl _, by rw [nt_q hTR]; have := hK.1; omega⟩, TK_q hTR hK, by rw [hTR T 1 (by omega) (by omega)]; exact hn, fun k k0 k1 => by
    rw [hTR T 1 (by omega) (by omega)] at k1
    rw [hTR _ _ (by omega) (by omega)]
    exact hby k k0 k1, h10⟩
  have hL2 := hL.keep kd.p
  have hkd := q_kind hPS
  rw [kd_q hTR] at hkd
  by_cases c1 : kdT v T 0 = 1
  · rw [c1] at hkd
    simp only [wE_I, wE_V, wE_F, wE_A, wE_N, wE_1, wE_2, wE_D, wE_B, wE_If, wE_C, wE_CV, wE_SL, wE_SA, wA_0, wA_1, wC_B, wC_E, wC_And, wC_Or, wC_Not, wS_Skip, wS_Brk, wS_Cnt, wS_RetV, wS_Ret, wS_Seq, wS_Set, wS_Inc, wS_Do, wS_Put, wS_PutC, wS_Arr, wS_ArrC, wS_If, wS_Sw, wS_F0, wS_F1, wM_q, lu_ap, aL_ap, ct_0, ct_1, ct_2, ct_3, ct_4, ct_5, headD_1, List.mem_cons, List.not_mem_nil, or_false, false_or, or_true, true_or, true_and, and_true, false_and, and_false, not_true_eq_false, not_false_eq_true, if_true, if_false, nr_20, nr_24, nr_40, nr_41, nr_44, pt_lt, pt_ge, pt_eq, pt_ne, pt_gt, pt_le, pt_E, pt_N, pt_F, ite_10, ite_11, ne_eq, and_self, or_self, decide_true, decide_false, Bool.not_true, Bool.not_false, Bool.false_eq_true, Nat.reduceEqDiff, Nat.reduceAdd, Int.reduceEq, Int.reduceLT, Int.reduceLE, Int.reduceNeg, Int.reduceAdd, Int.reduceSub, Int.reduceMul, reduceCtorEq, iA, iS, iM, iD, iR, iN, lA, lS, lM, lD, lR, m0, hX.k, wM_of hkd]
    have hp1 : w2 P 0 = 1 := by rw [wo _ _ (by omega)]; exact zp.1.1
    have hcl := (hclr w2 (fun _ _ _ _ => rfl)).2
    rw [hp1] at hcl
    exact ⟨(0, 0), Or.inl ⟨c1, rfl, hcl⟩, ⟨kd, hfr⟩, Or.inl ⟨rfl, rfl, x3, x4⟩⟩
  · refine ws_step (L' := L) (w := w2) (by simp only [wE_I, wE_V, wE_F, wE_A, wE_N, wE_1, wE_2, wE_D, wE_B, wE_If, wE_C, wE_CV, wE_SL, wE_SA, wA_0, wA_1, wC_B, wC_E, wC_And, wC_Or, wC_Not, wS_Skip, wS_Brk, wS_Cnt, wS_RetV, wS_Ret, wS_Seq, wS_Set, wS_Inc, wS_Do, wS_Put, wS_PutC, wS_Arr, wS_ArrC, wS_If, wS_Sw, wS_F0, wS_F1, wM_q, lu_ap, aL_ap, ct_0, ct_1, ct_2, ct_3, ct_4, ct_5, headD_1, List.mem_cons, List.not_mem_nil, or_false, false_or, or_true, true_or, true_and, and_true, false_and, and_false, not_true_eq_false, not_false_eq_true, if_true, if_false, nr_20, nr_24, nr_40, nr_41, nr_44, pt_lt, pt_ge, pt_eq, pt_ne, pt_gt, pt_le, pt_E, pt_N, pt_F, ite_10, ite_11, ne_eq, and_self, or_self, decide_true, decide_false, Bool.not_true, Bool.not_false, Bool.false_eq_true, Nat.reduceEqDiff, Nat.reduceAdd, Int.reduceEq, Int.reduceLT, Int.reduceLE, Int.reduceNeg, Int.reduceAdd, Int.reduceSub, Int.reduceMul, reduceCtorEq, iA, iS, iM, iD, iR, iN, lA, lS, lM, lD, lR, m0, hX.k, wM_of hkd, c1]) ?_
    by_cases c2 : kdT v T 0 = 256
    · rw [c2] at hkd
      refine ws_step (L' := L) (w := w2) (by simp only [wE_I, wE_V, wE_F, wE_A, wE_N, wE_1, wE_2, wE_D, wE_B, wE_If, wE_C, wE_CV, wE_SL, wE_SA, wA_0, wA_1, wC_B, wC_E, wC_And, wC_Or, wC_Not, wS_Skip, wS_Brk, wS_Cnt, wS_RetV, wS_Ret, wS_Seq, wS_Set, wS_Inc, wS_Do, wS_Put, wS_PutC, wS_Arr, wS_ArrC, wS_If, wS_Sw, wS_F0, wS_F1, wM_q, lu_ap, aL_ap, ct_0, ct_1, ct_2, ct_3, ct_4, ct_5, headD_1, List.mem_cons, List.not_mem_nil, or_false, false_or, or_true, true_or, true_and, and_true, false_and, and_false, not_true_eq_false, not_false_eq_true, if_true, if_false, nr_20, nr_24, nr_40, nr_41, nr_44, pt_lt, pt_ge, pt_eq, pt_ne, pt_gt, pt_le, pt_E, pt_N, pt_F, ite_10, ite_11, ne_eq, and_self, or_self, decide_true, decide_false, Bool.not_true, Bool.not_false, Bool.false_eq_true, Nat.reduceEqDiff, Nat.reduceAdd, Int.reduceEq, Int.reduceLT, Int.reduceLE, Int.reduceNeg, Int.reduceAdd, Int.reduceSub, Int.reduceMul, reduceCtorEq, iA, iS, iM, iD, iR, iN, lA, lS, lM, lD, lR, m0, hX.k, wM_of hkd]) ?_
      rw [wS_Seq]
      refine wS_mono (Q' := fun k _ L' w => k = 0 ∧ L' 0 = x ∧ LnC w2 w T x v (stO v T) (L' 3) ∧ stG x P w2 w ∧ ((stO v T).1 = 0 → w P 0 = nmT v T 1 ∧ 1 ≤ nmT v T 1 ∧ nmT v T 1 ≤ 60) ∧ Kc S w2 w) ?_ ?_
      · simp only [wE_I, wE_V, wE_F, wE_A, wE_N, wE_1, wE_2, wE_D, wE_B, wE_If, wE_C, wE_CV, wE_SL, wE_SA, wA_0, wA_1, wC_B, wC_E, wC_And, wC_Or, wC_Not, wS_Skip, wS_Brk, wS_Cnt, wS_RetV, wS_Ret, wS_Seq, wS_Set, wS_Inc, wS_Do, wS_Put, wS_PutC, wS_Arr, wS_ArrC, wS_If, wS_Sw, wS_F0, wS_F1, wM_q, lu_ap, aL_ap, ct_0, ct_1, ct_2, ct_3, ct_4, ct_5, headD_1, List.mem_cons, List.not_mem_nil, or_false, false_or, or_true, true_or, true_and, and_true, false_and, and_false, not_true_eq_false, not_false_eq_true, if_true, if_false, nr_20, nr_24, nr_40, nr_41, nr_44, pt_lt, pt_ge, pt_eq, pt_ne, pt_gt, pt_le, pt_E, pt_N, pt_F, ite_10, ite_11, ne_eq, and_self, or_self, decide_true, decide_false, Bool.not_true, Bool.not_false, Bool.false_eq_true, Nat.reduceEqDiff, Nat.reduceAdd, Int.reduceEq, Int.reduceLT, Int.reduceLE, Int.reduceNeg, Int.reduceAdd, Int.reduceSub, Int.reduceMul, reduceCtorEq, iA, iS, iM, iD, iR, iN, lA, lS, lM, lD, lR, m0, hX.k]
        refine wM_mono (c_stepLine hPS hL2 hxP hTR c2) ?_
        rintro r w3 e ⟨g1, g2, g3⟩
        exact ⟨g1, g2, g3, Kc.of kX5_stepLine e⟩
      rintro k y L1 w3 ⟨rfl, l0, g1, g2, g3, g4⟩
      rw [if_pos rfl]
      have hfr3 : FrP x P v w3 := hfr.tr (fun a k q1 q2 => g2 a k (by omega) (by omega))
      have k3 := kd.tr g4
      rw [wS_Seq]
      refine wS_mono (Q' := fun k _ L' w => k = 0 ∧ ∃ o, Pa S v T x P w o ∧ (Kc S v w ∧ FrP x P v w) ∧ LE v T x w o (L' 3)) ?_ ?_
      · refine ws_step (L' := lu L1 4 0) (w := w3) (by simp only [wE_I, wE_V, wE_F, wE_A, wE_N, wE_1, wE_2, wE_D, wE_B, wE_If, wE_C, wE_CV, wE_SL, wE_SA, wA_0, wA_1, wC_B, wC_E, wC_And, wC_Or, wC_Not, wS_Skip, wS_Brk, wS_Cnt, wS_RetV, wS_Ret, wS_Seq, wS_Set, wS_Inc, wS_Do, wS_Put, wS_PutC, wS_Arr, wS_ArrC, wS_If, wS_Sw, wS_F0, wS_F1, wM_q, lu_ap, aL_ap, ct_0, ct_1, ct_2, ct_3, ct_4, ct_5, headD_1, List.mem_cons, List.not_mem_nil, or_false, false_or, or_true, true_or, true_and, and_true, false_and, and_false, not_true_eq_false, not_false_eq_true, if_true, if_false, nr_20, nr_24, nr_40, nr_41, nr_44, pt_lt, pt_ge, pt_eq, pt_ne, pt_gt, pt_le, pt_E, pt_N, pt_F, ite_10, ite_11, ne_eq, and_self, or_self, decide_true, decide_false, Bool.not_true, Bool.not_false, Bool.false_eq_true, Nat.reduceEqDiff, Nat.reduceAdd, Int.reduceEq, Int.reduceLT, Int.reduceLE, Int.reduceNeg, Int.reduceAdd, Int.reduceSub, Int.reduceMul, reduceCtorEq, iA, iS, iM, iD, iR, iN, lA, lS, lM, lD, lR]) ?_
        have n0 : lu L1 4 0 0 = x := by simp [lu_ap, l0]
        have n3 : lu L1 4 0 3 = L1 3 := by simp [lu_ap]
        have n4 : lu L1 4 0 4 = 0 := by simp [lu_ap]
        rw [← n3] at g1
        generalize lu L1 4 0 = L2 at *
        rcases g1 with ⟨z, hr, a2, a3, a4⟩ | ⟨z, hr, a3, a4⟩
        · obtain ⟨hp0, hb⟩ := g3 z
          have hs3 : stO v T = (0, 3) := by
            obtain ⟨q1, q2, q3⟩ := stp_i z
            obtain ⟨r1, r2, r3⟩ := stp_i q1
            obtain ⟨s1, s2, s3⟩ := stp_i r1
            refine pair_e z ?_
            unfold stO
            rw [q3, r3, s3]
            rfl
          have hcl := (hclr w3 g2).2
          rw [hp0] at hcl
          rw [hs3] at a2
          have hT3 : TR T w2 w3 := fun a k q1 q2 => g2 a k (by omega) (by omega)
          have hend : kdT v T (nTk v T - 1) = 1 := hK.2.1.1
          have hg : Gd v T 0 (stO v T) := by
            have z0 : Gd v T 0 (0, 0) := fun _ => ⟨Int.le_refl _, by show (0 : Int) < nTk v T; have := hK.1; omega⟩
            unfold stO
            exact (((z0.st hend (nz1_k (by decide))).st hend nz1_n).st hend (nz1_k (by decide))).le (by omega)
          have h35 := (hg z).2
          rw [hs3] at h35
          dsimp only at h35
          have hPS3 : PS S w3 T x P 3 := hPS.mv g4.p hT3 (g2 _ _ (by omega) (by omega)) (g2 _ _ (by omega) (by omega)) a2 (by rw [nt_q hTR]; omega)
          have hL3 := hL2.keep g4.p
          have hCl : Cl S v T x P w3 3 := by
            obtain ⟨⟨p0, p1, p2⟩, ⟨f0, f1, f2⟩, p7⟩ := hcl
            refine ⟨⟨hPS3, hL3, hTR.tr hT3, hxP⟩, ⟨by omega, fun j j0 j1 => by omega⟩, ⟨by omega, by omega, by omega⟩, ⟨by omega, fun j j0 j1 => by omega⟩, ⟨by omega, by omega⟩, hL3.f, rfl, fun k k0 k1 => by omega⟩
          refine wS_mono (c_lines hCl (a3.trans x3) (a4.trans x4) (Int.le_refl _) n0 hr n4) ?_
          rintro k y L3 w4 ⟨rfl, ⟨q1, q2⟩, N, o, q3, q4⟩
          exact ⟨rfl, o, Or.inr (Or.inr ⟨c1, hs3, w3, N, hcl, hb, hCl, q3⟩), ⟨k3.tr q1, hfr3.tr q2⟩, q4⟩
        · have hz : ¬ (stO v T).1 = 0 := by omega
          refine wS_While (fun k L' w' => L' = L2 ∧ w' = w3) 0 (by decide) ⟨rfl, rfl⟩ ?_
          rintro k L' w' ⟨rfl, rfl⟩
          have lt : (0 : Int) < 1000 := by decide
          simp only [cX5_parse_1, wE_I, wE_V, wE_F, wE_A, wE_N, wE_1, wE_2, wE_D, wE_B, wE_If, wE_C, wE_CV, wE_SL, wE_SA, wA_0, wA_1, wC_B, wC_E, wC_And, wC_Or, wC_Not, wS_Skip, wS_Brk, wS_Cnt, wS_RetV, wS_Ret, wS_Seq, wS_Set, wS_Inc, wS_Do, wS_Put, wS_PutC, wS_Arr, wS_ArrC, wS_If, wS_Sw, wS_F0, wS_F1, wM_q, lu_ap, aL_ap, ct_0, ct_1, ct_2, ct_3, ct_4, ct_5, headD_1, List.mem_cons, List.not_mem_nil, or_false, false_or, or_true, true_or, true_and, and_true, false_and, and_false, not_true_eq_false, not_false_eq_true, if_true, if_false, nr_20, nr_24, nr_40, nr_41, nr_44, pt_lt, pt_ge, pt_eq, pt_ne, pt_gt, pt_le, pt_E, pt_N, pt_F, ite_10, ite_11, ne_eq, and_self, or_self, decide_true, decide_false, Bool.not_true, Bool.not_false, Bool.false_eq_true, Nat.reduceEqDiff, Nat.reduceAdd, Int.reduceEq, Int.reduceLT, Int.reduceLE, Int.reduceNeg, Int.reduceAdd, Int.reduceSub, Int.reduceMul, reduceCtorEq, iA, iS, iM, iD, iR, iN, lA, lS, lM, lD, lR, n0, n4, hr, lt]
          exact ⟨_, Or.inr (Or.inl ⟨c1, hz, rfl⟩), ⟨k3, hfr3⟩, Or.inr ⟨z, rfl, a3, a4⟩⟩
      · rintro k y L3 w4 ⟨rfl, hh⟩
        simp only [wE_I, wE_V, wE_F, wE_A, wE_N, wE_1, wE_2, wE_D, wE_B, wE_If, wE_C, wE_CV, wE_SL, wE_SA, wA_0, wA_1, wC_B, wC_E, wC_And, wC_Or, wC_Not, wS_Skip, wS_Brk, wS_Cnt, wS_RetV, wS_Ret, wS_Seq, wS_Set, wS_Inc, wS_Do, wS_Put, wS_PutC, wS_Arr, wS_ArrC, wS_If, wS_Sw, wS_F0, wS_F1, wM_q, lu_ap, aL_ap, ct_0, ct_1, ct_2, ct_3, ct_4, ct_5, headD_1, List.mem_cons, List.not_mem_nil, or_false, false_or, or_true, true_or, true_and, and_true, false_and, and_false, not_true_eq_false, not_false_eq_true, if_true, if_false, nr_20, nr_24, nr_40, nr_41, nr_44, pt_lt, pt_ge, pt_eq, pt_ne, pt_gt, pt_le, pt_E, pt_N, pt_F, ite_10, ite_11, ne_eq, and_self, or_self, decide_true, decide_false, Bool.not_true, Bool.not_false, Bool.false_eq_true, Nat.reduceEqDiff, Nat.reduceAdd, Int.reduceEq, Int.reduceLT, Int.reduceLE, Int.reduceNeg, Int.reduceAdd, Int.reduceSub, Int.reduceMul, reduceCtorEq, iA, iS, iM, iD, iR, iN, lA, lS, lM, lD, lR, if_pos]
        exact hh
    · have hf := q_fail (f := 1) hPS
      have hs : stO v T = (1, 0) := by
        unfold stO
        have e : fKd v T 256 0 = 1 := if_neg c2
        rw [stp_0f (φ := fKd v T 256) (j := 0) (by rw [e]; decide), e, stp_ff (φ := fNu v T 1 60) (f := 1) (j := 0) (by decide), stp_ff (f := 1) (j := 0) (by decide)]
      have hz : ¬ (stO v T).1 = 0 := by rw [hs]; decide
      have kf := kd.tr (Kc.of kX5_fail hf)
      simp only [wE_I, wE_V, wE_F, wE_A, wE_N, wE_1, wE_2, wE_D, wE_B, wE_If, wE_C, wE_CV, wE_SL, wE_SA, wA_0, wA_1, wC_B, wC_E, wC_And, wC_Or, wC_Not, wS_Skip, wS_Brk, wS_Cnt, wS_RetV, wS_Ret, wS_Seq, wS_Set, wS_Inc, wS_Do, wS_Put, wS_PutC, wS_Arr, wS_ArrC, wS_If, wS_Sw, wS_F0, wS_F1, wM_q, lu_ap, aL_ap, ct_0, ct_1, ct_2, ct_3, ct_4, ct_5, headD_1, List.mem_cons, List.not_mem_nil, or_false, false_or, or_true, true_or, true_and, and_true, false_and, and_false, not_true_eq_false, not_false_eq_true, if_true, if_false, nr_20, nr_24, nr_40, nr_41, nr_44, pt_lt, pt_ge, pt_eq, pt_ne, pt_gt, pt_le, pt_E, pt_N, pt_F, ite_10, ite_11, ne_eq, and_self, or_self, decide_true, decide_false, Bool.not_true, Bool.not_false, Bool.false_eq_true, Nat.reduceEqDiff, Nat.reduceAdd, Int.reduceEq, Int.reduceLT, Int.reduceLE, Int.reduceNeg, Int.reduceAdd, Int.reduceSub, Int.reduceMul, reduceCtorEq, iA, iS, iM, iD, iR, iN, lA, lS, lM, lD, lR, m0, hX.k, wM_of hkd, c2, wM_of hf]
      refine ⟨_, Or.inr (Or.inl ⟨c1, hz, rfl⟩), ⟨kf, hfr.tr (fun a k q1 q2 => by rw [vu_ne (by omega), vu_ne (by omega)])⟩, Or.inr ⟨?_, rfl, ?_, ?_⟩⟩
      · rw [hs]; decide
      · rw [hs, vu_ne (by simp), vu_is]
      · rw [hs, vu_is]; exact congrFun (st_q hTR) _
end PP
