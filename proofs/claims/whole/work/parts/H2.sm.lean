/-! MAKING: the small constructors -/
section MK2
variable {S S' S2 : QS} {v v' v2 : QV} {L : QL} {N : QN} {Q Q' : QL → QN → Prop} {c u : Nat} {a b lo hi : Int}
theorem fa_gen {ci : Nat} {l : List (Int × Nat × Int)} {s : NT} {Lay : QS → QV → Int → Prop} (hs : s = nSeq nSuper (nFs ci l nSkip)) (hnd : (l.map (·.1)).Nodup) (hF : ∀ S v a S' v', a + 1 = ((S : QS).2.2 : Int) → S.1 a = ci + 1 → FsN S v a l S' v' → Lay S' v' a) (hst : ∀ S v S' v' a, Lay S v a → Eqw S S' v v' a (a + l.length) → Lay S' v' a) (hk : ∀ S v a, Lay S v a → S.1 a = ci + 1) : Cs (nM s) ci l.length l.length (szF l) (l.map (·.1)) Lay := by
  refine ⟨fun S v a h1 h0 h2 => ?_, hst, hk⟩
  refine wG_M ?_
  have l0 : aL 0 [2] [a] 0 = a := rfl
  rw [hs, wN_Seq]
  refine wN_Super (by rw [l0]; exact h0) ?_
  refine n_Fs l S v _ _ hnd (by rw [l0]; exact h2) (by rw [l0]; omega) (Nat.le_refl _) (Nat.le_refl _) (fun S' v' hf => ?_)
  rw [l0] at hf
  refine wN_Skip ⟨hf.gr, ?_, hF S v a S' v' h1 h2 hf, fun k hk => hf.2.2.1 a k (by omega) (fun _ p hp e => hk (List.mem_map.mpr ⟨p, hp, e⟩))⟩
  have := hf.1
  show ((S'.2.2 : Nat) : Int) = a + 1 + l.length
  omega
theorem LTp.st (h : LTp S v a) (e : Eqw S S' v v' a (a + 4)) : LTp S' v' a := by
  unfold LTp at h ⊢
  simp only [(e a (by omega) (by omega)).1, (e a (by omega) (by omega)).2.2, (e (a + 1) (by omega) (by omega)).1, (e (a + 1) (by omega) (by omega)).2.1, (e (a + 2) (by omega) (by omega)).1, (e (a + 2) (by omega) (by omega)).2.1, (e (a + 3) (by omega) (by omega)).1, (e (a + 3) (by omega) (by omega)).2.1, (e (a + 4) (by omega) (by omega)).1, (e (a + 4) (by omega) (by omega)).2.1]
  exact h
theorem cs_X10 : Cs mX10_init 10 4 4 4000 [0, 2, 3, 4] LTp := by
  refine fa_gen (l := [(0, 23, 1000), (2, 20, 1000), (3, 20, 1000), (4, 20, 1000)]) (by unfold sX10_init; simp only [nFs, seq_skip]) (by decide) (fun S v a S' v' h1 h2 hf => ?_) (fun S v S' v' a h e => h.st e) (fun S v a h => h.k)
  obtain ⟨a0, b0, -, c0⟩ := hf.2.2.2 0 _ rfl
  rw [show ((S.2.2 : Nat) : Int) + ((0 : Nat) : Int) = a + 1 by omega] at a0 b0 c0
  obtain ⟨a1, b1, -, c1⟩ := hf.2.2.2 1 _ rfl
  rw [show ((S.2.2 : Nat) : Int) + ((1 : Nat) : Int) = a + 2 by omega] at a1 b1 c1
  obtain ⟨a2, b2, -, c2⟩ := hf.2.2.2 2 _ rfl
  rw [show ((S.2.2 : Nat) : Int) + ((2 : Nat) : Int) = a + 3 by omega] at a2 b2 c2
  obtain ⟨a3, b3, -, c3⟩ := hf.2.2.2 3 _ rfl
  rw [show ((S.2.2 : Nat) : Int) + ((3 : Nat) : Int) = a + 4 by omega] at a3 b3 c3
  exact ⟨by rw [(hf.2.1 a (by omega)).1]; exact h2, c0, c1, c2, c3, a0, b0, a1, b1, a2, b2, a3, b3⟩
theorem LPs.st (h : LPs S v a) (e : Eqw S S' v v' a (a + 3)) : LPs S' v' a := by
  unfold LPs at h ⊢
  simp only [(e a (by omega) (by omega)).1, (e a (by omega) (by omega)).2.2, (e (a + 1) (by omega) (by omega)).1, (e (a + 1) (by omega) (by omega)).2.1, (e (a + 2) (by omega) (by omega)).1, (e (a + 2) (by omega) (by omega)).2.1, (e (a + 3) (by omega) (by omega)).1, (e (a + 3) (by omega) (by omega)).2.1]
  exact h
theorem cs_X5 : Cs mX5_init 5 3 3 76 [5, 6, 8] LPs := by
  refine fa_gen (l := [(5, 20, 8), (6, 20, 8), (8, 20, 60)]) (by unfold sX5_init; simp only [nFs, seq_skip]) (by decide) (fun S v a S' v' h1 h2 hf => ?_) (fun S v S' v' a h e => h.st e) (fun S v a h => h.k)
  obtain ⟨a0, b0, -, c0⟩ := hf.2.2.2 0 _ rfl
  rw [show ((S.2.2 : Nat) : Int) + ((0 : Nat) : Int) = a + 1 by omega] at a0 b0 c0
  obtain ⟨a1, b1, -, c1⟩ := hf.2.2.2 1 _ rfl
  rw [show ((S.2.2 : Nat) : Int) + ((1 : Nat) : Int) = a + 2 by omega] at a1 b1 c1
  obtain ⟨a2, b2, -, c2⟩ := hf.2.2.2 2 _ rfl
  rw [show ((S.2.2 : Nat) : Int) + ((2 : Nat) : Int) = a + 3 by omega] at a2 b2 c2
  exact ⟨by rw [(hf.2.1 a (by omega)).1]; exact h2, c0, c1, c2, a0, b0, a1, b1, a2, b2⟩
theorem LFo.st (h : LFo S v a) (e : Eqw S S' v v' a (a + 5)) : LFo S' v' a := by
  unfold LFo at h ⊢
  simp only [(e a (by omega) (by omega)).1, (e a (by omega) (by omega)).2.2, (e (a + 1) (by omega) (by omega)).1, (e (a + 1) (by omega) (by omega)).2.1, (e (a + 2) (by omega) (by omega)).1, (e (a + 2) (by omega) (by omega)).2.1, (e (a + 3) (by omega) (by omega)).1, (e (a + 3) (by omega) (by omega)).2.1, (e (a + 4) (by omega) (by omega)).1, (e (a + 4) (by omega) (by omega)).2.1, (e (a + 5) (by omega) (by omega)).1, (e (a + 5) (by omega) (by omega)).2.1]
  exact h
theorem cs_X1 : Cs mX1_init 1 5 5 158 [3, 4, 5, 6, 7] LFo := by
  refine fa_gen (l := [(3, 20, 60), (4, 20, 60), (5, 20, 4), (6, 20, 4), (7, 20, 30)]) (by unfold sX1_init; simp only [nFs, seq_skip]) (by decide) (fun S v a S' v' h1 h2 hf => ?_) (fun S v S' v' a h e => h.st e) (fun S v a h => h.k)
  obtain ⟨a0, b0, -, c0⟩ := hf.2.2.2 0 _ rfl
  rw [show ((S.2.2 : Nat) : Int) + ((0 : Nat) : Int) = a + 1 by omega] at a0 b0 c0
  obtain ⟨a1, b1, -, c1⟩ := hf.2.2.2 1 _ rfl
  rw [show ((S.2.2 : Nat) : Int) + ((1 : Nat) : Int) = a + 2 by omega] at a1 b1 c1
  obtain ⟨a2, b2, -, c2⟩ := hf.2.2.2 2 _ rfl
  rw [show ((S.2.2 : Nat) : Int) + ((2 : Nat) : Int) = a + 3 by omega] at a2 b2 c2
  obtain ⟨a3, b3, -, c3⟩ := hf.2.2.2 3 _ rfl
  rw [show ((S.2.2 : Nat) : Int) + ((3 : Nat) : Int) = a + 4 by omega] at a3 b3 c3
  obtain ⟨a4, b4, -, c4⟩ := hf.2.2.2 4 _ rfl
  rw [show ((S.2.2 : Nat) : Int) + ((4 : Nat) : Int) = a + 5 by omega] at a4 b4 c4
  exact ⟨by rw [(hf.2.1 a (by omega)).1]; exact h2, c0, c1, c2, c3, c4, a0, b0, a1, b1, a2, b2, a3, b3, a4, b4⟩
theorem LOu.st (h : LOu S v a) (e : Eqw S S' v v' a (a + 4)) : LOu S' v' a := by
  unfold LOu at h ⊢
  simp only [(e a (by omega) (by omega)).1, (e a (by omega) (by omega)).2.2, (e (a + 1) (by omega) (by omega)).1, (e (a + 1) (by omega) (by omega)).2.1, (e (a + 2) (by omega) (by omega)).1, (e (a + 2) (by omega) (by omega)).2.1, (e (a + 3) (by omega) (by omega)).1, (e (a + 3) (by omega) (by omega)).2.1, (e (a + 4) (by omega) (by omega)).1, (e (a + 4) (by omega) (by omega)).2.1]
  exact h
theorem cs_X4 : Cs mX4_init 4 4 4 108 [3, 4, 5, 6] LOu := by
  refine fa_gen (l := [(3, 20, 24), (4, 20, 24), (5, 20, 30), (6, 24, 30)]) (by unfold sX4_init; simp only [nFs, seq_skip]) (by decide) (fun S v a S' v' h1 h2 hf => ?_) (fun S v S' v' a h e => h.st e) (fun S v a h => h.k)
  obtain ⟨a0, b0, -, c0⟩ := hf.2.2.2 0 _ rfl
  rw [show ((S.2.2 : Nat) : Int) + ((0 : Nat) : Int) = a + 1 by omega] at a0 b0 c0
  obtain ⟨a1, b1, -, c1⟩ := hf.2.2.2 1 _ rfl
  rw [show ((S.2.2 : Nat) : Int) + ((1 : Nat) : Int) = a + 2 by omega] at a1 b1 c1
  obtain ⟨a2, b2, -, c2⟩ := hf.2.2.2 2 _ rfl
  rw [show ((S.2.2 : Nat) : Int) + ((2 : Nat) : Int) = a + 3 by omega] at a2 b2 c2
  obtain ⟨a3, b3, -, c3⟩ := hf.2.2.2 3 _ rfl
  rw [show ((S.2.2 : Nat) : Int) + ((3 : Nat) : Int) = a + 4 by omega] at a3 b3 c3
  exact ⟨by rw [(hf.2.1 a (by omega)).1]; exact h2, c0, c1, c2, c3, a0, b0, a1, b1, a2, b2, a3, b3⟩
theorem w_X2 (l0 : L 0 = a) (h0 : 0 ≤ a) (h2 : S.1 a = 3) (h : Q L (S, v, c, u)) : wN sX2_init L (S, v, c, u) Q := by
  unfold sX2_init
  refine wN_Super (by rw [l0]; exact h0) ?_
  exact h
theorem cs_X2 : Cs mX2_init 2 0 0 0 [] (fun S _ a => S.1 a = 3) := by
  refine ⟨fun S v a h1 h0 h2 => ?_, fun S v S' v' a h e => ?_, fun S v a h => h⟩
  · refine wG_M ?_
    exact w_X2 (a := a) rfl h0 h2 ⟨⟨Nat.le_refl _, fun _ _ => ⟨rfl, rfl⟩, fun q k hq hn => rfl⟩, by show ((S.2.2 : Nat) : Int) = a + 1 + 0; omega, h2, fun k hk => rfl⟩
  · show S'.1 a = 3
    rw [(e a (Int.le_refl _) (by omega)).1]; exact h
theorem w_X0 (l0 : L 0 = a) (h0 : 0 ≤ a) (h2 : S.1 a = 1) (h : Q L (S, (vu (vu v a 1 1) a 2 1), c, u)) : wN sX0_init L (S, v, c, u) Q := by
  unfold sX0_init
  rw [wN_Seq]
  refine wN_Super (by rw [l0]; exact h0) ?_
  rw [wN_Seq]
  refine wN_Lift ?_
  simp only [wE_I, wE_V, wE_F, wE_A, wE_N, wE_1, wE_2, wE_D, wE_B, wE_If, wE_C, wE_CV, wE_SL, wE_SA, wA_0, wA_1, wC_B, wC_E, wC_And, wC_Or, wC_Not, wS_Skip, wS_Brk, wS_Cnt, wS_RetV, wS_Ret, wS_Seq, wS_Set, wS_Inc, wS_Do, wS_Put, wS_PutC, wS_Arr, wS_ArrC, wS_If, wS_Sw, wS_F0, wS_F1, wM_q, lu_ap, aL_ap, ct_0, ct_1, ct_2, ct_3, ct_4, ct_5, headD_1, List.mem_cons, List.not_mem_nil, or_false, false_or, or_true, true_or, true_and, and_true, false_and, and_false, not_true_eq_false, not_false_eq_true, if_true, if_false, nr_20, nr_24, nr_40, nr_41, nr_44, pt_lt, pt_ge, pt_eq, pt_ne, pt_gt, pt_le, pt_E, pt_N, pt_F, ite_10, ite_11, ne_eq, and_self, or_self, decide_true, decide_false, Bool.not_true, Bool.not_false, Bool.false_eq_true, Nat.reduceEqDiff, Nat.reduceAdd, Int.reduceEq, Int.reduceLT, Int.reduceLE, Int.reduceNeg, Int.reduceAdd, Int.reduceSub, Int.reduceMul, reduceCtorEq, iA, iS, iM, iD, iR, iN, lA, lS, lM, lD, lR, l0, h2]
  refine wN_Lift ?_
  simp only [wE_I, wE_V, wE_F, wE_A, wE_N, wE_1, wE_2, wE_D, wE_B, wE_If, wE_C, wE_CV, wE_SL, wE_SA, wA_0, wA_1, wC_B, wC_E, wC_And, wC_Or, wC_Not, wS_Skip, wS_Brk, wS_Cnt, wS_RetV, wS_Ret, wS_Seq, wS_Set, wS_Inc, wS_Do, wS_Put, wS_PutC, wS_Arr, wS_ArrC, wS_If, wS_Sw, wS_F0, wS_F1, wM_q, lu_ap, aL_ap, ct_0, ct_1, ct_2, ct_3, ct_4, ct_5, headD_1, List.mem_cons, List.not_mem_nil, or_false, false_or, or_true, true_or, true_and, and_true, false_and, and_false, not_true_eq_false, not_false_eq_true, if_true, if_false, nr_20, nr_24, nr_40, nr_41, nr_44, pt_lt, pt_ge, pt_eq, pt_ne, pt_gt, pt_le, pt_E, pt_N, pt_F, ite_10, ite_11, ne_eq, and_self, or_self, decide_true, decide_false, Bool.not_true, Bool.not_false, Bool.false_eq_true, Nat.reduceEqDiff, Nat.reduceAdd, Int.reduceEq, Int.reduceLT, Int.reduceLE, Int.reduceNeg, Int.reduceAdd, Int.reduceSub, Int.reduceMul, reduceCtorEq, iA, iS, iM, iD, iR, iN, lA, lS, lM, lD, lR, l0, h2]
  exact h
theorem cs_X0 : Cs mX0_init 0 0 0 0 [1, 2] (fun S _ a => S.1 a = 1) := by
  refine ⟨fun S v a h1 h0 h2 => ?_, fun S v S' v' a h e => ?_, fun S v a h => h⟩
  · refine wG_M ?_
    exact w_X0 (a := a) rfl h0 h2 ⟨⟨Nat.le_refl _, fun _ _ => ⟨rfl, rfl⟩, fun q k hq hn => by show (vu (vu v a 1 1) a 2 1) q k = v q k; rw [vu_ne (fun e => hn e.1), vu_ne (fun e => hn e.1)]⟩, by show ((S.2.2 : Nat) : Int) = a + 1 + 0; omega, h2, fun k hk => by simp only [List.mem_cons, List.not_mem_nil, or_false, not_or] at hk; show (vu (vu v a 1 1) a 2 1) a k = v a k; rw [vu_ne (by omega), vu_ne (by omega)]⟩
  · show S'.1 a = 1
    rw [(e a (Int.le_refl _) (by omega)).1]; exact h
theorem w_X3 (l0 : L 0 = a) (h0 : 0 ≤ a) (h2 : S.1 a = 4) (h : Q L (S, (vu (vu (vu (vu (vu v a 3 (-1)) a 4 (-2147483648)) a 5 (-2147483648)) a 8 (-2000000000)) a 9 2000000000), c, u)) : wN sX3_init L (S, v, c, u) Q := by
  unfold sX3_init
  rw [wN_Seq]
  refine wN_Super (by rw [l0]; exact h0) ?_
  rw [wN_Seq]
  refine wN_Lift ?_
  simp only [wE_I, wE_V, wE_F, wE_A, wE_N, wE_1, wE_2, wE_D, wE_B, wE_If, wE_C, wE_CV, wE_SL, wE_SA, wA_0, wA_1, wC_B, wC_E, wC_And, wC_Or, wC_Not, wS_Skip, wS_Brk, wS_Cnt, wS_RetV, wS_Ret, wS_Seq, wS_Set, wS_Inc, wS_Do, wS_Put, wS_PutC, wS_Arr, wS_ArrC, wS_If, wS_Sw, wS_F0, wS_F1, wM_q, lu_ap, aL_ap, ct_0, ct_1, ct_2, ct_3, ct_4, ct_5, headD_1, List.mem_cons, List.not_mem_nil, or_false, false_or, or_true, true_or, true_and, and_true, false_and, and_false, not_true_eq_false, not_false_eq_true, if_true, if_false, nr_20, nr_24, nr_40, nr_41, nr_44, pt_lt, pt_ge, pt_eq, pt_ne, pt_gt, pt_le, pt_E, pt_N, pt_F, ite_10, ite_11, ne_eq, and_self, or_self, decide_true, decide_false, Bool.not_true, Bool.not_false, Bool.false_eq_true, Nat.reduceEqDiff, Nat.reduceAdd, Int.reduceEq, Int.reduceLT, Int.reduceLE, Int.reduceNeg, Int.reduceAdd, Int.reduceSub, Int.reduceMul, reduceCtorEq, iA, iS, iM, iD, iR, iN, lA, lS, lM, lD, lR, l0, h2]
  rw [wN_Seq]
  refine wN_Lift ?_
  simp only [wE_I, wE_V, wE_F, wE_A, wE_N, wE_1, wE_2, wE_D, wE_B, wE_If, wE_C, wE_CV, wE_SL, wE_SA, wA_0, wA_1, wC_B, wC_E, wC_And, wC_Or, wC_Not, wS_Skip, wS_Brk, wS_Cnt, wS_RetV, wS_Ret, wS_Seq, wS_Set, wS_Inc, wS_Do, wS_Put, wS_PutC, wS_Arr, wS_ArrC, wS_If, wS_Sw, wS_F0, wS_F1, wM_q, lu_ap, aL_ap, ct_0, ct_1, ct_2, ct_3, ct_4, ct_5, headD_1, List.mem_cons, List.not_mem_nil, or_false, false_or, or_true, true_or, true_and, and_true, false_and, and_false, not_true_eq_false, not_false_eq_true, if_true, if_false, nr_20, nr_24, nr_40, nr_41, nr_44, pt_lt, pt_ge, pt_eq, pt_ne, pt_gt, pt_le, pt_E, pt_N, pt_F, ite_10, ite_11, ne_eq, and_self, or_self, decide_true, decide_false, Bool.not_true, Bool.not_false, Bool.false_eq_true, Nat.reduceEqDiff, Nat.reduceAdd, Int.reduceEq, Int.reduceLT, Int.reduceLE, Int.reduceNeg, Int.reduceAdd, Int.reduceSub, Int.reduceMul, reduceCtorEq, iA, iS, iM, iD, iR, iN, lA, lS, lM, lD, lR, l0, h2]
  rw [wN_Seq]
  refine wN_Lift ?_
  simp only [wE_I, wE_V, wE_F, wE_A, wE_N, wE_1, wE_2, wE_D, wE_B, wE_If, wE_C, wE_CV, wE_SL, wE_SA, wA_0, wA_1, wC_B, wC_E, wC_And, wC_Or, wC_Not, wS_Skip, wS_Brk, wS_Cnt, wS_RetV, wS_Ret, wS_Seq, wS_Set, wS_Inc, wS_Do, wS_Put, wS_PutC, wS_Arr, wS_ArrC, wS_If, wS_Sw, wS_F0, wS_F1, wM_q, lu_ap, aL_ap, ct_0, ct_1, ct_2, ct_3, ct_4, ct_5, headD_1, List.mem_cons, List.not_mem_nil, or_false, false_or, or_true, true_or, true_and, and_true, false_and, and_false, not_true_eq_false, not_false_eq_true, if_true, if_false, nr_20, nr_24, nr_40, nr_41, nr_44, pt_lt, pt_ge, pt_eq, pt_ne, pt_gt, pt_le, pt_E, pt_N, pt_F, ite_10, ite_11, ne_eq, and_self, or_self, decide_true, decide_false, Bool.not_true, Bool.not_false, Bool.false_eq_true, Nat.reduceEqDiff, Nat.reduceAdd, Int.reduceEq, Int.reduceLT, Int.reduceLE, Int.reduceNeg, Int.reduceAdd, Int.reduceSub, Int.reduceMul, reduceCtorEq, iA, iS, iM, iD, iR, iN, lA, lS, lM, lD, lR, l0, h2]
  rw [wN_Seq]
  refine wN_Lift ?_
  simp only [wE_I, wE_V, wE_F, wE_A, wE_N, wE_1, wE_2, wE_D, wE_B, wE_If, wE_C, wE_CV, wE_SL, wE_SA, wA_0, wA_1, wC_B, wC_E, wC_And, wC_Or, wC_Not, wS_Skip, wS_Brk, wS_Cnt, wS_RetV, wS_Ret, wS_Seq, wS_Set, wS_Inc, wS_Do, wS_Put, wS_PutC, wS_Arr, wS_ArrC, wS_If, wS_Sw, wS_F0, wS_F1, wM_q, lu_ap, aL_ap, ct_0, ct_1, ct_2, ct_3, ct_4, ct_5, headD_1, List.mem_cons, List.not_mem_nil, or_false, false_or, or_true, true_or, true_and, and_true, false_and, and_false, not_true_eq_false, not_false_eq_true, if_true, if_false, nr_20, nr_24, nr_40, nr_41, nr_44, pt_lt, pt_ge, pt_eq, pt_ne, pt_gt, pt_le, pt_E, pt_N, pt_F, ite_10, ite_11, ne_eq, and_self, or_self, decide_true, decide_false, Bool.not_true, Bool.not_false, Bool.false_eq_true, Nat.reduceEqDiff, Nat.reduceAdd, Int.reduceEq, Int.reduceLT, Int.reduceLE, Int.reduceNeg, Int.reduceAdd, Int.reduceSub, Int.reduceMul, reduceCtorEq, iA, iS, iM, iD, iR, iN, lA, lS, lM, lD, lR, l0, h2]
  refine wN_Lift ?_
  simp only [wE_I, wE_V, wE_F, wE_A, wE_N, wE_1, wE_2, wE_D, wE_B, wE_If, wE_C, wE_CV, wE_SL, wE_SA, wA_0, wA_1, wC_B, wC_E, wC_And, wC_Or, wC_Not, wS_Skip, wS_Brk, wS_Cnt, wS_RetV, wS_Ret, wS_Seq, wS_Set, wS_Inc, wS_Do, wS_Put, wS_PutC, wS_Arr, wS_ArrC, wS_If, wS_Sw, wS_F0, wS_F1, wM_q, lu_ap, aL_ap, ct_0, ct_1, ct_2, ct_3, ct_4, ct_5, headD_1, List.mem_cons, List.not_mem_nil, or_false, false_or, or_true, true_or, true_and, and_true, false_and, and_false, not_true_eq_false, not_false_eq_true, if_true, if_false, nr_20, nr_24, nr_40, nr_41, nr_44, pt_lt, pt_ge, pt_eq, pt_ne, pt_gt, pt_le, pt_E, pt_N, pt_F, ite_10, ite_11, ne_eq, and_self, or_self, decide_true, decide_false, Bool.not_true, Bool.not_false, Bool.false_eq_true, Nat.reduceEqDiff, Nat.reduceAdd, Int.reduceEq, Int.reduceLT, Int.reduceLE, Int.reduceNeg, Int.reduceAdd, Int.reduceSub, Int.reduceMul, reduceCtorEq, iA, iS, iM, iD, iR, iN, lA, lS, lM, lD, lR, l0, h2]
  exact h
theorem cs_X3 : Cs mX3_init 3 0 0 0 [3, 4, 5, 8, 9] (fun S _ a => S.1 a = 4) := by
  refine ⟨fun S v a h1 h0 h2 => ?_, fun S v S' v' a h e => ?_, fun S v a h => h⟩
  · refine wG_M ?_
    exact w_X3 (a := a) rfl h0 h2 ⟨⟨Nat.le_refl _, fun _ _ => ⟨rfl, rfl⟩, fun q k hq hn => by show (vu (vu (vu (vu (vu v a 3 (-1)) a 4 (-2147483648)) a 5 (-2147483648)) a 8 (-2000000000)) a 9 2000000000) q k = v q k; rw [vu_ne (fun e => hn e.1), vu_ne (fun e => hn e.1), vu_ne (fun e => hn e.1), vu_ne (fun e => hn e.1), vu_ne (fun e => hn e.1)]⟩, by show ((S.2.2 : Nat) : Int) = a + 1 + 0; omega, h2, fun k hk => by simp only [List.mem_cons, List.not_mem_nil, or_false, not_or] at hk; show (vu (vu (vu (vu (vu v a 3 (-1)) a 4 (-2147483648)) a 5 (-2147483648)) a 8 (-2000000000)) a 9 2000000000) a k = v a k; rw [vu_ne (by omega), vu_ne (by omega), vu_ne (by omega), vu_ne (by omega), vu_ne (by omega)]⟩
  · show S'.1 a = 4
    rw [(e a (Int.le_refl _) (by omega)).1]; exact h
theorem w_X9 (l0 : L 0 = a) (h0 : 0 ≤ a) (h2 : S.1 a = 10) (h : Q L (S, (vu (vu (vu v a 3 (-2147483648)) a 4 (-2147483648)) a 5 (-2147483648)), c, u)) : wN sX9_init L (S, v, c, u) Q := by
  unfold sX9_init
  rw [wN_Seq]
  refine wN_Super (by rw [l0]; exact h0) ?_
  rw [wN_Seq]
  refine wN_Lift ?_
  simp only [wE_I, wE_V, wE_F, wE_A, wE_N, wE_1, wE_2, wE_D, wE_B, wE_If, wE_C, wE_CV, wE_SL, wE_SA, wA_0, wA_1, wC_B, wC_E, wC_And, wC_Or, wC_Not, wS_Skip, wS_Brk, wS_Cnt, wS_RetV, wS_Ret, wS_Seq, wS_Set, wS_Inc, wS_Do, wS_Put, wS_PutC, wS_Arr, wS_ArrC, wS_If, wS_Sw, wS_F0, wS_F1, wM_q, lu_ap, aL_ap, ct_0, ct_1, ct_2, ct_3, ct_4, ct_5, headD_1, List.mem_cons, List.not_mem_nil, or_false, false_or, or_true, true_or, true_and, and_true, false_and, and_false, not_true_eq_false, not_false_eq_true, if_true, if_false, nr_20, nr_24, nr_40, nr_41, nr_44, pt_lt, pt_ge, pt_eq, pt_ne, pt_gt, pt_le, pt_E, pt_N, pt_F, ite_10, ite_11, ne_eq, and_self, or_self, decide_true, decide_false, Bool.not_true, Bool.not_false, Bool.false_eq_true, Nat.reduceEqDiff, Nat.reduceAdd, Int.reduceEq, Int.reduceLT, Int.reduceLE, Int.reduceNeg, Int.reduceAdd, Int.reduceSub, Int.reduceMul, reduceCtorEq, iA, iS, iM, iD, iR, iN, lA, lS, lM, lD, lR, l0, h2]
  rw [wN_Seq]
  refine wN_Lift ?_
  simp only [wE_I, wE_V, wE_F, wE_A, wE_N, wE_1, wE_2, wE_D, wE_B, wE_If, wE_C, wE_CV, wE_SL, wE_SA, wA_0, wA_1, wC_B, wC_E, wC_And, wC_Or, wC_Not, wS_Skip, wS_Brk, wS_Cnt, wS_RetV, wS_Ret, wS_Seq, wS_Set, wS_Inc, wS_Do, wS_Put, wS_PutC, wS_Arr, wS_ArrC, wS_If, wS_Sw, wS_F0, wS_F1, wM_q, lu_ap, aL_ap, ct_0, ct_1, ct_2, ct_3, ct_4, ct_5, headD_1, List.mem_cons, List.not_mem_nil, or_false, false_or, or_true, true_or, true_and, and_true, false_and, and_false, not_true_eq_false, not_false_eq_true, if_true, if_false, nr_20, nr_24, nr_40, nr_41, nr_44, pt_lt, pt_ge, pt_eq, pt_ne, pt_gt, pt_le, pt_E, pt_N, pt_F, ite_10, ite_11, ne_eq, and_self, or_self, decide_true, decide_false, Bool.not_true, Bool.not_false, Bool.false_eq_true, Nat.reduceEqDiff, Nat.reduceAdd, Int.reduceEq, Int.reduceLT, Int.reduceLE, Int.reduceNeg, Int.reduceAdd, Int.reduceSub, Int.reduceMul, reduceCtorEq, iA, iS, iM, iD, iR, iN, lA, lS, lM, lD, lR, l0, h2]
  refine wN_Lift ?_
  simp only [wE_I, wE_V, wE_F, wE_A, wE_N, wE_1, wE_2, wE_D, wE_B, wE_If, wE_C, wE_CV, wE_SL, wE_SA, wA_0, wA_1, wC_B, wC_E, wC_And, wC_Or, wC_Not, wS_Skip, wS_Brk, wS_Cnt, wS_RetV, wS_Ret, wS_Seq, wS_Set, wS_Inc, wS_Do, wS_Put, wS_PutC, wS_Arr, wS_ArrC, wS_If, wS_Sw, wS_F0, wS_F1, wM_q, lu_ap, aL_ap, ct_0, ct_1, ct_2, ct_3, ct_4, ct_5, headD_1, List.mem_cons, List.not_mem_nil, or_false, false_or, or_true, true_or, true_and, and_true, false_and, and_false, not_true_eq_false, not_false_eq_true, if_true, if_false, nr_20, nr_24, nr_40, nr_41, nr_44, pt_lt, pt_ge, pt_eq, pt_ne, pt_gt, pt_le, pt_E, pt_N, pt_F, ite_10, ite_11, ne_eq, and_self, or_self, decide_true, decide_false, Bool.not_true, Bool.not_false, Bool.false_eq_true, Nat.reduceEqDiff, Nat.reduceAdd, Int.reduceEq, Int.reduceLT, Int.reduceLE, Int.reduceNeg, Int.reduceAdd, Int.reduceSub, Int.reduceMul, reduceCtorEq, iA, iS, iM, iD, iR, iN, lA, lS, lM, lD, lR, l0, h2]
  exact h
theorem cs_X9 : Cs mX9_init 9 0 0 0 [3, 4, 5] (fun S _ a => S.1 a = 10) := by
  refine ⟨fun S v a h1 h0 h2 => ?_, fun S v S' v' a h e => ?_, fun S v a h => h⟩
  · refine wG_M ?_
    exact w_X9 (a := a) rfl h0 h2 ⟨⟨Nat.le_refl _, fun _ _ => ⟨rfl, rfl⟩, fun q k hq hn => by show (vu (vu (vu v a 3 (-2147483648)) a 4 (-2147483648)) a 5 (-2147483648)) q k = v q k; rw [vu_ne (fun e => hn e.1), vu_ne (fun e => hn e.1), vu_ne (fun e => hn e.1)]⟩, by show ((S.2.2 : Nat) : Int) = a + 1 + 0; omega, h2, fun k hk => by simp only [List.mem_cons, List.not_mem_nil, or_false, not_or] at hk; show (vu (vu (vu v a 3 (-2147483648)) a 4 (-2147483648)) a 5 (-2147483648)) a k = v a k; rw [vu_ne (by omega), vu_ne (by omega), vu_ne (by omega)]⟩
  · show S'.1 a = 10
    rw [(e a (Int.le_refl _) (by omega)).1]; exact h
end MK2
