/-! STORE: a whole text, the reference's -/
section RA
variable {S : QS} {u v w m m' : QV} {T x P M B i n : Int} {o : Int × Int}
theorem Gx.qz (hx : x + 3 < P ∧ T + 5 = x) (hPM : P + 16 < M) : Qz M (fun m' => FrM M B m m' ∧ (o.1 = 0 → Gx w m' T x P M B)) := fun w1 w2 q1 q2 => ⟨q1.1.tr q2.fr, fun z => by
  have hG := q1.2 z
  have h2 := hG.1.2.1
  have h3 := hG.1.2.2.1
  rw [mgm_u (by omega), mgm_m (by omega)] at h2 h3
  exact hG.fp hx hPM (by omega) q2⟩
theorem m_line (hc : CX v M T n) (hC : Cl S v T x P u i) (hG : Gx u m T x P M B) (hm : Mm S v T M n (fun _ => True) m (0, i)) (hB : B = 0 ∨ B = 1) (hPM : P + 16 < M) (hK : kdT v T i ≠ 1) (hL : Ls S v T x P u i w o) : wM mX12_readLine [M, B] S m (fun _ m1 => wM mX12_need [M, 59] S m1 (fun _ m' => Mm S v T M n (fun m' => FrM M B m m' ∧ (o.1 = 0 → Gx w m' T x P M B)) m' o)) := by
  have hM := hm.2.1.1
  have hx : x + 3 < P ∧ T + 5 = x := ⟨hC.1.2.2.2, hC.1.1.2.2.2.2.2.2.2.2.2⟩
  have hqz : Qz M (fun m' => FrM M B m m' ∧ (o.1 = 0 → Gx w m' T x P M B)) := Gx.qz hx hPM
  have w1 := m_isWordO hm.2.1 hm.1 (j := 1) (by decide)
  have w5 := m_isWordO hm.2.1 hm.1 (j := 5) (by decide)
  have w8 := m_isWordO hm.2.1 hm.1 (j := 8) (by decide)
  have w11 := m_isWordO hm.2.1 hm.1 (j := 11) (by decide)
  simp only [show (256 : Int) + (pmN 1 : Nat) = 257 from rfl, show (256 : Int) + (pmN 5 : Nat) = 264 from rfl, show (256 : Int) + (pmN 8 : Nat) = 269 from rfl, show (256 : Int) + (pmN 11 : Nat) = 272 from rfl, true_and, show (((1 : Nat)) : Int) = 1 from rfl, show (((5 : Nat)) : Int) = 5 from rfl, show (((8 : Nat)) : Int) = 8 from rfl, show (((11 : Nat)) : Int) = 11 from rfl] at w1 w5 w8 w11
  have hnd : ∀ oR, o = stp (fKd v T 59) oR → ∀ m1, Mm S v T M n (fun m' => FrM M B m m' ∧ (o.1 = 0 → Gx w m' T x P M B)) m1 oR → wM mX12_need [M, 59] S m1 (fun _ m' => Mm S v T M n (fun m' => FrM M B m m' ∧ (o.1 = 0 → Gx w m' T x P M B)) m' o) := fun oR ho m1 h => by
    have := h.nd hc hqz (s := 59) (by unfold isSg; omega)
    rw [← ho] at this
    exact this
  rcases hL with ⟨k, hL⟩ | ⟨k, hL⟩ | ⟨k, hL⟩ | ⟨k, hL⟩ | ⟨⟨k1, k2, k3, k4⟩, ho, hf⟩
  · obtain ⟨oR, ho, hr⟩ := m_lineM hc hC hG hm hB hPM hK hL
    rw [if_pos k] at w1
    simp only [mX12_readLine, sX12_readLine, wE_I, wE_V, wE_F, wE_A, wE_N, wE_1, wE_2, wE_D, wE_B, wE_If, wE_C, wE_CV, wE_SL, wE_SA, wA_0, wA_1, wC_B, wC_E, wC_And, wC_Or, wC_Not, wS_Skip, wS_Brk, wS_Cnt, wS_RetV, wS_Ret, wS_Seq, wS_Set, wS_Inc, wS_Do, wS_Put, wS_PutC, wS_Arr, wS_ArrC, wS_If, wS_Sw, wS_F0, wS_F1, wM_q, lu_ap, aL_ap, ct_0, ct_1, ct_2, ct_3, ct_4, ct_5, headD_1, List.mem_cons, List.not_mem_nil, or_false, false_or, or_true, true_or, true_and, and_true, false_and, and_false, not_true_eq_false, not_false_eq_true, if_true, if_false, nr_20, nr_24, nr_40, nr_41, nr_44, pt_lt, pt_ge, pt_eq, pt_ne, pt_gt, pt_le, pt_E, pt_N, pt_F, ite_10, ite_11, ne_eq, and_self, or_self, decide_true, decide_false, Bool.not_true, Bool.not_false, Bool.false_eq_true, Nat.reduceEqDiff, Nat.reduceAdd, Int.reduceEq, Int.reduceLT, Int.reduceLE, Int.reduceNeg, Int.reduceAdd, Int.reduceSub, Int.reduceMul, reduceCtorEq, iA, iS, iM, iD, iR, iN, lA, lS, lM, lD, lR, hM.k, wM_of w1]
    exact wM_mono hr (fun r m1 e h => hnd oR ho m1 h)
  · obtain ⟨oR, ho, hr⟩ := m_lineA hc hC hG hm hB hPM hK hL
    rw [if_neg (by omega)] at w1
    rw [if_pos k] at w5
    simp only [mX12_readLine, sX12_readLine, wE_I, wE_V, wE_F, wE_A, wE_N, wE_1, wE_2, wE_D, wE_B, wE_If, wE_C, wE_CV, wE_SL, wE_SA, wA_0, wA_1, wC_B, wC_E, wC_And, wC_Or, wC_Not, wS_Skip, wS_Brk, wS_Cnt, wS_RetV, wS_Ret, wS_Seq, wS_Set, wS_Inc, wS_Do, wS_Put, wS_PutC, wS_Arr, wS_ArrC, wS_If, wS_Sw, wS_F0, wS_F1, wM_q, lu_ap, aL_ap, ct_0, ct_1, ct_2, ct_3, ct_4, ct_5, headD_1, List.mem_cons, List.not_mem_nil, or_false, false_or, or_true, true_or, true_and, and_true, false_and, and_false, not_true_eq_false, not_false_eq_true, if_true, if_false, nr_20, nr_24, nr_40, nr_41, nr_44, pt_lt, pt_ge, pt_eq, pt_ne, pt_gt, pt_le, pt_E, pt_N, pt_F, ite_10, ite_11, ne_eq, and_self, or_self, decide_true, decide_false, Bool.not_true, Bool.not_false, Bool.false_eq_true, Nat.reduceEqDiff, Nat.reduceAdd, Int.reduceEq, Int.reduceLT, Int.reduceLE, Int.reduceNeg, Int.reduceAdd, Int.reduceSub, Int.reduceMul, reduceCtorEq, iA, iS, iM, iD, iR, iN, lA, lS, lM, lD, lR, hM.k, wM_of w1, wM_of w5]
    exact wM_mono hr (fun r m1 e h => hnd oR ho m1 h)
  · obtain ⟨oR, ho, hr⟩ := m_lineF hc hC hG hm hB hPM hK hL
    rw [if_neg (by omega)] at w1 w5
    rw [if_pos k] at w8
    simp only [mX12_readLine, sX12_readLine, wE_I, wE_V, wE_F, wE_A, wE_N, wE_1, wE_2, wE_D, wE_B, wE_If, wE_C, wE_CV, wE_SL, wE_SA, wA_0, wA_1, wC_B, wC_E, wC_And, wC_Or, wC_Not, wS_Skip, wS_Brk, wS_Cnt, wS_RetV, wS_Ret, wS_Seq, wS_Set, wS_Inc, wS_Do, wS_Put, wS_PutC, wS_Arr, wS_ArrC, wS_If, wS_Sw, wS_F0, wS_F1, wM_q, lu_ap, aL_ap, ct_0, ct_1, ct_2, ct_3, ct_4, ct_5, headD_1, List.mem_cons, List.not_mem_nil, or_false, false_or, or_true, true_or, true_and, and_true, false_and, and_false, not_true_eq_false, not_false_eq_true, if_true, if_false, nr_20, nr_24, nr_40, nr_41, nr_44, pt_lt, pt_ge, pt_eq, pt_ne, pt_gt, pt_le, pt_E, pt_N, pt_F, ite_10, ite_11, ne_eq, and_self, or_self, decide_true, decide_false, Bool.not_true, Bool.not_false, Bool.false_eq_true, Nat.reduceEqDiff, Nat.reduceAdd, Int.reduceEq, Int.reduceLT, Int.reduceLE, Int.reduceNeg, Int.reduceAdd, Int.reduceSub, Int.reduceMul, reduceCtorEq, iA, iS, iM, iD, iR, iN, lA, lS, lM, lD, lR, hM.k, wM_of w1, wM_of w5, wM_of w8]
    exact wM_mono hr (fun r m1 e h => hnd oR ho m1 h)
  · obtain ⟨oR, ho, hr⟩ := m_lineS hc hC hG hm hB hPM hK hL
    rw [if_neg (by omega)] at w1 w5 w8
    rw [if_pos k] at w11
    simp only [mX12_readLine, sX12_readLine, wE_I, wE_V, wE_F, wE_A, wE_N, wE_1, wE_2, wE_D, wE_B, wE_If, wE_C, wE_CV, wE_SL, wE_SA, wA_0, wA_1, wC_B, wC_E, wC_And, wC_Or, wC_Not, wS_Skip, wS_Brk, wS_Cnt, wS_RetV, wS_Ret, wS_Seq, wS_Set, wS_Inc, wS_Do, wS_Put, wS_PutC, wS_Arr, wS_ArrC, wS_If, wS_Sw, wS_F0, wS_F1, wM_q, lu_ap, aL_ap, ct_0, ct_1, ct_2, ct_3, ct_4, ct_5, headD_1, List.mem_cons, List.not_mem_nil, or_false, false_or, or_true, true_or, true_and, and_true, false_and, and_false, not_true_eq_false, not_false_eq_true, if_true, if_false, nr_20, nr_24, nr_40, nr_41, nr_44, pt_lt, pt_ge, pt_eq, pt_ne, pt_gt, pt_le, pt_E, pt_N, pt_F, ite_10, ite_11, ne_eq, and_self, or_self, decide_true, decide_false, Bool.not_true, Bool.not_false, Bool.false_eq_true, Nat.reduceEqDiff, Nat.reduceAdd, Int.reduceEq, Int.reduceLT, Int.reduceLE, Int.reduceNeg, Int.reduceAdd, Int.reduceSub, Int.reduceMul, reduceCtorEq, iA, iS, iM, iD, iR, iN, lA, lS, lM, lD, lR, hM.k, wM_of w1, wM_of w5, wM_of w8, wM_of w11]
    exact wM_mono hr (fun r m1 e h => hnd oR ho m1 h)
  · rw [if_neg (by omega)] at w1 w5 w8 w11
    have hfl := (hm.cg (Q' := fun w' => Fp M m w') (fun _ => Fp.rf)).fl (fun w1 w2 q1 q2 => q1.tr q2) (f := 1) (by decide)
    rw [if_pos rfl] at hfl
    simp only [mX12_readLine, sX12_readLine, wE_I, wE_V, wE_F, wE_A, wE_N, wE_1, wE_2, wE_D, wE_B, wE_If, wE_C, wE_CV, wE_SL, wE_SA, wA_0, wA_1, wC_B, wC_E, wC_And, wC_Or, wC_Not, wS_Skip, wS_Brk, wS_Cnt, wS_RetV, wS_Ret, wS_Seq, wS_Set, wS_Inc, wS_Do, wS_Put, wS_PutC, wS_Arr, wS_ArrC, wS_If, wS_Sw, wS_F0, wS_F1, wM_q, lu_ap, aL_ap, ct_0, ct_1, ct_2, ct_3, ct_4, ct_5, headD_1, List.mem_cons, List.not_mem_nil, or_false, false_or, or_true, true_or, true_and, and_true, false_and, and_false, not_true_eq_false, not_false_eq_true, if_true, if_false, nr_20, nr_24, nr_40, nr_41, nr_44, pt_lt, pt_ge, pt_eq, pt_ne, pt_gt, pt_le, pt_E, pt_N, pt_F, ite_10, ite_11, ne_eq, and_self, or_self, decide_true, decide_false, Bool.not_true, Bool.not_false, Bool.false_eq_true, Nat.reduceEqDiff, Nat.reduceAdd, Int.reduceEq, Int.reduceLT, Int.reduceLE, Int.reduceNeg, Int.reduceAdd, Int.reduceSub, Int.reduceMul, reduceCtorEq, iA, iS, iM, iD, iR, iN, lA, lS, lM, lD, lR, hM.k, wM_of w1, wM_of w5, wM_of w8, wM_of w11]
    refine wM_mono hfl (fun r m1 e h => hnd (1, i) (by rw [ho, stp_ff (by decide)]) m1 (h.cg (fun q => ⟨q.fr, fun z => by rw [ho] at z; exact absurd z (by simp)⟩)))
theorem m_lines (hc : CX v M T n) (hB : B = 0 ∨ B = 1) (hPM : P + 16 < M) {N : Nat} (hT : Tr S v T x P N u i w o) (hG : Gx u m T x P M B) (hm : Mm S v T M n (fun _ => True) m (0, i)) {L : QL} (m0 : L 0 = M) (m1 : L 1 = B) : wS (sWhile cX12_readAll_1 bX12_readAll_1 uX12_readAll_1) L S m (fun k _ L' m' => k = 0 ∧ L' = L ∧ Mm S v T M n (fun m' => FrM M B m m' ∧ (o.1 = 0 → Gx w m' T x P M B)) m' o) := by
  have hT5 : nTk v T ≤ 1001 := hc.1.1.2
  refine wS_While (fun k L' m' => L' = L ∧ ((∃ N u i, Tr S v T x P N u i w o ∧ (k : Int) = nTk v T - i ∧ Mm S v T M n (fun m' => FrM M B m m' ∧ Gx u m' T x P M B) m' (0, i)) ∨ (¬ o.1 = 0 ∧ Mm S v T M n (fun m' => FrM M B m m') m' o))) (nTk v T - i).toNat (by have := hm.1.1; dsimp only at this; omega) ?_ ?_
  · exact ⟨rfl, Or.inl ⟨N, u, i, hT, by have := hm.1.1; dsimp only at this; omega, hm.cg (fun _ => ⟨FrM.rf, hG⟩)⟩⟩
  · clear hT hG hm
    rintro k L' m' ⟨rfl, ⟨N, u, i, hT, hk, hm⟩ | ⟨hd, hm⟩⟩
    · have h37 := hm.live
      have hM := hm.2.1.1
      have hsy := hm.1.2
      rw [if_pos rfl] at hsy
      have hi := hm.1.1
      dsimp only at hi hsy
      have h34 := hsy.1.nu.2.2
      cases N with
      | zero =>
        obtain ⟨-, h1, rfl, rfl⟩ := hT
        have e34 := h34.mpr h1
        simp only [cX12_readAll_1, wE_I, wE_V, wE_F, wE_A, wE_N, wE_1, wE_2, wE_D, wE_B, wE_If, wE_C, wE_CV, wE_SL, wE_SA, wA_0, wA_1, wC_B, wC_E, wC_And, wC_Or, wC_Not, wS_Skip, wS_Brk, wS_Cnt, wS_RetV, wS_Ret, wS_Seq, wS_Set, wS_Inc, wS_Do, wS_Put, wS_PutC, wS_Arr, wS_ArrC, wS_If, wS_Sw, wS_F0, wS_F1, wM_q, lu_ap, aL_ap, ct_0, ct_1, ct_2, ct_3, ct_4, ct_5, headD_1, List.mem_cons, List.not_mem_nil, or_false, false_or, or_true, true_or, true_and, and_true, false_and, and_false, not_true_eq_false, not_false_eq_true, if_true, if_false, nr_20, nr_24, nr_40, nr_41, nr_44, pt_lt, pt_ge, pt_eq, pt_ne, pt_gt, pt_le, pt_E, pt_N, pt_F, ite_10, ite_11, ne_eq, and_self, or_self, decide_true, decide_false, Bool.not_true, Bool.not_false, Bool.false_eq_true, Nat.reduceEqDiff, Nat.reduceAdd, Int.reduceEq, Int.reduceLT, Int.reduceLE, Int.reduceNeg, Int.reduceAdd, Int.reduceSub, Int.reduceMul, reduceCtorEq, iA, iS, iM, iD, iR, iN, lA, lS, lM, lD, lR, m0, hM.k, h37, e34]
        exact hm.cg (fun q => ⟨q.1, fun _ => q.2⟩)
      | succ N =>
        obtain ⟨h1, hC, hT⟩ := hT
        have e34 : ¬ m' M 34 = 0 := fun z => h1 (h34.mp z)
        have hG := hm.2.2.2
        have hm0 := hm.cg (Q' := fun _ => True) (fun _ => trivial)
        rcases hT with ⟨w1, i1, hL, hlt, hT⟩ | ⟨hL, hd⟩
        · simp only [cX12_readAll_1, bX12_readAll_1, uX12_readAll_1, wE_I, wE_V, wE_F, wE_A, wE_N, wE_1, wE_2, wE_D, wE_B, wE_If, wE_C, wE_CV, wE_SL, wE_SA, wA_0, wA_1, wC_B, wC_E, wC_And, wC_Or, wC_Not, wS_Skip, wS_Brk, wS_Cnt, wS_RetV, wS_Ret, wS_Seq, wS_Set, wS_Inc, wS_Do, wS_Put, wS_PutC, wS_Arr, wS_ArrC, wS_If, wS_Sw, wS_F0, wS_F1, wM_q, lu_ap, aL_ap, ct_0, ct_1, ct_2, ct_3, ct_4, ct_5, headD_1, List.mem_cons, List.not_mem_nil, or_false, false_or, or_true, true_or, true_and, and_true, false_and, and_false, not_true_eq_false, not_false_eq_true, if_true, if_false, nr_20, nr_24, nr_40, nr_41, nr_44, pt_lt, pt_ge, pt_eq, pt_ne, pt_gt, pt_le, pt_E, pt_N, pt_F, ite_10, ite_11, ne_eq, and_self, or_self, decide_true, decide_false, Bool.not_true, Bool.not_false, Bool.false_eq_true, Nat.reduceEqDiff, Nat.reduceAdd, Int.reduceEq, Int.reduceLT, Int.reduceLE, Int.reduceNeg, Int.reduceAdd, Int.reduceSub, Int.reduceMul, reduceCtorEq, iA, iS, iM, iD, iR, iN, lA, lS, lM, lD, lR, m0, m1, hM.k, h37, e34]
          refine wM_mono (m_line hc hC hG hm0 hB hPM h1 hL) ?_
          rintro r m2 e hn
          refine wM_mono hn ?_
          rintro r m3 e hm3
          have hi1 := hm3.1.1
          dsimp only at hi1
          exact ⟨(nTk v T - i1).toNat, by omega, Or.inl ⟨N, w1, i1, hT, by omega, hm3.cg (fun q => ⟨hm.2.2.1.tr q.1, q.2 rfl⟩)⟩⟩
        · simp only [cX12_readAll_1, bX12_readAll_1, uX12_readAll_1, wE_I, wE_V, wE_F, wE_A, wE_N, wE_1, wE_2, wE_D, wE_B, wE_If, wE_C, wE_CV, wE_SL, wE_SA, wA_0, wA_1, wC_B, wC_E, wC_And, wC_Or, wC_Not, wS_Skip, wS_Brk, wS_Cnt, wS_RetV, wS_Ret, wS_Seq, wS_Set, wS_Inc, wS_Do, wS_Put, wS_PutC, wS_Arr, wS_ArrC, wS_If, wS_Sw, wS_F0, wS_F1, wM_q, lu_ap, aL_ap, ct_0, ct_1, ct_2, ct_3, ct_4, ct_5, headD_1, List.mem_cons, List.not_mem_nil, or_false, false_or, or_true, true_or, true_and, and_true, false_and, and_false, not_true_eq_false, not_false_eq_true, if_true, if_false, nr_20, nr_24, nr_40, nr_41, nr_44, pt_lt, pt_ge, pt_eq, pt_ne, pt_gt, pt_le, pt_E, pt_N, pt_F, ite_10, ite_11, ne_eq, and_self, or_self, decide_true, decide_false, Bool.not_true, Bool.not_false, Bool.false_eq_true, Nat.reduceEqDiff, Nat.reduceAdd, Int.reduceEq, Int.reduceLT, Int.reduceLE, Int.reduceNeg, Int.reduceAdd, Int.reduceSub, Int.reduceMul, reduceCtorEq, iA, iS, iM, iD, iR, iN, lA, lS, lM, lD, lR, m0, m1, hM.k, h37, e34]
          refine wM_mono (m_line hc hC hG hm0 hB hPM h1 hL) ?_
          rintro r m2 e hn
          refine wM_mono hn ?_
          rintro r m3 e hm3
          exact ⟨0, by omega, Or.inr ⟨hd, hm3.cg (fun q => hm.2.2.1.tr q.1)⟩⟩
    · have h37 : ¬ m' M 37 = 0 := by have := hm.dead hd; omega
      simp only [cX12_readAll_1, wE_I, wE_V, wE_F, wE_A, wE_N, wE_1, wE_2, wE_D, wE_B, wE_If, wE_C, wE_CV, wE_SL, wE_SA, wA_0, wA_1, wC_B, wC_E, wC_And, wC_Or, wC_Not, wS_Skip, wS_Brk, wS_Cnt, wS_RetV, wS_Ret, wS_Seq, wS_Set, wS_Inc, wS_Do, wS_Put, wS_PutC, wS_Arr, wS_ArrC, wS_If, wS_Sw, wS_F0, wS_F1, wM_q, lu_ap, aL_ap, ct_0, ct_1, ct_2, ct_3, ct_4, ct_5, headD_1, List.mem_cons, List.not_mem_nil, or_false, false_or, or_true, true_or, true_and, and_true, false_and, and_false, not_true_eq_false, not_false_eq_true, if_true, if_false, nr_20, nr_24, nr_40, nr_41, nr_44, pt_lt, pt_ge, pt_eq, pt_ne, pt_gt, pt_le, pt_E, pt_N, pt_F, ite_10, ite_11, ne_eq, and_self, or_self, decide_true, decide_false, Bool.not_true, Bool.not_false, Bool.false_eq_true, Nat.reduceEqDiff, Nat.reduceAdd, Int.reduceEq, Int.reduceLT, Int.reduceLE, Int.reduceNeg, Int.reduceAdd, Int.reduceSub, Int.reduceMul, reduceCtorEq, iA, iS, iM, iD, iR, iN, lA, lS, lM, lD, lR, m0, hm.2.1.1.k, h37]
      exact hm.cg (fun q => ⟨q, fun z => absurd z hd⟩)
theorem Gx_0 {z : Int} (hclr : Clr x P z u) (hz : 1 ≤ z ∧ z ≤ 60) (hPM : P + 16 < M) (h2 : m (M + 2) B = z) (h3 : m (M + 3) B = 0 ∧ m (M + 4) B = 0 ∧ m (M + 5) B = 0 ∧ m (M + 6) B = 0 ∧ m (M + 7) B = 0) (h27 : m M 27 = 0) (hf : ∀ k, 0 ≤ k → k < 4 → m (M + 18) (4 * B + k) = 0) : Gx u m T x P M B := by
  obtain ⟨⟨p0, p1, p2⟩, ⟨f0, f1, f2⟩, p7⟩ := hclr
  obtain ⟨g3, g4, g5, g6, g7⟩ := h3
  refine ⟨⟨?_, ?_, ?_, ?_, ?_, ?_, ?_⟩, ⟨by rw [g7, f2], fun k k0 k1 => by omega⟩, ?_, ⟨⟨by rw [h27, p7], by omega, by omega⟩, fun j j0 j1 => by omega⟩, fun k k0 k1 => hf k (by omega) k1⟩
  · (repeat (first | rw [mgm_u (by omega)] | rw [mgm_m (by omega)])); omega
  · (repeat (first | rw [mgm_u (by omega)] | rw [mgm_m (by omega)])); omega
  · (repeat (first | rw [mgm_u (by omega)] | rw [mgm_m (by omega)])); omega
  · (repeat (first | rw [mgm_u (by omega)] | rw [mgm_m (by omega)])); omega
  · intro k k0 k1
    rw [mgm_u (by omega)] at k1
    omega
  · intro k k0 k1
    rw [mgm_u (by omega)] at k1
    omega
  · rw [mgm_u (show P < M by omega), mgm_u (show P + 3 < M by omega), f0, p1]
    refine ⟨by rw [mgm_u (by omega), f0]; rfl, by decide, by decide, fun s hs => absurd hs (Nat.not_lt_zero _), fun s s0 s1 => ?_, fun k k0 ⟨s, hs, hk⟩ => absurd hs (Nat.not_lt_zero _)⟩
    have : (((0 : Int).toNat : Nat) : Int) = 0 := rfl
    omega
  · rw [f2, f0]; rfl
theorem m_readAll (hc : CX v M T n) (hP : Pa S v T x P w o) (hx : x + 3 < P ∧ T + 5 = x) (hB : B = 0 ∨ B = 1) (hPM : P + 16 < M) (hw : Pw S v m M n) (h32 : m M 32 = 0) (h37 : m M 37 = 0) (h38 : m M 38 = -1) (h27 : m M 27 = 0) (h2 : m (M + 2) B = 1) (h3 : m (M + 3) B = 0 ∧ m (M + 4) B = 0 ∧ m (M + 5) B = 0 ∧ m (M + 6) B = 0 ∧ m (M + 7) B = 0) (hf : ∀ k, 0 ≤ k → k < 4 → m (M + 18) (4 * B + k) = 0) : wM mX12_readAll [M, B] S m (fun _ m' => Mm S v T M n (fun m' => FrM M B m m' ∧ (o.1 = 0 → Gx w m' T x P M B)) m' o) := by
  have hM := hw.1
  have h15 : 1 ≤ nTk v T := hc.1.1.1
  have oB : 0 ≤ B ∧ B < 2 := by omega
  simp only [mX12_readAll, sX12_readAll, wM_q]
  generalize hL : aL 0 [2, 0] [M, B] = L
  have m0 : L 0 = M := by rw [← hL]; simp [lu_ap, aL_ap, ct_0, ct_1, ct_2]
  have m1 : L 1 = B := by rw [← hL]; simp [lu_ap, aL_ap, ct_0, ct_1, ct_2]
  clear hL
  have hz : m M 32 = lsO v T 0 := by rw [h32]; unfold lsO; rw [if_pos rfl]
  refine ws_call (fun m' => Mm S v T M n (fun m' => Fp M m m') m' (0, 0)) (by
    simp only [wE_I, wE_V, wE_F, wE_A, wE_N, wE_1, wE_2, wE_D, wE_B, wE_If, wE_C, wE_CV, wE_SL, wE_SA, wA_0, wA_1, wC_B, wC_E, wC_And, wC_Or, wC_Not, wS_Skip, wS_Brk, wS_Cnt, wS_RetV, wS_Ret, wS_Seq, wS_Set, wS_Inc, wS_Do, wS_Put, wS_PutC, wS_Arr, wS_ArrC, wS_If, wS_Sw, wS_F0, wS_F1, wM_q, lu_ap, aL_ap, ct_0, ct_1, ct_2, ct_3, ct_4, ct_5, headD_1, List.mem_cons, List.not_mem_nil, or_false, false_or, or_true, true_or, true_and, and_true, false_and, and_false, not_true_eq_false, not_false_eq_true, if_true, if_false, nr_20, nr_24, nr_40, nr_41, nr_44, pt_lt, pt_ge, pt_eq, pt_ne, pt_gt, pt_le, pt_E, pt_N, pt_F, ite_10, ite_11, ne_eq, and_self, or_self, decide_true, decide_false, Bool.not_true, Bool.not_false, Bool.false_eq_true, Nat.reduceEqDiff, Nat.reduceAdd, Int.reduceEq, Int.reduceLT, Int.reduceLE, Int.reduceNeg, Int.reduceAdd, Int.reduceSub, Int.reduceMul, reduceCtorEq, iA, iS, iM, iD, iR, iN, lA, lS, lM, lD, lR, m0, hM.k]
    refine wM_mono (m_scanO hc hw (i := 0) ⟨Int.le_refl _, by omega⟩ hz h37 h38) ?_
    rintro r m' e ⟨q1, q2, q3⟩
    exact ⟨q1, q2, q3⟩) ?_
  intro w1 hm1
  have hM1 := hm1.2.1.1
  have hsy := hm1.1.2
  rw [if_pos rfl] at hsy
  have h34 := hsy.1.nu.2.2
  dsimp only at h34
  have hg0 : ∀ (z : Int) (u m' : QV), Clr x P z u → (1 ≤ z ∧ z ≤ 60) → (∀ a k, (a = M → k < 32 ∨ 38 < k) → (a = M + 2 → k ≠ B) → m' a k = m a k) → m' (M + 2) B = z → Gx u m' T x P M B := fun z u m' c1 c2 c3 c4 => Gx_0 c1 c2 hPM c4 ⟨by rw [c3 _ _ (by omega) (by omega)]; exact h3.1, by rw [c3 _ _ (by omega) (by omega)]; exact h3.2.1, by rw [c3 _ _ (by omega) (by omega)]; exact h3.2.2.1, by rw [c3 _ _ (by omega) (by omega)]; exact h3.2.2.2.1, by rw [c3 _ _ (by omega) (by omega)]; exact h3.2.2.2.2⟩ (by rw [c3 _ _ (by omega) (by omega)]; exact h27) (fun k k0 k1 => by rw [c3 _ _ (by omega) (by omega)]; exact hf k k0 k1)
  by_cases k1 : kdT v T 0 = 1
  · have e34 := h34.mpr k1
    have ho : o = (0, 0) ∧ Clr x P 1 w := by
      rcases hP with ⟨-, a, b⟩ | ⟨a, -⟩ | ⟨a, -⟩
      · exact ⟨a, b⟩
      · exact absurd k1 a
      · exact absurd k1 a
    obtain ⟨rfl, hcl⟩ := ho
    simp only [wE_I, wE_V, wE_F, wE_A, wE_N, wE_1, wE_2, wE_D, wE_B, wE_If, wE_C, wE_CV, wE_SL, wE_SA, wA_0, wA_1, wC_B, wC_E, wC_And, wC_Or, wC_Not, wS_Skip, wS_Brk, wS_Cnt, wS_RetV, wS_Ret, wS_Seq, wS_Set, wS_Inc, wS_Do, wS_Put, wS_PutC, wS_Arr, wS_ArrC, wS_If, wS_Sw, wS_F0, wS_F1, wM_q, lu_ap, aL_ap, ct_0, ct_1, ct_2, ct_3, ct_4, ct_5, headD_1, List.mem_cons, List.not_mem_nil, or_false, false_or, or_true, true_or, true_and, and_true, false_and, and_false, not_true_eq_false, not_false_eq_true, if_true, if_false, nr_20, nr_24, nr_40, nr_41, nr_44, pt_lt, pt_ge, pt_eq, pt_ne, pt_gt, pt_le, pt_E, pt_N, pt_F, ite_10, ite_11, ne_eq, and_self, or_self, decide_true, decide_false, Bool.not_true, Bool.not_false, Bool.false_eq_true, Nat.reduceEqDiff, Nat.reduceAdd, Int.reduceEq, Int.reduceLT, Int.reduceLE, Int.reduceNeg, Int.reduceAdd, Int.reduceSub, Int.reduceMul, reduceCtorEq, iA, iS, iM, iD, iR, iN, lA, lS, lM, lD, lR, m0, hM1.k, e34]
    exact hm1.cg (fun q => ⟨q.fr, fun _ => hg0 1 w _ hcl (by decide) (fun a k q1 q2 => q a k q1) (by rw [q _ _ (by omega)]; exact h2)⟩)
  · have e34 : ¬ w1 M 34 = 0 := fun z => k1 (h34.mp z)
    have hQF : Qz M (fun m' => Fp M m m') := fun w1 w2 q1 q2 => q1.tr q2
    refine ws_step (L' := L) (w := w1) (by simp only [wE_I, wE_V, wE_F, wE_A, wE_N, wE_1, wE_2, wE_D, wE_B, wE_If, wE_C, wE_CV, wE_SL, wE_SA, wA_0, wA_1, wC_B, wC_E, wC_And, wC_Or, wC_Not, wS_Skip, wS_Brk, wS_Cnt, wS_RetV, wS_Ret, wS_Seq, wS_Set, wS_Inc, wS_Do, wS_Put, wS_PutC, wS_Arr, wS_ArrC, wS_If, wS_Sw, wS_F0, wS_F1, wM_q, lu_ap, aL_ap, ct_0, ct_1, ct_2, ct_3, ct_4, ct_5, headD_1, List.mem_cons, List.not_mem_nil, or_false, false_or, or_true, true_or, true_and, and_true, false_and, and_false, not_true_eq_false, not_false_eq_true, if_true, if_false, nr_20, nr_24, nr_40, nr_41, nr_44, pt_lt, pt_ge, pt_eq, pt_ne, pt_gt, pt_le, pt_E, pt_N, pt_F, ite_10, ite_11, ne_eq, and_self, or_self, decide_true, decide_false, Bool.not_true, Bool.not_false, Bool.false_eq_true, Nat.reduceEqDiff, Nat.reduceAdd, Int.reduceEq, Int.reduceLT, Int.reduceLE, Int.reduceNeg, Int.reduceAdd, Int.reduceSub, Int.reduceMul, reduceCtorEq, iA, iS, iM, iD, iR, iN, lA, lS, lM, lD, lR, m0, hM1.k, e34]) ?_
    refine ws_call (fun m' => Mm S v T M n (fun m' => Fp M m m') m' (stp (fKd v T 256) (0, 0))) (by
      have := hm1.nw hc hQF (j := 0) (by decide)
      rw [show (256 : Int) + (pmN 0 : Nat) = 256 from rfl] at this
      simp only [wE_I, wE_V, wE_F, wE_A, wE_N, wE_1, wE_2, wE_D, wE_B, wE_If, wE_C, wE_CV, wE_SL, wE_SA, wA_0, wA_1, wC_B, wC_E, wC_And, wC_Or, wC_Not, wS_Skip, wS_Brk, wS_Cnt, wS_RetV, wS_Ret, wS_Seq, wS_Set, wS_Inc, wS_Do, wS_Put, wS_PutC, wS_Arr, wS_ArrC, wS_If, wS_Sw, wS_F0, wS_F1, wM_q, lu_ap, aL_ap, ct_0, ct_1, ct_2, ct_3, ct_4, ct_5, headD_1, List.mem_cons, List.not_mem_nil, or_false, false_or, or_true, true_or, true_and, and_true, false_and, and_false, not_true_eq_false, not_false_eq_true, if_true, if_false, nr_20, nr_24, nr_40, nr_41, nr_44, pt_lt, pt_ge, pt_eq, pt_ne, pt_gt, pt_le, pt_E, pt_N, pt_F, ite_10, ite_11, ne_eq, and_self, or_self, decide_true, decide_false, Bool.not_true, Bool.not_false, Bool.false_eq_true, Nat.reduceEqDiff, Nat.reduceAdd, Int.reduceEq, Int.reduceLT, Int.reduceLE, Int.reduceNeg, Int.reduceAdd, Int.reduceSub, Int.reduceMul, reduceCtorEq, iA, iS, iM, iD, iR, iN, lA, lS, lM, lD, lR, m0, hM1.k]
      exact this) ?_
    intro w2 hm2
    have hM2 := hm2.2.1.1
    have hQ2 : Qz M (fun m' => (∀ a k, (a = M → k < 32 ∨ 38 < k) → (a = M + 2 → k ≠ B) → m' a k = m a k) ∧ ((stp (fNu v T 1 60) (stp (fKd v T 256) (0, 0))).1 = 0 → m' (M + 2) B = nmT v T 1)) := fun w1 w2 q1 q2 => ⟨fun a k p1 p2 => (q2 a k p1).trans (q1.1 a k p1 p2), fun z => by rw [q2 _ _ (by omega)]; exact q1.2 z⟩
    rw [wS_Seq]
    refine wS_mono (Q' := fun k _ L' m' => k = 0 ∧ L' = L ∧ Mm S v T M n (fun m' => (∀ a k, (a = M → k < 32 ∨ 38 < k) → (a = M + 2 → k ≠ B) → m' a k = m a k) ∧ ((stp (fNu v T 1 60) (stp (fKd v T 256) (0, 0))).1 = 0 → m' (M + 2) B = nmT v T 1)) m' (stp (fNu v T 1 60) (stp (fKd v T 256) (0, 0)))) ?_ ?_
    · simp only [wE_I, wE_V, wE_F, wE_A, wE_N, wE_1, wE_2, wE_D, wE_B, wE_If, wE_C, wE_CV, wE_SL, wE_SA, wA_0, wA_1, wC_B, wC_E, wC_And, wC_Or, wC_Not, wS_Skip, wS_Brk, wS_Cnt, wS_RetV, wS_Ret, wS_Seq, wS_Set, wS_Inc, wS_Do, wS_Put, wS_PutC, wS_Arr, wS_ArrC, wS_If, wS_Sw, wS_F0, wS_F1, wM_q, lu_ap, aL_ap, ct_0, ct_1, ct_2, ct_3, ct_4, ct_5, headD_1, List.mem_cons, List.not_mem_nil, or_false, false_or, or_true, true_or, true_and, and_true, false_and, and_false, not_true_eq_false, not_false_eq_true, if_true, if_false, nr_20, nr_24, nr_40, nr_41, nr_44, pt_lt, pt_ge, pt_eq, pt_ne, pt_gt, pt_le, pt_E, pt_N, pt_F, ite_10, ite_11, ne_eq, and_self, or_self, decide_true, decide_false, Bool.not_true, Bool.not_false, Bool.false_eq_true, Nat.reduceEqDiff, Nat.reduceAdd, Int.reduceEq, Int.reduceLT, Int.reduceLE, Int.reduceNeg, Int.reduceAdd, Int.reduceSub, Int.reduceMul, reduceCtorEq, iA, iS, iM, iD, iR, iN, lA, lS, lM, lD, lR, m0, m1, hM2.k, hM2.p1]
      refine wM_mono (hm2.nl hc hQF (lo := 1) (hi := 60) (by decide)) ?_
      rintro r w3 e ⟨hm3, hr⟩
      have hM3 := hm3.2.1.1
      have hm4 := hm3.put (a := M + 2) (k := B) (z := r) (Q' := fun m' => (∀ a k, (a = M → k < 32 ∨ 38 < k) → (a = M + 2 → k ≠ B) → m' a k = m a k) ∧ ((stp (fNu v T 1 60) (stp (fKd v T 256) (0, 0))).1 = 0 → m' (M + 2) B = nmT v T 1)) (by omega) (by rw [hM3.a2]; rfl) (fun w' q => ⟨fun a k p1 p2 => by rw [vu_ne (fun e => p2 e.1 e.2)]; exact q a k p1, fun z => by
        rw [vu_is, hr z]
        congr 1
        exact (stp_i (stp_i z).1).2.2⟩)
      simp only [hM3.a2, hM3.n2, oB, wE_I, wE_V, wE_F, wE_A, wE_N, wE_1, wE_2, wE_D, wE_B, wE_If, wE_C, wE_CV, wE_SL, wE_SA, wA_0, wA_1, wC_B, wC_E, wC_And, wC_Or, wC_Not, wS_Skip, wS_Brk, wS_Cnt, wS_RetV, wS_Ret, wS_Seq, wS_Set, wS_Inc, wS_Do, wS_Put, wS_PutC, wS_Arr, wS_ArrC, wS_If, wS_Sw, wS_F0, wS_F1, wM_q, lu_ap, aL_ap, ct_0, ct_1, ct_2, ct_3, ct_4, ct_5, headD_1, List.mem_cons, List.not_mem_nil, or_false, false_or, or_true, true_or, true_and, and_true, false_and, and_false, not_true_eq_false, not_false_eq_true, if_true, if_false, nr_20, nr_24, nr_40, nr_41, nr_44, pt_lt, pt_ge, pt_eq, pt_ne, pt_gt, pt_le, pt_E, pt_N, pt_F, ite_10, ite_11, ne_eq, and_self, or_self, decide_true, decide_false, Bool.not_true, Bool.not_false, Bool.false_eq_true, Nat.reduceEqDiff, Nat.reduceAdd, Int.reduceEq, Int.reduceLT, Int.reduceLE, Int.reduceNeg, Int.reduceAdd, Int.reduceSub, Int.reduceMul, reduceCtorEq]
      exact hm4
    rintro k y L1 w3 ⟨rfl, rfl, hm3⟩
    rw [if_pos rfl]
    have hM3 := hm3.2.1.1
    refine ws_call (fun m' => Mm S v T M n (fun m' => (∀ a k, (a = M → k < 32 ∨ 38 < k) → (a = M + 2 → k ≠ B) → m' a k = m a k) ∧ ((stp (fNu v T 1 60) (stp (fKd v T 256) (0, 0))).1 = 0 → m' (M + 2) B = nmT v T 1)) m' (stO v T)) (by
      simp only [wE_I, wE_V, wE_F, wE_A, wE_N, wE_1, wE_2, wE_D, wE_B, wE_If, wE_C, wE_CV, wE_SL, wE_SA, wA_0, wA_1, wC_B, wC_E, wC_And, wC_Or, wC_Not, wS_Skip, wS_Brk, wS_Cnt, wS_RetV, wS_Ret, wS_Seq, wS_Set, wS_Inc, wS_Do, wS_Put, wS_PutC, wS_Arr, wS_ArrC, wS_If, wS_Sw, wS_F0, wS_F1, wM_q, lu_ap, aL_ap, ct_0, ct_1, ct_2, ct_3, ct_4, ct_5, headD_1, List.mem_cons, List.not_mem_nil, or_false, false_or, or_true, true_or, true_and, and_true, false_and, and_false, not_true_eq_false, not_false_eq_true, if_true, if_false, nr_20, nr_24, nr_40, nr_41, nr_44, pt_lt, pt_ge, pt_eq, pt_ne, pt_gt, pt_le, pt_E, pt_N, pt_F, ite_10, ite_11, ne_eq, and_self, or_self, decide_true, decide_false, Bool.not_true, Bool.not_false, Bool.false_eq_true, Nat.reduceEqDiff, Nat.reduceAdd, Int.reduceEq, Int.reduceLT, Int.reduceLE, Int.reduceNeg, Int.reduceAdd, Int.reduceSub, Int.reduceMul, reduceCtorEq, iA, iS, iM, iD, iR, iN, lA, lS, lM, lD, lR, m0, hM3.k]
      exact hm3.nd hc hQ2 (s := 59) (by unfold isSg; omega)) ?_
    intro w4 hm4
    have hM4 := hm4.2.1.1
    have hfr : ∀ m' : QV, (∀ a k, (a = M → k < 32 ∨ 38 < k) → (a = M + 2 → k ≠ B) → m' a k = m a k) → FrM M B m m' := fun m' q a k q1 q2 q3 q4 q5 q6 q7 => q a k (fun e => (q1 e).2.1) (fun e => q5 (by omega))
    rcases hP with ⟨a, -⟩ | ⟨-, hd, rfl⟩ | ⟨-, hs, u, N, hcl, hb, hC, hT⟩
    · exact absurd a k1
    · rw [wS_Seq]
      refine wS_mono (Q' := fun k _ L' m' => k = 0 ∧ L' = L1 ∧ m' = w4) ?_ ?_
      · have h37 : ¬ w4 M 37 = 0 := by have := hm4.dead hd; omega
        refine wS_While (fun k L' m' => L' = L1 ∧ m' = w4) 0 (by decide) ⟨rfl, rfl⟩ ?_
        rintro k L' m' ⟨rfl, rfl⟩
        simp only [cX12_readAll_1, wE_I, wE_V, wE_F, wE_A, wE_N, wE_1, wE_2, wE_D, wE_B, wE_If, wE_C, wE_CV, wE_SL, wE_SA, wA_0, wA_1, wC_B, wC_E, wC_And, wC_Or, wC_Not, wS_Skip, wS_Brk, wS_Cnt, wS_RetV, wS_Ret, wS_Seq, wS_Set, wS_Inc, wS_Do, wS_Put, wS_PutC, wS_Arr, wS_ArrC, wS_If, wS_Sw, wS_F0, wS_F1, wM_q, lu_ap, aL_ap, ct_0, ct_1, ct_2, ct_3, ct_4, ct_5, headD_1, List.mem_cons, List.not_mem_nil, or_false, false_or, or_true, true_or, true_and, and_true, false_and, and_false, not_true_eq_false, not_false_eq_true, if_true, if_false, nr_20, nr_24, nr_40, nr_41, nr_44, pt_lt, pt_ge, pt_eq, pt_ne, pt_gt, pt_le, pt_E, pt_N, pt_F, ite_10, ite_11, ne_eq, and_self, or_self, decide_true, decide_false, Bool.not_true, Bool.not_false, Bool.false_eq_true, Nat.reduceEqDiff, Nat.reduceAdd, Int.reduceEq, Int.reduceLT, Int.reduceLE, Int.reduceNeg, Int.reduceAdd, Int.reduceSub, Int.reduceMul, reduceCtorEq, iA, iS, iM, iD, iR, iN, lA, lS, lM, lD, lR, m0, hM4.k, h37]
      rintro k y L2 w5 ⟨rfl, rfl, rfl⟩
      simp only [wE_I, wE_V, wE_F, wE_A, wE_N, wE_1, wE_2, wE_D, wE_B, wE_If, wE_C, wE_CV, wE_SL, wE_SA, wA_0, wA_1, wC_B, wC_E, wC_And, wC_Or, wC_Not, wS_Skip, wS_Brk, wS_Cnt, wS_RetV, wS_Ret, wS_Seq, wS_Set, wS_Inc, wS_Do, wS_Put, wS_PutC, wS_Arr, wS_ArrC, wS_If, wS_Sw, wS_F0, wS_F1, wM_q, lu_ap, aL_ap, ct_0, ct_1, ct_2, ct_3, ct_4, ct_5, headD_1, List.mem_cons, List.not_mem_nil, or_false, false_or, or_true, true_or, true_and, and_true, false_and, and_false, not_true_eq_false, not_false_eq_true, if_true, if_false, nr_20, nr_24, nr_40, nr_41, nr_44, pt_lt, pt_ge, pt_eq, pt_ne, pt_gt, pt_le, pt_E, pt_N, pt_F, ite_10, ite_11, ne_eq, and_self, or_self, decide_true, decide_false, Bool.not_true, Bool.not_false, Bool.false_eq_true, Nat.reduceEqDiff, Nat.reduceAdd, Int.reduceEq, Int.reduceLT, Int.reduceLE, Int.reduceNeg, Int.reduceAdd, Int.reduceSub, Int.reduceMul, reduceCtorEq, iA, iS, iM, iD, iR, iN, lA, lS, lM, lD, lR, if_pos]
      exact hm4.cg (fun q => ⟨hfr _ q.1, fun z => absurd z hd⟩)
    · have hz0 : (stO v T).1 = 0 := by rw [hs]
      have hval := hm4.2.2.2 (stp_i hz0).1
      have hG := hg0 (nmT v T 1) u w4 hcl hb hm4.2.2.1 hval
      rw [hs] at hm4
      rw [wS_Seq]
      refine wS_mono (m_lines hc hB hPM hT hG (hm4.cg (fun _ => trivial)) m0 m1) ?_
      rintro k y L2 w5 ⟨rfl, rfl, hm5⟩
      simp only [wE_I, wE_V, wE_F, wE_A, wE_N, wE_1, wE_2, wE_D, wE_B, wE_If, wE_C, wE_CV, wE_SL, wE_SA, wA_0, wA_1, wC_B, wC_E, wC_And, wC_Or, wC_Not, wS_Skip, wS_Brk, wS_Cnt, wS_RetV, wS_Ret, wS_Seq, wS_Set, wS_Inc, wS_Do, wS_Put, wS_PutC, wS_Arr, wS_ArrC, wS_If, wS_Sw, wS_F0, wS_F1, wM_q, lu_ap, aL_ap, ct_0, ct_1, ct_2, ct_3, ct_4, ct_5, headD_1, List.mem_cons, List.not_mem_nil, or_false, false_or, or_true, true_or, true_and, and_true, false_and, and_false, not_true_eq_false, not_false_eq_true, if_true, if_false, nr_20, nr_24, nr_40, nr_41, nr_44, pt_lt, pt_ge, pt_eq, pt_ne, pt_gt, pt_le, pt_E, pt_N, pt_F, ite_10, ite_11, ne_eq, and_self, or_self, decide_true, decide_false, Bool.not_true, Bool.not_false, Bool.false_eq_true, Nat.reduceEqDiff, Nat.reduceAdd, Int.reduceEq, Int.reduceLT, Int.reduceLE, Int.reduceNeg, Int.reduceAdd, Int.reduceSub, Int.reduceMul, reduceCtorEq, iA, iS, iM, iD, iR, iN, lA, lS, lM, lD, lR, if_pos]
      exact hm5.cg (fun q => ⟨(hfr _ hm4.2.2.1).tr q.1, q.2⟩)
end RA
