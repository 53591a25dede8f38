/-! FORECASTS FOLLOWED: the reference's -/
theorem td16 {n : Int} : (0 ≤ n → 0 ≤ n.tdiv 16 ∧ n.tdiv 16 ≤ n) ∧ (n < 0 → n ≤ n.tdiv 16 ∧ n.tdiv 16 ≤ 0) := by
  refine ⟨fun h => ?_, fun h => ?_⟩
  · rw [Int.tdiv_eq_ediv_of_nonneg h]
    omega
  · obtain ⟨k, rfl⟩ : ∃ k, n = -k := ⟨-n, by omega⟩
    rw [Int.neg_tdiv, Int.tdiv_eq_ediv_of_nonneg (show 0 ≤ k by omega)]
    omega
/-- z sixteenths of one, the rest of the other -/
def mixF (z x y : Int) : Int := hd ((z * x + (16 - z) * y).tdiv 16)
theorem mul_16 {z x : Int} (hz : 0 ≤ z ∧ z ≤ 16) (hx : -8000000000 ≤ x ∧ x ≤ 8000000000) : -128000000000 ≤ z * x ∧ z * x ≤ 128000000000 := by
  have h1 := Int.mul_le_mul_of_nonneg_left hx.1 hz.1
  have h2 := Int.mul_le_mul_of_nonneg_left hx.2 hz.1
  omega
section FO
variable {S : QS} {v w : QV} {b M P B s : Int} {f : Int → Int}
theorem m_mixed {z x y : Int} (hz : 0 ≤ z ∧ z ≤ 16) (hx : -8000000000 ≤ x ∧ x ≤ 8000000000) (hy : -8000000000 ≤ y ∧ y ≤ 8000000000) : mX12_mixed [z, x, y] S v = some (mixF z x y, v) := by
  have b1 := mul_16 hz hx
  have b2 := mul_16 (z := 16 - z) (by omega) hy
  have e0 : w32 (16 - z) = 16 - z := w32_e (by omega)
  have e1 : w64 (z * x) = z * x := by clear e0; exact w64_e (by omega)
  have e2 : w64 ((16 - z) * y) = (16 - z) * y := by clear e0 e1; exact w64_e (by omega)
  unfold mixF
  generalize hp : z * x = p at *
  generalize hq : (16 - z) * y = q at *
  have e3 : w64 (p + q) = p + q := by clear e0 e1 e2; exact w64_e (by omega)
  have ht := td16 (n := p + q)
  generalize hT : (p + q).tdiv 16 = T at *
  have e4 : w64 T = T := by clear e0 e1 e2 e3; exact w64_e (by omega)
  have hh := m_held (S := S) (v := v) (x := T)
  apply wM_eq
  simp only [mX12_mixed, sX12_mixed, wE_I, wE_V, wE_F, wE_A, wE_N, wE_1, wE_2, wE_D, wE_B, wE_If, wE_C, wE_CV, wE_SL, wE_SA, wA_0, wA_1, wC_B, wC_E, wC_And, wC_Or, wC_Not, wS_Skip, wS_Brk, wS_Cnt, wS_RetV, wS_Ret, wS_Seq, wS_Set, wS_Inc, wS_Do, wS_Put, wS_PutC, wS_Arr, wS_ArrC, wS_If, wS_Sw, wS_F0, wS_F1, wM_q, lu_ap, aL_ap, ct_0, ct_1, ct_2, ct_3, ct_4, ct_5, headD_1, List.mem_cons, List.not_mem_nil, or_false, false_or, or_true, true_or, true_and, and_true, false_and, and_false, not_true_eq_false, not_false_eq_true, if_true, if_false, nr_20, nr_24, nr_40, nr_41, nr_44, pt_lt, pt_ge, pt_eq, pt_ne, pt_gt, pt_le, pt_E, pt_N, pt_F, ite_10, ite_11, ne_eq, and_self, or_self, decide_true, decide_false, Bool.not_true, Bool.not_false, Bool.false_eq_true, Nat.reduceEqDiff, Nat.reduceAdd, Int.reduceEq, Int.reduceLT, Int.reduceLE, Int.reduceNeg, Int.reduceAdd, Int.reduceSub, Int.reduceMul, reduceCtorEq, iA, iS, iM, iD, iR, iN, lA, lS, lM, lD, lR, e0, hp, hq, e1, e2, e3, hT, e4, wM_of hh]
theorem m_keepTold (h : LMo S v M) {m x t : Int} (hm : 0 ≤ m ∧ m < 4) (h3 : 0 ≤ f (647 + 112 * m + 3)) : wM mX12_keepTold [M, m, x, t] S (vf v (M + 1) f) (fun _ w => ∃ g, w = vf v (M + 1) g ∧ (∀ i, 0 ≤ i → i < 29 → g (647 + 112 * m + (53 + i)) = f (647 + 112 * m + (52 + i)) ∧ g (647 + 112 * m + (83 + i)) = f (647 + 112 * m + (82 + i))) ∧ g (647 + 112 * m + 52) = x ∧ g (647 + 112 * m + 82) = (if t = 0 then 0 else 1) ∧ g (647 + 112 * m + 3) = (if f (647 + 112 * m + 3) < 30 then f (647 + 112 * m + 3) + 1 else f (647 + 112 * m + 3)) ∧ ∀ k, k < 647 + 112 * m + 52 ∨ 647 + 112 * m + 112 ≤ k → k ≠ 647 + 112 * m + 3 → g k = f k) := by
  have hw := fun g => h.keep (Kp.vf h (f := g))
  have aF := fun g z (q : 0 ≤ z ∧ z < 112) => m_atForecast (S := S) (v := vf v (M + 1) g) hm q
  have qF : ∀ z, 0 ≤ z ∧ z < 112 → 0 ≤ 647 + 112 * m + z ∧ 647 + 112 * m + z < 1095 := fun z q => by omega
  simp only [mX12_keepTold, sX12_keepTold, wE_I, wE_V, wE_F, wE_A, wE_N, wE_1, wE_2, wE_D, wE_B, wE_If, wE_C, wE_CV, wE_SL, wE_SA, wA_0, wA_1, wC_B, wC_E, wC_And, wC_Or, wC_Not, wS_Skip, wS_Brk, wS_Cnt, wS_RetV, wS_Ret, wS_Seq, wS_Set, wS_Inc, wS_Do, wS_Put, wS_PutC, wS_Arr, wS_ArrC, wS_If, wS_Sw, wS_F0, wS_F1, wM_q, lu_ap, aL_ap, ct_0, ct_1, ct_2, ct_3, ct_4, ct_5, headD_1, List.mem_cons, List.not_mem_nil, or_false, false_or, or_true, true_or, true_and, and_true, false_and, and_false, not_true_eq_false, not_false_eq_true, if_true, if_false, nr_20, nr_24, nr_40, nr_41, nr_44, pt_lt, pt_ge, pt_eq, pt_ne, pt_gt, pt_le, pt_E, pt_N, pt_F, ite_10, ite_11, ne_eq, and_self, or_self, decide_true, decide_false, Bool.not_true, Bool.not_false, Bool.false_eq_true, Nat.reduceEqDiff, Nat.reduceAdd, Int.reduceEq, Int.reduceLT, Int.reduceLE, Int.reduceNeg, Int.reduceAdd, Int.reduceSub, Int.reduceMul, reduceCtorEq, iA, iS, iM, iD, iR, iN, lA, lS, lM, lD, lR]
  generalize hC : 647 + 112 * m = C at *
  refine wS_While (fun k L w => ∃ j : Int, (L 0 = M ∧ L 1 = m ∧ L 2 = x ∧ L 4 = t ∧ L 5 = j) ∧ (0 ≤ j ∧ j ≤ 29 ∧ (k : Int) = j) ∧ ∃ g, w = vf v (M + 1) g ∧ (∀ i, j ≤ i → i < 29 → g (C + (53 + i)) = f (C + (52 + i)) ∧ g (C + (83 + i)) = f (C + (82 + i))) ∧ ∀ k, (k < C + (53 + j) ∨ C + 82 ≤ k) → (k < C + (83 + j) ∨ C + 112 ≤ k) → g k = f k) 29 (by decide) ?_ ?_
  · exact ⟨29, by simp [lu_ap, aL_ap, ct_0, ct_1, ct_2], by omega, f, rfl, fun i i0 i1 => by omega, fun _ _ _ => rfl⟩
  · rintro k L w ⟨j, ⟨m0, m1, m2, m4, m5⟩, hj, g, rfl, g1, g2⟩
    by_cases h0 : 0 < j
    · have e1 : w32 (52 + j) = 52 + j := w32_e (by omega)
      have e2 : w32 (52 + j - 1) = 52 + j - 1 := by clear e1; exact w32_e (by omega)
      have e3 : w32 (82 + j) = 82 + j := by clear e1 e2; exact w32_e (by omega)
      have e4 : w32 (82 + j - 1) = 82 + j - 1 := by clear e1 e2 e3; exact w32_e (by omega)
      have e5 : w32 (j + -1) = j - 1 := by clear e1 e2 e3 e4; rw [w32_e (by omega)]; omega
      have r1 : 0 ≤ 52 + j ∧ 52 + j < 112 := by clear e1 e2 e3 e4 e5; omega
      have r2 : 0 ≤ 52 + j - 1 ∧ 52 + j - 1 < 112 := by clear e1 e2 e3 e4 e5; omega
      have r3 : 0 ≤ 82 + j ∧ 82 + j < 112 := by clear e1 e2 e3 e4 e5; omega
      have r4 : 0 ≤ 82 + j - 1 ∧ 82 + j - 1 < 112 := by clear e1 e2 e3 e4 e5; omega
      simp only [cX12_keepTold_1, bX12_keepTold_1, uX12_keepTold_1, wE_I, wE_V, wE_F, wE_A, wE_N, wE_1, wE_2, wE_D, wE_B, wE_If, wE_C, wE_CV, wE_SL, wE_SA, wA_0, wA_1, wC_B, wC_E, wC_And, wC_Or, wC_Not, wS_Skip, wS_Brk, wS_Cnt, wS_RetV, wS_Ret, wS_Seq, wS_Set, wS_Inc, wS_Do, wS_Put, wS_PutC, wS_Arr, wS_ArrC, wS_If, wS_Sw, wS_F0, wS_F1, wM_q, lu_ap, aL_ap, ct_0, ct_1, ct_2, ct_3, ct_4, ct_5, headD_1, List.mem_cons, List.not_mem_nil, or_false, false_or, or_true, true_or, true_and, and_true, false_and, and_false, not_true_eq_false, not_false_eq_true, if_true, if_false, nr_20, nr_24, nr_40, nr_41, nr_44, pt_lt, pt_ge, pt_eq, pt_ne, pt_gt, pt_le, pt_E, pt_N, pt_F, ite_10, ite_11, ne_eq, and_self, or_self, decide_true, decide_false, Bool.not_true, Bool.not_false, Bool.false_eq_true, Nat.reduceEqDiff, Nat.reduceAdd, Int.reduceEq, Int.reduceLT, Int.reduceLE, Int.reduceNeg, Int.reduceAdd, Int.reduceSub, Int.reduceMul, reduceCtorEq, iA, iS, iM, iD, iR, iN, lA, lS, lM, lD, lR, h.k, (hw _).p0, h.a1, h.n1, vf_is, vf_vu, m0, m1, m2, m4, m5, h0, e1, e2, e3, e4, e5, wM_of (aF _ _ r1), wM_of (aF _ _ r2), wM_of (aF _ _ r3), wM_of (aF _ _ r4), qF _ r1, qF _ r2, qF _ r3, qF _ r4]
      clear e1 e2 e3 e4 e5
      refine ⟨(j - 1).toNat, by omega, j - 1, rfl, by omega, _, rfl, fun i i0 i1 => ?_, fun k q1 q2 => ?_⟩
      · by_cases hi : i = j - 1
        · subst hi
          refine ⟨?_, ?_⟩
          · rw [fu_ne (by omega), show C + (53 + (j - 1)) = C + (52 + j) by omega, fu_is, g2 _ (by omega) (by omega)]
            congr 1
            omega
          · rw [show C + (83 + (j - 1)) = C + (82 + j) by omega, fu_is, fu_ne (by omega), g2 _ (by omega) (by omega)]
            congr 1
            omega
        · obtain ⟨x1, x2⟩ := g1 i (by omega) i1
          exact ⟨by rw [fu_ne (by omega), fu_ne (by omega)]; exact x1, by rw [fu_ne (by omega), fu_ne (by omega)]; exact x2⟩
      · rw [fu_ne (by omega), fu_ne (by omega)]
        exact g2 k (by omega) (by omega)
    · have j0 : j = 0 := by omega
      subst j0
      have r1 : 0 ≤ (52 : Int) ∧ (52 : Int) < 112 := by decide
      have r2 : 0 ≤ (82 : Int) ∧ (82 : Int) < 112 := by decide
      have r3 : 0 ≤ (3 : Int) ∧ (3 : Int) < 112 := by decide
      have hr : ∀ z, fu (fu g (C + 52) x) (C + 82) z (C + 3) = f (C + 3) := fun z => by
        rw [fu_ne (by omega), fu_ne (by omega)]
        exact g2 _ (by omega) (by omega)
      have fin : ∀ z y : Int, ∀ g' : Int → Int, (∀ k, k ≠ C + 3 → g' k = fu (fu g (C + 52) x) (C + 82) z k) → g' (C + 3) = y → (∀ i, 0 ≤ i → i < 29 → g' (C + (53 + i)) = f (C + (52 + i)) ∧ g' (C + (83 + i)) = f (C + (82 + i))) ∧ g' (C + 52) = x ∧ g' (C + 82) = z ∧ g' (C + 3) = y ∧ ∀ k, k < C + 52 ∨ C + 112 ≤ k → k ≠ C + 3 → g' k = f k := by
        intro z y g' q1 q2
        refine ⟨fun i i0 i1 => ?_, ?_, ?_, q2, fun k k0 k1 => ?_⟩
        · obtain ⟨x1, x2⟩ := g1 i i0 i1
          exact ⟨by rw [q1 _ (by omega), fu_ne (by omega), fu_ne (by omega)]; exact x1, by rw [q1 _ (by omega), fu_ne (by omega), fu_ne (by omega)]; exact x2⟩
        · rw [q1 _ (by omega), fu_ne (by omega), fu_is]
        · rw [q1 _ (by omega), fu_is]
        · rw [q1 _ k1, fu_ne (by omega), fu_ne (by omega)]
          exact g2 k (by omega) (by omega)
      by_cases ht : t = 0
      · by_cases hc : f (C + 3) < 30
        · have e1 : w64 (f (C + 3) + 1) = f (C + 3) + 1 := w64_e (by omega)
          simp only [cX12_keepTold_1, wE_I, wE_V, wE_F, wE_A, wE_N, wE_1, wE_2, wE_D, wE_B, wE_If, wE_C, wE_CV, wE_SL, wE_SA, wA_0, wA_1, wC_B, wC_E, wC_And, wC_Or, wC_Not, wS_Skip, wS_Brk, wS_Cnt, wS_RetV, wS_Ret, wS_Seq, wS_Set, wS_Inc, wS_Do, wS_Put, wS_PutC, wS_Arr, wS_ArrC, wS_If, wS_Sw, wS_F0, wS_F1, wM_q, lu_ap, aL_ap, ct_0, ct_1, ct_2, ct_3, ct_4, ct_5, headD_1, List.mem_cons, List.not_mem_nil, or_false, false_or, or_true, true_or, true_and, and_true, false_and, and_false, not_true_eq_false, not_false_eq_true, if_true, if_false, nr_20, nr_24, nr_40, nr_41, nr_44, pt_lt, pt_ge, pt_eq, pt_ne, pt_gt, pt_le, pt_E, pt_N, pt_F, ite_10, ite_11, ne_eq, and_self, or_self, decide_true, decide_false, Bool.not_true, Bool.not_false, Bool.false_eq_true, Nat.reduceEqDiff, Nat.reduceAdd, Int.reduceEq, Int.reduceLT, Int.reduceLE, Int.reduceNeg, Int.reduceAdd, Int.reduceSub, Int.reduceMul, reduceCtorEq, iA, iS, iM, iD, iR, iN, lA, lS, lM, lD, lR, h.k, (hw _).p0, h.a1, h.n1, vf_is, vf_vu, m0, m1, m2, m4, m5, h0, wM_of (aF _ _ r1), wM_of (aF _ _ r2), wM_of (aF _ _ r3), qF _ r1, qF _ r2, qF _ r3, hr, ht, hc, e1]
          clear e1
          exact ⟨_, rfl, fin 0 _ _ (fun k hk => fu_ne hk) fu_is⟩
        · simp only [cX12_keepTold_1, wE_I, wE_V, wE_F, wE_A, wE_N, wE_1, wE_2, wE_D, wE_B, wE_If, wE_C, wE_CV, wE_SL, wE_SA, wA_0, wA_1, wC_B, wC_E, wC_And, wC_Or, wC_Not, wS_Skip, wS_Brk, wS_Cnt, wS_RetV, wS_Ret, wS_Seq, wS_Set, wS_Inc, wS_Do, wS_Put, wS_PutC, wS_Arr, wS_ArrC, wS_If, wS_Sw, wS_F0, wS_F1, wM_q, lu_ap, aL_ap, ct_0, ct_1, ct_2, ct_3, ct_4, ct_5, headD_1, List.mem_cons, List.not_mem_nil, or_false, false_or, or_true, true_or, true_and, and_true, false_and, and_false, not_true_eq_false, not_false_eq_true, if_true, if_false, nr_20, nr_24, nr_40, nr_41, nr_44, pt_lt, pt_ge, pt_eq, pt_ne, pt_gt, pt_le, pt_E, pt_N, pt_F, ite_10, ite_11, ne_eq, and_self, or_self, decide_true, decide_false, Bool.not_true, Bool.not_false, Bool.false_eq_true, Nat.reduceEqDiff, Nat.reduceAdd, Int.reduceEq, Int.reduceLT, Int.reduceLE, Int.reduceNeg, Int.reduceAdd, Int.reduceSub, Int.reduceMul, reduceCtorEq, iA, iS, iM, iD, iR, iN, lA, lS, lM, lD, lR, h.k, (hw _).p0, h.a1, h.n1, vf_is, vf_vu, m0, m1, m2, m4, m5, h0, wM_of (aF _ _ r1), wM_of (aF _ _ r2), wM_of (aF _ _ r3), qF _ r1, qF _ r2, qF _ r3, hr, ht, hc]
          exact ⟨_, rfl, fin 0 _ _ (fun k hk => rfl) (hr _)⟩
      · by_cases hc : f (C + 3) < 30
        · have e1 : w64 (f (C + 3) + 1) = f (C + 3) + 1 := w64_e (by omega)
          simp only [cX12_keepTold_1, wE_I, wE_V, wE_F, wE_A, wE_N, wE_1, wE_2, wE_D, wE_B, wE_If, wE_C, wE_CV, wE_SL, wE_SA, wA_0, wA_1, wC_B, wC_E, wC_And, wC_Or, wC_Not, wS_Skip, wS_Brk, wS_Cnt, wS_RetV, wS_Ret, wS_Seq, wS_Set, wS_Inc, wS_Do, wS_Put, wS_PutC, wS_Arr, wS_ArrC, wS_If, wS_Sw, wS_F0, wS_F1, wM_q, lu_ap, aL_ap, ct_0, ct_1, ct_2, ct_3, ct_4, ct_5, headD_1, List.mem_cons, List.not_mem_nil, or_false, false_or, or_true, true_or, true_and, and_true, false_and, and_false, not_true_eq_false, not_false_eq_true, if_true, if_false, nr_20, nr_24, nr_40, nr_41, nr_44, pt_lt, pt_ge, pt_eq, pt_ne, pt_gt, pt_le, pt_E, pt_N, pt_F, ite_10, ite_11, ne_eq, and_self, or_self, decide_true, decide_false, Bool.not_true, Bool.not_false, Bool.false_eq_true, Nat.reduceEqDiff, Nat.reduceAdd, Int.reduceEq, Int.reduceLT, Int.reduceLE, Int.reduceNeg, Int.reduceAdd, Int.reduceSub, Int.reduceMul, reduceCtorEq, iA, iS, iM, iD, iR, iN, lA, lS, lM, lD, lR, h.k, (hw _).p0, h.a1, h.n1, vf_is, vf_vu, m0, m1, m2, m4, m5, h0, wM_of (aF _ _ r1), wM_of (aF _ _ r2), wM_of (aF _ _ r3), qF _ r1, qF _ r2, qF _ r3, hr, ht, hc, e1]
          clear e1
          exact ⟨_, rfl, fin 1 _ _ (fun k hk => fu_ne hk) fu_is⟩
        · simp only [cX12_keepTold_1, wE_I, wE_V, wE_F, wE_A, wE_N, wE_1, wE_2, wE_D, wE_B, wE_If, wE_C, wE_CV, wE_SL, wE_SA, wA_0, wA_1, wC_B, wC_E, wC_And, wC_Or, wC_Not, wS_Skip, wS_Brk, wS_Cnt, wS_RetV, wS_Ret, wS_Seq, wS_Set, wS_Inc, wS_Do, wS_Put, wS_PutC, wS_Arr, wS_ArrC, wS_If, wS_Sw, wS_F0, wS_F1, wM_q, lu_ap, aL_ap, ct_0, ct_1, ct_2, ct_3, ct_4, ct_5, headD_1, List.mem_cons, List.not_mem_nil, or_false, false_or, or_true, true_or, true_and, and_true, false_and, and_false, not_true_eq_false, not_false_eq_true, if_true, if_false, nr_20, nr_24, nr_40, nr_41, nr_44, pt_lt, pt_ge, pt_eq, pt_ne, pt_gt, pt_le, pt_E, pt_N, pt_F, ite_10, ite_11, ne_eq, and_self, or_self, decide_true, decide_false, Bool.not_true, Bool.not_false, Bool.false_eq_true, Nat.reduceEqDiff, Nat.reduceAdd, Int.reduceEq, Int.reduceLT, Int.reduceLE, Int.reduceNeg, Int.reduceAdd, Int.reduceSub, Int.reduceMul, reduceCtorEq, iA, iS, iM, iD, iR, iN, lA, lS, lM, lD, lR, h.k, (hw _).p0, h.a1, h.n1, vf_is, vf_vu, m0, m1, m2, m4, m5, h0, wM_of (aF _ _ r1), wM_of (aF _ _ r2), wM_of (aF _ _ r3), qF _ r1, qF _ r2, qF _ r3, hr, ht, hc]
          exact ⟨_, rfl, fin 1 _ _ (fun k hk => rfl) (hr _)⟩
def in2 (x : Int) : Prop := -2000000000 ≤ x ∧ x ≤ 2000000000
theorem m_tells (h : LMo S v M) {m p : Int} (hm : 0 ≤ m ∧ m < 4) (hp : 0 ≤ p ∧ p < 24) (h0 : in2 (f (647 + 112 * m + 0))) (h1 : in2 (f (647 + 112 * m + 1))) (h2 : in2 (f (647 + 112 * m + (4 + p)))) : mX12_tells [M, m, p] S (vf v (M + 1) f) = some (hd (f (647 + 112 * m + 0) + f (647 + 112 * m + 1) + f (647 + 112 * m + (4 + p))), vf v (M + 1) f) := by
  unfold in2 at h0 h1 h2
  have hw := fun g => h.keep (Kp.vf h (f := g))
  have aF := fun g z (q : 0 ≤ z ∧ z < 112) => m_atForecast (S := S) (v := vf v (M + 1) g) hm q
  have qF : ∀ z, 0 ≤ z ∧ z < 112 → 0 ≤ 647 + 112 * m + z ∧ 647 + 112 * m + z < 1095 := fun z q => by omega
  have hh := fun x => m_held (S := S) (v := vf v (M + 1) f) (x := x)
  have e1 : w32 (4 + p) = 4 + p := w32_e (by omega)
  have r0 : 0 ≤ (0 : Int) ∧ (0 : Int) < 112 := by decide
  have r1 : 0 ≤ (1 : Int) ∧ (1 : Int) < 112 := by decide
  have r2 : 0 ≤ 4 + p ∧ 4 + p < 112 := by clear e1; omega
  generalize hC : 647 + 112 * m = C at *
  have e2 : w64 (f (C + 0) + f (C + 1)) = f (C + 0) + f (C + 1) := by clear e1; exact w64_e (by omega)
  have e3 : w64 (f (C + 0) + f (C + 1) + f (C + (4 + p))) = f (C + 0) + f (C + 1) + f (C + (4 + p)) := by clear e1 e2; exact w64_e (by omega)
  apply wM_eq
  simp only [mX12_tells, sX12_tells, wE_I, wE_V, wE_F, wE_A, wE_N, wE_1, wE_2, wE_D, wE_B, wE_If, wE_C, wE_CV, wE_SL, wE_SA, wA_0, wA_1, wC_B, wC_E, wC_And, wC_Or, wC_Not, wS_Skip, wS_Brk, wS_Cnt, wS_RetV, wS_Ret, wS_Seq, wS_Set, wS_Inc, wS_Do, wS_Put, wS_PutC, wS_Arr, wS_ArrC, wS_If, wS_Sw, wS_F0, wS_F1, wM_q, lu_ap, aL_ap, ct_0, ct_1, ct_2, ct_3, ct_4, ct_5, headD_1, List.mem_cons, List.not_mem_nil, or_false, false_or, or_true, true_or, true_and, and_true, false_and, and_false, not_true_eq_false, not_false_eq_true, if_true, if_false, nr_20, nr_24, nr_40, nr_41, nr_44, pt_lt, pt_ge, pt_eq, pt_ne, pt_gt, pt_le, pt_E, pt_N, pt_F, ite_10, ite_11, ne_eq, and_self, or_self, decide_true, decide_false, Bool.not_true, Bool.not_false, Bool.false_eq_true, Nat.reduceEqDiff, Nat.reduceAdd, Int.reduceEq, Int.reduceLT, Int.reduceLE, Int.reduceNeg, Int.reduceAdd, Int.reduceSub, Int.reduceMul, reduceCtorEq, iA, iS, iM, iD, iR, iN, lA, lS, lM, lD, lR, h.k, (hw _).p0, h.a1, h.n1, vf_is, e1, e2, e3, wM_of (aF _ _ r0), wM_of (aF _ _ r1), wM_of (aF _ _ r2), qF _ r0, qF _ r1, qF _ r2, wM_of (hh _)]
end FO
