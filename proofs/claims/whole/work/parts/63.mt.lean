/-! THE REFERENCE'S QUESTIONS: over, total, smooth, rise, best, law -/
def mBg (v : QV) (M B a : Int) : Int := (mD v M B a - (mK v M a - 1)) * mU v M B a - mU v M B a
theorem sN_ext {f g : Int → Int} : ∀ n : Nat, (∀ i : Int, 0 ≤ i → i < n → f i = g i) → sN f n = sN g n
  | 0, _ => rfl
  | n + 1, h => by
    unfold sN
    rw [sN_ext n (fun i h0 h1 => h i h0 (by omega)), h n (by omega) (by omega)]
theorem sN_add {f g : Int → Int} : ∀ n : Nat, sN (fun i => f i + g i) n = sN f n + sN g n
  | 0 => rfl
  | n + 1 => by
    unfold sN
    rw [sN_add n]
    omega
theorem sN_0 : ∀ n : Nat, sN (fun _ => 0) n = 0
  | 0 => rfl
  | n + 1 => by
    unfold sN
    rw [sN_0 n]
    rfl
/-- over measures and rows, in either order -/
theorem sN_swap {p : Int → Int → Bool} (k : Nat) : ∀ n : Nat, sN (fun i => sN (fun m => if p m i = true then 1 else 0) k) n = sN (fun m => nP (p m) n) k
  | 0 => by
    show (0 : Int) = _
    have : (fun m => nP (p m) 0) = fun _ => (0 : Int) := rfl
    rw [this, sN_0]
  | n + 1 => by
    have e : (fun m => nP (p m) (n + 1)) = fun m => nP (p m) n + if p m n = true then 1 else 0 := rfl
    rw [e, sN_add, ← sN_swap k n]
    rfl
section MT
variable {S : QS} {v w : QV} {M B : Int}
theorem m_over (h : RM S v M B) {a m f t x : Int} (hr : (0 ≤ a ∧ a < v (M + 4) B) → (0 ≤ m ∧ m < v (M + 3) B) → ∀ i, 0 ≤ i → i < mK v M a → tv (mR v M a m i)) : wM mX12_over [M, a, m, f, t, x] S v (fun r w => r = (if (0 ≤ a ∧ a < v (M + 4) B) ∧ (0 ≤ m ∧ m < v (M + 3) B) then fOver (mU v M B a) (mD v M B a) (mK v M a).toNat (mR v M a m) f t x else -2147483648) ∧ Qm M v w) := by
  by_cases h0 : (0 ≤ a ∧ a < v (M + 4) B) ∧ (0 ≤ m ∧ m < v (M + 3) B)
  · obtain ⟨ha, hm⟩ := h0
    have hr' := hr ha hm
    simp only [mX12_over, sX12_over, wE_I, wE_V, wE_F, wE_A, wE_N, wE_1, wE_2, wE_D, wE_B, wE_If, wE_C, wE_CV, wE_SL, wE_SA, wA_0, wA_1, wC_B, wC_E, wC_And, wC_Or, wC_Not, wS_Skip, wS_Brk, wS_Cnt, wS_RetV, wS_Ret, wS_Seq, wS_Set, wS_Inc, wS_Do, wS_Put, wS_PutC, wS_Arr, wS_ArrC, wS_If, wS_Sw, wS_F0, wS_F1, wM_q, lu_ap, aL_ap, ct_0, ct_1, ct_2, ct_3, ct_4, ct_5, headD_1, List.mem_cons, List.not_mem_nil, or_false, false_or, or_true, true_or, true_and, and_true, false_and, and_false, not_true_eq_false, not_false_eq_true, if_true, if_false, nr_20, nr_24, nr_40, nr_41, nr_44, pt_lt, pt_ge, pt_eq, pt_ne, pt_gt, pt_le, pt_E, pt_N, pt_F, ite_10, ite_11, ne_eq, and_self, or_self, decide_true, decide_false, Bool.not_true, Bool.not_false, Bool.false_eq_true, Nat.reduceEqDiff, Nat.reduceAdd, Int.reduceEq, Int.reduceLT, Int.reduceLE, Int.reduceNeg, Int.reduceAdd, Int.reduceSub, Int.reduceMul, reduceCtorEq, iA, iS, iM, iD, iR, iN, lA, lS, lM, lD, lR, h.1.k, wM_of (m_isBoth h), ha, hm]
    refine wM_mono (m_laySpan h ha hm hr') ?_
    rintro r w - ⟨hq, t1, t2, t3, t4, t5⟩
    have hw := h.keep hq
    have haw : 0 ≤ a ∧ a < w (M + 4) B := by rw [hq (M + 4) _ (fun _ => by omega) (by omega) (by omega) (by omega) (by omega)]; exact ha
    have hk := mK_b h ha
    have b4 := gl_b (p := wk (mU v M B a) (mD v M B a) f t (mR v M a m)) (ρ := mR v M a m) (mK v M a).toNat (fun i g1 g2 g3 => by
      have := hr' i g1 (by omega)
      unfold tv at this
      simp [wk] at g3
      omega)
    have e1 : w32 (gP (wk (mU v M B a) (mD v M B a) f t (mR v M a m)) (mR v M a m) (mK v M a).toNat) = gP (wk (mU v M B a) (mD v M B a) f t (mR v M a m)) (mR v M a m) (mK v M a).toNat := by
      generalize gP (wk (mU v M B a) (mD v M B a) f t (mR v M a m)) (mR v M a m) (mK v M a).toNat = z at b4 ⊢
      exact w32_e (by omega)
    have e2 : w32 (lP (wk (mU v M B a) (mD v M B a) f t (mR v M a m)) (mR v M a m) (mK v M a).toNat) = lP (wk (mU v M B a) (mD v M B a) f t (mR v M a m)) (mR v M a m) (mK v M a).toNat := by
      clear e1
      generalize lP (wk (mU v M B a) (mD v M B a) f t (mR v M a m)) (mR v M a m) (mK v M a).toNat = z at b4 ⊢
      exact w32_e (by omega)
    simp only [hw.1.k, wM_of (m_unitsOf hw haw), mU_keep hq, t1, t2, t3, t4, t5, e1, e2, fOver, hq, wE_I, wE_V, wE_F, wE_A, wE_N, wE_1, wE_2, wE_D, wE_B, wE_If, wE_C, wE_CV, wE_SL, wE_SA, wA_0, wA_1, wC_B, wC_E, wC_And, wC_Or, wC_Not, wS_Skip, wS_Brk, wS_Cnt, wS_RetV, wS_Ret, wS_Seq, wS_Set, wS_Inc, wS_Do, wS_Put, wS_PutC, wS_Arr, wS_ArrC, wS_If, wS_Sw, wS_F0, wS_F1, wM_q, lu_ap, aL_ap, ct_0, ct_1, ct_2, ct_3, ct_4, ct_5, headD_1, List.mem_cons, List.not_mem_nil, or_false, false_or, or_true, true_or, true_and, and_true, false_and, and_false, not_true_eq_false, not_false_eq_true, if_true, if_false, nr_20, nr_24, nr_40, nr_41, nr_44, pt_lt, pt_ge, pt_eq, pt_ne, pt_gt, pt_le, pt_E, pt_N, pt_F, ite_10, ite_11, ne_eq, and_self, or_self, decide_true, decide_false, Bool.not_true, Bool.not_false, Bool.false_eq_true, Nat.reduceEqDiff, Nat.reduceAdd, Int.reduceEq, Int.reduceLT, Int.reduceLE, Int.reduceNeg, Int.reduceAdd, Int.reduceSub, Int.reduceMul, reduceCtorEq, iA, iS, iM, iD, iR, iN, lA, lS, lM, lD, lR]
    by_cases x0 : x = 0
    · simp [x0]
    by_cases x1 : x = 1
    · simp [x1]
    by_cases x2 : x = 2
    · by_cases hz : nP (wk (mU v M B a) (mD v M B a) f t (mR v M a m)) (mK v M a).toNat = 0 <;> simp [x2, hz]
    by_cases x3 : x = 3
    · simp [x3]
    by_cases x4 : x = 4
    · simp [x4]
    by_cases x5 : x = 5
    · simp [x5]
    simp [x0, x1, x2, x3, x4, x5]
  · simp only [mX12_over, sX12_over, wE_I, wE_V, wE_F, wE_A, wE_N, wE_1, wE_2, wE_D, wE_B, wE_If, wE_C, wE_CV, wE_SL, wE_SA, wA_0, wA_1, wC_B, wC_E, wC_And, wC_Or, wC_Not, wS_Skip, wS_Brk, wS_Cnt, wS_RetV, wS_Ret, wS_Seq, wS_Set, wS_Inc, wS_Do, wS_Put, wS_PutC, wS_Arr, wS_ArrC, wS_If, wS_Sw, wS_F0, wS_F1, wM_q, lu_ap, aL_ap, ct_0, ct_1, ct_2, ct_3, ct_4, ct_5, headD_1, List.mem_cons, List.not_mem_nil, or_false, false_or, or_true, true_or, true_and, and_true, false_and, and_false, not_true_eq_false, not_false_eq_true, if_true, if_false, nr_20, nr_24, nr_40, nr_41, nr_44, pt_lt, pt_ge, pt_eq, pt_ne, pt_gt, pt_le, pt_E, pt_N, pt_F, ite_10, ite_11, ne_eq, and_self, or_self, decide_true, decide_false, Bool.not_true, Bool.not_false, Bool.false_eq_true, Nat.reduceEqDiff, Nat.reduceAdd, Int.reduceEq, Int.reduceLT, Int.reduceLE, Int.reduceNeg, Int.reduceAdd, Int.reduceSub, Int.reduceMul, reduceCtorEq, iA, iS, iM, iD, iR, iN, lA, lS, lM, lD, lR, h.1.k, wM_of (m_isBoth h), h0, Qm.rf]
theorem m_total (h : RM S v M B) {a m f t : Int} (hr : (0 ≤ a ∧ a < v (M + 4) B) → (0 ≤ m ∧ m < v (M + 3) B) → ∀ i, 0 ≤ i → i < mK v M a → tv (mR v M a m i)) : wM mX12_total [M, a, m, f, t] S v (fun r w => r = (if (0 ≤ a ∧ a < v (M + 4) B) ∧ (0 ≤ m ∧ m < v (M + 3) B) then fTotal (mU v M B a) (mD v M B a) (mK v M a).toNat (mR v M a m) f t else 0) ∧ Qm M v w) := by
  by_cases h0 : (0 ≤ a ∧ a < v (M + 4) B) ∧ (0 ≤ m ∧ m < v (M + 3) B)
  · obtain ⟨ha, hm⟩ := h0
    simp only [mX12_total, sX12_total, wE_I, wE_V, wE_F, wE_A, wE_N, wE_1, wE_2, wE_D, wE_B, wE_If, wE_C, wE_CV, wE_SL, wE_SA, wA_0, wA_1, wC_B, wC_E, wC_And, wC_Or, wC_Not, wS_Skip, wS_Brk, wS_Cnt, wS_RetV, wS_Ret, wS_Seq, wS_Set, wS_Inc, wS_Do, wS_Put, wS_PutC, wS_Arr, wS_ArrC, wS_If, wS_Sw, wS_F0, wS_F1, wM_q, lu_ap, aL_ap, ct_0, ct_1, ct_2, ct_3, ct_4, ct_5, headD_1, List.mem_cons, List.not_mem_nil, or_false, false_or, or_true, true_or, true_and, and_true, false_and, and_false, not_true_eq_false, not_false_eq_true, if_true, if_false, nr_20, nr_24, nr_40, nr_41, nr_44, pt_lt, pt_ge, pt_eq, pt_ne, pt_gt, pt_le, pt_E, pt_N, pt_F, ite_10, ite_11, ne_eq, and_self, or_self, decide_true, decide_false, Bool.not_true, Bool.not_false, Bool.false_eq_true, Nat.reduceEqDiff, Nat.reduceAdd, Int.reduceEq, Int.reduceLT, Int.reduceLE, Int.reduceNeg, Int.reduceAdd, Int.reduceSub, Int.reduceMul, reduceCtorEq, iA, iS, iM, iD, iR, iN, lA, lS, lM, lD, lR, h.1.k, wM_of (m_isBoth h), ha, hm]
    refine wM_mono (m_laySpan h ha hm (hr ha hm)) ?_
    rintro r w - ⟨hq, t1, t2, t3, t4, t5⟩
    have hw := h.keep hq
    have haw : 0 ≤ a ∧ a < w (M + 4) B := by rw [hq (M + 4) _ (fun _ => by omega) (by omega) (by omega) (by omega) (by omega)]; exact ha
    simp only [hw.1.k, wM_of (m_unitsOf hw haw), mU_keep hq, t3, fTotal, hq, wE_I, wE_V, wE_F, wE_A, wE_N, wE_1, wE_2, wE_D, wE_B, wE_If, wE_C, wE_CV, wE_SL, wE_SA, wA_0, wA_1, wC_B, wC_E, wC_And, wC_Or, wC_Not, wS_Skip, wS_Brk, wS_Cnt, wS_RetV, wS_Ret, wS_Seq, wS_Set, wS_Inc, wS_Do, wS_Put, wS_PutC, wS_Arr, wS_ArrC, wS_If, wS_Sw, wS_F0, wS_F1, wM_q, lu_ap, aL_ap, ct_0, ct_1, ct_2, ct_3, ct_4, ct_5, headD_1, List.mem_cons, List.not_mem_nil, or_false, false_or, or_true, true_or, true_and, and_true, false_and, and_false, not_true_eq_false, not_false_eq_true, if_true, if_false, nr_20, nr_24, nr_40, nr_41, nr_44, pt_lt, pt_ge, pt_eq, pt_ne, pt_gt, pt_le, pt_E, pt_N, pt_F, ite_10, ite_11, ne_eq, and_self, or_self, decide_true, decide_false, Bool.not_true, Bool.not_false, Bool.false_eq_true, Nat.reduceEqDiff, Nat.reduceAdd, Int.reduceEq, Int.reduceLT, Int.reduceLE, Int.reduceNeg, Int.reduceAdd, Int.reduceSub, Int.reduceMul, reduceCtorEq, iA, iS, iM, iD, iR, iN, lA, lS, lM, lD, lR]
  · simp only [mX12_total, sX12_total, wE_I, wE_V, wE_F, wE_A, wE_N, wE_1, wE_2, wE_D, wE_B, wE_If, wE_C, wE_CV, wE_SL, wE_SA, wA_0, wA_1, wC_B, wC_E, wC_And, wC_Or, wC_Not, wS_Skip, wS_Brk, wS_Cnt, wS_RetV, wS_Ret, wS_Seq, wS_Set, wS_Inc, wS_Do, wS_Put, wS_PutC, wS_Arr, wS_ArrC, wS_If, wS_Sw, wS_F0, wS_F1, wM_q, lu_ap, aL_ap, ct_0, ct_1, ct_2, ct_3, ct_4, ct_5, headD_1, List.mem_cons, List.not_mem_nil, or_false, false_or, or_true, true_or, true_and, and_true, false_and, and_false, not_true_eq_false, not_false_eq_true, if_true, if_false, nr_20, nr_24, nr_40, nr_41, nr_44, pt_lt, pt_ge, pt_eq, pt_ne, pt_gt, pt_le, pt_E, pt_N, pt_F, ite_10, ite_11, ne_eq, and_self, or_self, decide_true, decide_false, Bool.not_true, Bool.not_false, Bool.false_eq_true, Nat.reduceEqDiff, Nat.reduceAdd, Int.reduceEq, Int.reduceLT, Int.reduceLE, Int.reduceNeg, Int.reduceAdd, Int.reduceSub, Int.reduceMul, reduceCtorEq, iA, iS, iM, iD, iR, iN, lA, lS, lM, lD, lR, h.1.k, wM_of (m_isBoth h), h0, Qm.rf]
theorem m_smooth (h : RM S v M B) {a m n i : Int} (hr : (0 ≤ a ∧ a < v (M + 4) B) → (0 ≤ m ∧ m < v (M + 3) B) → ∀ i, 0 ≤ i → i < mK v M a → tv (mR v M a m i)) : mX12_smooth [M, a, m, n, i] S v = some (if ((0 ≤ a ∧ a < v (M + 4) B) ∧ (0 ≤ m ∧ m < v (M + 3) B)) ∧ (1 ≤ n ∧ n ≤ 30) ∧ 0 ≤ i ∧ i < mK v M a then fSmooth (mK v M a).toNat (mR v M a m) n.toNat i else -2147483648, v) := by
  apply wM_eq
  by_cases h0 : ((0 ≤ a ∧ a < v (M + 4) B) ∧ (0 ≤ m ∧ m < v (M + 3) B)) ∧ 0 ≤ i ∧ i < mK v M a
  · obtain ⟨⟨ha, hm⟩, hi⟩ := h0
    by_cases hn : 1 ≤ n ∧ n ≤ 30
    · have hk := mK_b h ha
      have hr' := hr ha hm
      simp only [mX12_smooth, sX12_smooth, wE_I, wE_V, wE_F, wE_A, wE_N, wE_1, wE_2, wE_D, wE_B, wE_If, wE_C, wE_CV, wE_SL, wE_SA, wA_0, wA_1, wC_B, wC_E, wC_And, wC_Or, wC_Not, wS_Skip, wS_Brk, wS_Cnt, wS_RetV, wS_Ret, wS_Seq, wS_Set, wS_Inc, wS_Do, wS_Put, wS_PutC, wS_Arr, wS_ArrC, wS_If, wS_Sw, wS_F0, wS_F1, wM_q, lu_ap, aL_ap, ct_0, ct_1, ct_2, ct_3, ct_4, ct_5, headD_1, List.mem_cons, List.not_mem_nil, or_false, false_or, or_true, true_or, true_and, and_true, false_and, and_false, not_true_eq_false, not_false_eq_true, if_true, if_false, nr_20, nr_24, nr_40, nr_41, nr_44, pt_lt, pt_ge, pt_eq, pt_ne, pt_gt, pt_le, pt_E, pt_N, pt_F, ite_10, ite_11, ne_eq, and_self, or_self, decide_true, decide_false, Bool.not_true, Bool.not_false, Bool.false_eq_true, Nat.reduceEqDiff, Nat.reduceAdd, Int.reduceEq, Int.reduceLT, Int.reduceLE, Int.reduceNeg, Int.reduceAdd, Int.reduceSub, Int.reduceMul, reduceCtorEq, iA, iS, iM, iD, iR, iN, lA, lS, lM, lD, lR, h.1.k, wM_of (m_isRow h), wM_of m_isIn, ha, hm, hi, hn]
      generalize hK : mK v M a = K at *
      generalize hN : (if n ≤ K - i then n else K - i).toNat = N
      have hN' : (N : Int) = (if n ≤ K - i then n else K - i) := by rw [← hN]; split <;> omega
      have hNn : (N : Int) ≤ n ∧ (N : Int) ≤ K - i ∧ (N : Int) ≤ 30 := by rw [hN']; split <;> omega
      have hcut : ∀ q : Int, 0 ≤ q → q < N → cut K.toNat (mR v M a m) i q = mR v M a m (i + q) := fun q g1 g2 => if_pos (by omega)
      refine wS_For N (fun j L w => (L 0 = M ∧ L 1 = a ∧ L 2 = m ∧ L 3 = n ∧ L 4 = i ∧ L 5 = sP (kn (cut K.toNat (mR v M a m) i)) (cut K.toNat (mR v M a m) i) j ∧ L 7 = nP (kn (cut K.toNat (mR v M a m) i)) j ∧ L 8 = i + j) ∧ v = w) (by omega) ?_ ?_ ?_
      · simp [lu_ap, aL_ap, ct_0, ct_2, ct_1, nP, sP]
      · rintro j L w hj ⟨⟨m0, m1, m2, m3, m4, m5, m7, m8⟩, rfl⟩
        have hj1 : 0 ≤ i + (j : Int) ∧ i + (j : Int) < mK v M a := by rw [hK]; omega
        have hjK : i + (j : Int) < K := by omega
        have hc := m_cell h ha hm hj1
        have er : v (M + 1) (167 + 30 * (4 * a + m) + (i + j)) = cut K.toNat (mR v M a m) i j := (hcut j (by omega) (by omega)).symm
        have ei : w32 (i + n) = i + n := w32_e (by omega)
        have ej : w32 (i + (j : Int) + 1) = i + ((j + 1 : Nat) : Int) := by clear ei; rw [w32_e (by omega)]; omega
        have el : i + (j : Int) < i + n := by clear ei ej; omega
        have b1 := nP_b (kn (cut K.toNat (mR v M a m) i)) j
        have hv : ∀ q : Int, 0 ≤ q → q < N → kn (cut K.toNat (mR v M a m) i) q = true → 0 ≤ cut K.toNat (mR v M a m) i q ∧ cut K.toNat (mR v M a m) i q ≤ 999999000 := by
          clear ei ej
          intro q g1 g2 g3
          have := hr' (i + q) (by omega) (by omega)
          rw [← hcut q g1 g2] at this
          unfold tv at this
          simp [kn] at g3
          omega
        have b2 := sP_b (p := kn (cut K.toNat (mR v M a m) i)) (ρ := cut K.toNat (mR v M a m) i) j (fun q g1 g2 g3 => hv q g1 (by clear ei ej; omega) g3)
        have hvj := hv j (by clear ei ej; omega) (by clear ei ej; omega)
        simp only [cX12_smooth_1, bX12_smooth_1, uX12_smooth_1, wE_I, wE_V, wE_F, wE_A, wE_N, wE_1, wE_2, wE_D, wE_B, wE_If, wE_C, wE_CV, wE_SL, wE_SA, wA_0, wA_1, wC_B, wC_E, wC_And, wC_Or, wC_Not, wS_Skip, wS_Brk, wS_Cnt, wS_RetV, wS_Ret, wS_Seq, wS_Set, wS_Inc, wS_Do, wS_Put, wS_PutC, wS_Arr, wS_ArrC, wS_If, wS_Sw, wS_F0, wS_F1, wM_q, lu_ap, aL_ap, ct_0, ct_1, ct_2, ct_3, ct_4, ct_5, headD_1, List.mem_cons, List.not_mem_nil, or_false, false_or, or_true, true_or, true_and, and_true, false_and, and_false, not_true_eq_false, not_false_eq_true, if_true, if_false, nr_20, nr_24, nr_40, nr_41, nr_44, pt_lt, pt_ge, pt_eq, pt_ne, pt_gt, pt_le, pt_E, pt_N, pt_F, ite_10, ite_11, ne_eq, and_self, or_self, decide_true, decide_false, Bool.not_true, Bool.not_false, Bool.false_eq_true, Nat.reduceEqDiff, Nat.reduceAdd, Int.reduceEq, Int.reduceLT, Int.reduceLE, Int.reduceNeg, Int.reduceAdd, Int.reduceSub, Int.reduceMul, reduceCtorEq, iA, iS, iM, iD, iR, iN, lA, lS, lM, lD, lR, h.1.k, h.1.p0, h.1.a1, h.1.n1, m0, m1, m2, m3, m4, m5, m7, m8, wM_of (m_rowsKept h ha), hK, wM_of hc.1, hc.2, ei, ej, el, hjK, er]
        clear ei ej
        by_cases h1 : cut K.toNat (mR v M a m) i j = -2147483648
        · have hk1 : ¬ kn (cut K.toNat (mR v M a m) i) j = true := by simp [kn, h1]
          simp only [h1, wE_I, wE_V, wE_F, wE_A, wE_N, wE_1, wE_2, wE_D, wE_B, wE_If, wE_C, wE_CV, wE_SL, wE_SA, wA_0, wA_1, wC_B, wC_E, wC_And, wC_Or, wC_Not, wS_Skip, wS_Brk, wS_Cnt, wS_RetV, wS_Ret, wS_Seq, wS_Set, wS_Inc, wS_Do, wS_Put, wS_PutC, wS_Arr, wS_ArrC, wS_If, wS_Sw, wS_F0, wS_F1, wM_q, lu_ap, aL_ap, ct_0, ct_1, ct_2, ct_3, ct_4, ct_5, headD_1, List.mem_cons, List.not_mem_nil, or_false, false_or, or_true, true_or, true_and, and_true, false_and, and_false, not_true_eq_false, not_false_eq_true, if_true, if_false, nr_20, nr_24, nr_40, nr_41, nr_44, pt_lt, pt_ge, pt_eq, pt_ne, pt_gt, pt_le, pt_E, pt_N, pt_F, ite_10, ite_11, ne_eq, and_self, or_self, decide_true, decide_false, Bool.not_true, Bool.not_false, Bool.false_eq_true, Nat.reduceEqDiff, Nat.reduceAdd, Int.reduceEq, Int.reduceLT, Int.reduceLE, Int.reduceNeg, Int.reduceAdd, Int.reduceSub, Int.reduceMul, reduceCtorEq, nP_0 hk1, sP_0 hk1]
        · have hk1 : kn (cut K.toNat (mR v M a m) i) j = true := by simp [kn, h1]
          have hvj' := hvj hk1
          simp only [h1, wE_I, wE_V, wE_F, wE_A, wE_N, wE_1, wE_2, wE_D, wE_B, wE_If, wE_C, wE_CV, wE_SL, wE_SA, wA_0, wA_1, wC_B, wC_E, wC_And, wC_Or, wC_Not, wS_Skip, wS_Brk, wS_Cnt, wS_RetV, wS_Ret, wS_Seq, wS_Set, wS_Inc, wS_Do, wS_Put, wS_PutC, wS_Arr, wS_ArrC, wS_If, wS_Sw, wS_F0, wS_F1, wM_q, lu_ap, aL_ap, ct_0, ct_1, ct_2, ct_3, ct_4, ct_5, headD_1, List.mem_cons, List.not_mem_nil, or_false, false_or, or_true, true_or, true_and, and_true, false_and, and_false, not_true_eq_false, not_false_eq_true, if_true, if_false, nr_20, nr_24, nr_40, nr_41, nr_44, pt_lt, pt_ge, pt_eq, pt_ne, pt_gt, pt_le, pt_E, pt_N, pt_F, ite_10, ite_11, ne_eq, and_self, or_self, decide_true, decide_false, Bool.not_true, Bool.not_false, Bool.false_eq_true, Nat.reduceEqDiff, Nat.reduceAdd, Int.reduceEq, Int.reduceLT, Int.reduceLE, Int.reduceNeg, Int.reduceAdd, Int.reduceSub, Int.reduceMul, reduceCtorEq, nP_1 hk1, sP_1 hk1]
          generalize nP (kn (cut K.toNat (mR v M a m) i)) j = z1 at b1 ⊢
          generalize sP (kn (cut K.toNat (mR v M a m) i)) (cut K.toNat (mR v M a m) i) j = z2 at b2 ⊢
          generalize cut K.toNat (mR v M a m) i j = z3 at hvj' ⊢
          exact ⟨w64_e (by omega), w32_e (by omega)⟩
      · rintro L w ⟨⟨m0, m1, m2, m3, m4, m5, m7, m8⟩, rfl⟩
        have ei : w32 (i + n) = i + n := w32_e (by omega)
        have htail : ∀ q : Int, (N : Int) ≤ q → q < n.toNat → kn (cut K.toNat (mR v M a m) i) q = false := by
          clear ei
          intro q g1 g2
          have e : cut K.toNat (mR v M a m) i q = -2147483648 := by
            refine if_neg ?_
            split at hN' <;> omega
          simp [kn, e]
        have q1 := nP_tail (p := kn (cut K.toNat (mR v M a m) i)) (k := N) n.toNat (by clear ei; omega) htail
        have q2 := sP_tail (p := kn (cut K.toNat (mR v M a m) i)) (f := cut K.toNat (mR v M a m) i) (k := N) n.toNat (by clear ei; omega) htail
        simp only [cX12_smooth_1, wE_I, wE_V, wE_F, wE_A, wE_N, wE_1, wE_2, wE_D, wE_B, wE_If, wE_C, wE_CV, wE_SL, wE_SA, wA_0, wA_1, wC_B, wC_E, wC_And, wC_Or, wC_Not, wS_Skip, wS_Brk, wS_Cnt, wS_RetV, wS_Ret, wS_Seq, wS_Set, wS_Inc, wS_Do, wS_Put, wS_PutC, wS_Arr, wS_ArrC, wS_If, wS_Sw, wS_F0, wS_F1, wM_q, lu_ap, aL_ap, ct_0, ct_1, ct_2, ct_3, ct_4, ct_5, headD_1, List.mem_cons, List.not_mem_nil, or_false, false_or, or_true, true_or, true_and, and_true, false_and, and_false, not_true_eq_false, not_false_eq_true, if_true, if_false, nr_20, nr_24, nr_40, nr_41, nr_44, pt_lt, pt_ge, pt_eq, pt_ne, pt_gt, pt_le, pt_E, pt_N, pt_F, ite_10, ite_11, ne_eq, and_self, or_self, decide_true, decide_false, Bool.not_true, Bool.not_false, Bool.false_eq_true, Nat.reduceEqDiff, Nat.reduceAdd, Int.reduceEq, Int.reduceLT, Int.reduceLE, Int.reduceNeg, Int.reduceAdd, Int.reduceSub, Int.reduceMul, reduceCtorEq, iA, iS, iM, iD, iR, iN, lA, lS, lM, lD, lR, h.1.k, m0, m1, m3, m4, m5, m7, m8, wM_of (m_rowsKept h ha), hK, ei, fSmooth, q1, q2]
        clear ei
        by_cases hl : i + (N : Int) < i + n
        · have hl2 : ¬ i + (N : Int) < K := by split at hN' <;> omega
          by_cases hz : nP (kn (cut K.toNat (mR v M a m) i)) N = 0 <;> simp [hl2, hz]
        · by_cases hz : nP (kn (cut K.toNat (mR v M a m) i)) N = 0 <;> simp [hl, hz]
    · simp only [mX12_smooth, sX12_smooth, wE_I, wE_V, wE_F, wE_A, wE_N, wE_1, wE_2, wE_D, wE_B, wE_If, wE_C, wE_CV, wE_SL, wE_SA, wA_0, wA_1, wC_B, wC_E, wC_And, wC_Or, wC_Not, wS_Skip, wS_Brk, wS_Cnt, wS_RetV, wS_Ret, wS_Seq, wS_Set, wS_Inc, wS_Do, wS_Put, wS_PutC, wS_Arr, wS_ArrC, wS_If, wS_Sw, wS_F0, wS_F1, wM_q, lu_ap, aL_ap, ct_0, ct_1, ct_2, ct_3, ct_4, ct_5, headD_1, List.mem_cons, List.not_mem_nil, or_false, false_or, or_true, true_or, true_and, and_true, false_and, and_false, not_true_eq_false, not_false_eq_true, if_true, if_false, nr_20, nr_24, nr_40, nr_41, nr_44, pt_lt, pt_ge, pt_eq, pt_ne, pt_gt, pt_le, pt_E, pt_N, pt_F, ite_10, ite_11, ne_eq, and_self, or_self, decide_true, decide_false, Bool.not_true, Bool.not_false, Bool.false_eq_true, Nat.reduceEqDiff, Nat.reduceAdd, Int.reduceEq, Int.reduceLT, Int.reduceLE, Int.reduceNeg, Int.reduceAdd, Int.reduceSub, Int.reduceMul, reduceCtorEq, iA, iS, iM, iD, iR, iN, lA, lS, lM, lD, lR, h.1.k, wM_of (m_isRow h), wM_of m_isIn, ha, hm, hi, hn]
  · have h1 : ¬ (((0 ≤ a ∧ a < v (M + 4) B) ∧ (0 ≤ m ∧ m < v (M + 3) B)) ∧ (1 ≤ n ∧ n ≤ 30) ∧ 0 ≤ i ∧ i < mK v M a) := fun q => h0 ⟨q.1, q.2.2⟩
    simp only [mX12_smooth, sX12_smooth, wE_I, wE_V, wE_F, wE_A, wE_N, wE_1, wE_2, wE_D, wE_B, wE_If, wE_C, wE_CV, wE_SL, wE_SA, wA_0, wA_1, wC_B, wC_E, wC_And, wC_Or, wC_Not, wS_Skip, wS_Brk, wS_Cnt, wS_RetV, wS_Ret, wS_Seq, wS_Set, wS_Inc, wS_Do, wS_Put, wS_PutC, wS_Arr, wS_ArrC, wS_If, wS_Sw, wS_F0, wS_F1, wM_q, lu_ap, aL_ap, ct_0, ct_1, ct_2, ct_3, ct_4, ct_5, headD_1, List.mem_cons, List.not_mem_nil, or_false, false_or, or_true, true_or, true_and, and_true, false_and, and_false, not_true_eq_false, not_false_eq_true, if_true, if_false, nr_20, nr_24, nr_40, nr_41, nr_44, pt_lt, pt_ge, pt_eq, pt_ne, pt_gt, pt_le, pt_E, pt_N, pt_F, ite_10, ite_11, ne_eq, and_self, or_self, decide_true, decide_false, Bool.not_true, Bool.not_false, Bool.false_eq_true, Nat.reduceEqDiff, Nat.reduceAdd, Int.reduceEq, Int.reduceLT, Int.reduceLE, Int.reduceNeg, Int.reduceAdd, Int.reduceSub, Int.reduceMul, reduceCtorEq, iA, iS, iM, iD, iR, iN, lA, lS, lM, lD, lR, h.1.k, wM_of (m_isRow h), h0, h1]
theorem m_rise (h : RM S v M B) {a m : Int} (hr : (0 ≤ a ∧ a < v (M + 4) B) → (0 ≤ m ∧ m < v (M + 3) B) → ∀ i, 0 ≤ i → i < mK v M a → tv (mR v M a m i)) : mX12_rise [M, a, m] S v = some (if (0 ≤ a ∧ a < v (M + 4) B) ∧ (0 ≤ m ∧ m < v (M + 3) B) then cRise (mK v M a) (mR v M a m) else -2147483648, v) := by
  apply wM_eq
  by_cases h0 : (0 ≤ a ∧ a < v (M + 4) B) ∧ (0 ≤ m ∧ m < v (M + 3) B)
  · obtain ⟨ha, hm⟩ := h0
    have hk := mK_b h ha
    have hr' := hr ha hm
    simp only [mX12_rise, sX12_rise, wE_I, wE_V, wE_F, wE_A, wE_N, wE_1, wE_2, wE_D, wE_B, wE_If, wE_C, wE_CV, wE_SL, wE_SA, wA_0, wA_1, wC_B, wC_E, wC_And, wC_Or, wC_Not, wS_Skip, wS_Brk, wS_Cnt, wS_RetV, wS_Ret, wS_Seq, wS_Set, wS_Inc, wS_Do, wS_Put, wS_PutC, wS_Arr, wS_ArrC, wS_If, wS_Sw, wS_F0, wS_F1, wM_q, lu_ap, aL_ap, ct_0, ct_1, ct_2, ct_3, ct_4, ct_5, headD_1, List.mem_cons, List.not_mem_nil, or_false, false_or, or_true, true_or, true_and, and_true, false_and, and_false, not_true_eq_false, not_false_eq_true, if_true, if_false, nr_20, nr_24, nr_40, nr_41, nr_44, pt_lt, pt_ge, pt_eq, pt_ne, pt_gt, pt_le, pt_E, pt_N, pt_F, ite_10, ite_11, ne_eq, and_self, or_self, decide_true, decide_false, Bool.not_true, Bool.not_false, Bool.false_eq_true, Nat.reduceEqDiff, Nat.reduceAdd, Int.reduceEq, Int.reduceLT, Int.reduceLE, Int.reduceNeg, Int.reduceAdd, Int.reduceSub, Int.reduceMul, reduceCtorEq, iA, iS, iM, iD, iR, iN, lA, lS, lM, lD, lR, h.1.k, wM_of (m_isBoth h), ha, hm]
    generalize hK : mK v M a = K at *
    generalize hρ : mR v M a m = ρ at *
    have hσ : ∀ i : Int, 0 ≤ i → i < K → kn ρ i = true → 0 ≤ ρ i ∧ ρ i ≤ 999999000 := by
      intro i h1 h2 h3
      have := hr' i h1 h2
      unfold kn at h3
      unfold tv at this
      simp at h3
      omega
    refine wS_For K.toNat (fun j L w => (L 0 = M ∧ L 1 = a ∧ L 2 = m ∧ L 3 = nP (kn ρ) j ∧ L 5 = sP (kn ρ) (fun i => K - 1 - i) j ∧ L 7 = sP (kn ρ) ρ j ∧ L 9 = sP (kn ρ) (fun i => (K - 1 - i) * (K - 1 - i)) j ∧ L 11 = sP (kn ρ) (fun i => (K - 1 - i) * ρ i) j ∧ L 13 = j) ∧ v = w) (by omega) ?_ ?_ ?_
    · simp [lu_ap, aL_ap, ct_0, ct_2, nP, sP]
    · rintro j L w hj ⟨⟨m0, m1, m2, m3, m5, m7, m9, m11, m13⟩, rfl⟩
      have hj1 : 0 ≤ (j : Int) ∧ (j : Int) < mK v M a := by rw [hK]; omega
      have hjl : (j : Int) < K := by omega
      have hc := m_cell h ha hm hj1
      have er : v (M + 1) (167 + 30 * (4 * a + m) + j) = ρ j := by rw [← hρ]; rfl
      have c1 := nP_b (kn ρ) j
      have c2 := sP_B (p := kn ρ) (f := fun i => K - 1 - i) (B := 1000) j (fun i h1 h2 _ => by omega) (by decide)
      have c3 := sP_B (p := kn ρ) (f := ρ) (B := 999999000) j (fun i h1 h2 h3 => by have := hσ i h1 (by omega) h3; omega) (by decide)
      have c4 := sP_B (p := kn ρ) (f := fun i => (K - 1 - i) * (K - 1 - i)) (B := 900) j (fun i h1 h2 _ => by
        have e1 : 0 ≤ (K - 1 - i) * (K - 1 - i) := Int.mul_nonneg (by omega) (by omega)
        have e2 : (K - 1 - i) * (K - 1 - i) ≤ 30 * 30 := Int.mul_le_mul (by omega) (by omega) (by omega) (by omega)
        omega) (by decide)
      have c5 := sP_B (p := kn ρ) (f := fun i => (K - 1 - i) * ρ i) (B := 29999970000) j (fun i h1 h2 h3 => by
        have hh := hσ i h1 (by omega) h3
        have e1 : 0 ≤ (K - 1 - i) * ρ i := Int.mul_nonneg (by omega) hh.1
        have e2 : (K - 1 - i) * ρ i ≤ 30 * 999999000 := Int.mul_le_mul (by omega) hh.2 hh.1 (by omega)
        omega) (by decide)
      have e1 : w32 (w32 (K - 1) - (j : Int)) = K - 1 - j := by
        clear c1 c2 c3 c4 c5
        rw [w32_e (z := K - 1) (by omega)]
        exact w32_e (by omega)
      simp only [cX12_rise_1, bX12_rise_1, uX12_rise_1, wE_I, wE_V, wE_F, wE_A, wE_N, wE_1, wE_2, wE_D, wE_B, wE_If, wE_C, wE_CV, wE_SL, wE_SA, wA_0, wA_1, wC_B, wC_E, wC_And, wC_Or, wC_Not, wS_Skip, wS_Brk, wS_Cnt, wS_RetV, wS_Ret, wS_Seq, wS_Set, wS_Inc, wS_Do, wS_Put, wS_PutC, wS_Arr, wS_ArrC, wS_If, wS_Sw, wS_F0, wS_F1, wM_q, lu_ap, aL_ap, ct_0, ct_1, ct_2, ct_3, ct_4, ct_5, headD_1, List.mem_cons, List.not_mem_nil, or_false, false_or, or_true, true_or, true_and, and_true, false_and, and_false, not_true_eq_false, not_false_eq_true, if_true, if_false, nr_20, nr_24, nr_40, nr_41, nr_44, pt_lt, pt_ge, pt_eq, pt_ne, pt_gt, pt_le, pt_E, pt_N, pt_F, ite_10, ite_11, ne_eq, and_self, or_self, decide_true, decide_false, Bool.not_true, Bool.not_false, Bool.false_eq_true, Nat.reduceEqDiff, Nat.reduceAdd, Int.reduceEq, Int.reduceLT, Int.reduceLE, Int.reduceNeg, Int.reduceAdd, Int.reduceSub, Int.reduceMul, reduceCtorEq, iA, iS, iM, iD, iR, iN, lA, lS, lM, lD, lR, h.1.k, h.1.p0, h.1.a1, h.1.n1, m0, m1, m2, m3, m5, m7, m9, m11, m13, wM_of (m_rowsKept h ha), hK, wM_of hc.1, hc.2, er, e1, hjl, w32_s (show j < 1000 by clear e1; omega)]
      clear e1
      by_cases h1 : ρ j = -2147483648
      · have hk1 : ¬ kn ρ j = true := by simp [kn, h1]
        simp only [h1, wE_I, wE_V, wE_F, wE_A, wE_N, wE_1, wE_2, wE_D, wE_B, wE_If, wE_C, wE_CV, wE_SL, wE_SA, wA_0, wA_1, wC_B, wC_E, wC_And, wC_Or, wC_Not, wS_Skip, wS_Brk, wS_Cnt, wS_RetV, wS_Ret, wS_Seq, wS_Set, wS_Inc, wS_Do, wS_Put, wS_PutC, wS_Arr, wS_ArrC, wS_If, wS_Sw, wS_F0, wS_F1, wM_q, lu_ap, aL_ap, ct_0, ct_1, ct_2, ct_3, ct_4, ct_5, headD_1, List.mem_cons, List.not_mem_nil, or_false, false_or, or_true, true_or, true_and, and_true, false_and, and_false, not_true_eq_false, not_false_eq_true, if_true, if_false, nr_20, nr_24, nr_40, nr_41, nr_44, pt_lt, pt_ge, pt_eq, pt_ne, pt_gt, pt_le, pt_E, pt_N, pt_F, ite_10, ite_11, ne_eq, and_self, or_self, decide_true, decide_false, Bool.not_true, Bool.not_false, Bool.false_eq_true, Nat.reduceEqDiff, Nat.reduceAdd, Int.reduceEq, Int.reduceLT, Int.reduceLE, Int.reduceNeg, Int.reduceAdd, Int.reduceSub, Int.reduceMul, reduceCtorEq, nP_0 hk1, sP_0 hk1]
      · have hk1 : kn ρ j = true := by simp [kn, h1]
        have hh := hσ j (by omega) (by omega) hk1
        simp only [h1, wE_I, wE_V, wE_F, wE_A, wE_N, wE_1, wE_2, wE_D, wE_B, wE_If, wE_C, wE_CV, wE_SL, wE_SA, wA_0, wA_1, wC_B, wC_E, wC_And, wC_Or, wC_Not, wS_Skip, wS_Brk, wS_Cnt, wS_RetV, wS_Ret, wS_Seq, wS_Set, wS_Inc, wS_Do, wS_Put, wS_PutC, wS_Arr, wS_ArrC, wS_If, wS_Sw, wS_F0, wS_F1, wM_q, lu_ap, aL_ap, ct_0, ct_1, ct_2, ct_3, ct_4, ct_5, headD_1, List.mem_cons, List.not_mem_nil, or_false, false_or, or_true, true_or, true_and, and_true, false_and, and_false, not_true_eq_false, not_false_eq_true, if_true, if_false, nr_20, nr_24, nr_40, nr_41, nr_44, pt_lt, pt_ge, pt_eq, pt_ne, pt_gt, pt_le, pt_E, pt_N, pt_F, ite_10, ite_11, ne_eq, and_self, or_self, decide_true, decide_false, Bool.not_true, Bool.not_false, Bool.false_eq_true, Nat.reduceEqDiff, Nat.reduceAdd, Int.reduceEq, Int.reduceLT, Int.reduceLE, Int.reduceNeg, Int.reduceAdd, Int.reduceSub, Int.reduceMul, reduceCtorEq, nP_1 hk1, sP_1 hk1]
        generalize nP (kn ρ) j = n1 at c1 ⊢
        generalize sP (kn ρ) (fun i => K - 1 - i) j = n2 at c2 ⊢
        generalize sP (kn ρ) ρ j = n3 at c3 ⊢
        generalize sP (kn ρ) (fun i => (K - 1 - i) * (K - 1 - i)) j = n4 at c4 ⊢
        generalize sP (kn ρ) (fun i => (K - 1 - i) * ρ i) j = n5 at c5 ⊢
        generalize ρ j = z at hh ⊢
        generalize hx : K - 1 - (j : Int) = x
        have hx1 : 0 ≤ x ∧ x ≤ 30 := by omega
        have p1 : 0 ≤ x * x ∧ x * x ≤ 30 * 30 := ⟨Int.mul_nonneg (by omega) (by omega), Int.mul_le_mul (by omega) (by omega) (by omega) (by omega)⟩
        have p2 : 0 ≤ x * z ∧ x * z ≤ 30 * 999999000 := ⟨Int.mul_nonneg (by omega) (by omega), Int.mul_le_mul (by omega) hh.2 hh.1 (by omega)⟩
        rw [w64_e (z := n1 + 1) (by omega), w64_e (z := n2 + x) (by omega), w64_e (z := n3 + z) (by omega), w64_e (z := x * x) (by omega), w64_e (z := x * z) (by omega), w64_e (z := n4 + x * x) (by omega), w64_e (z := n5 + x * z) (by omega)]
        simp
    · rintro L w ⟨⟨m0, m1, m2, m3, m5, m7, m9, m11, m13⟩, rfl⟩
      have hl : ¬ (K.toNat : Int) < K := by omega
      have eK : (K.toNat : Int) = K := by omega
      -- from the other end
      have hkr : ∀ i : Int, kn ρ i = kn (rvK K ρ) (K.toNat - 1 - i) := by
        intro i
        unfold kn rvK
        rw [eK, show K - 1 - (K - 1 - i) = i by omega]
      have s1 : nP (kn ρ) K.toNat = nP (kn (rvK K ρ)) K.toNat := by
        rw [nP_sP, nP_sP]
        exact sP_rev (fun i _ _ => ⟨hkr i, rfl⟩)
      have s2 : sP (kn ρ) (fun i => K - 1 - i) K.toNat = sP (kn (rvK K ρ)) (fun x => x) K.toNat := sP_rev (fun i _ _ => ⟨hkr i, by rw [eK]⟩)
      have s3 : sP (kn ρ) ρ K.toNat = sP (kn (rvK K ρ)) (rvK K ρ) K.toNat := sP_rev (fun i _ _ => ⟨hkr i, by unfold rvK; rw [eK, show K - 1 - (K - 1 - i) = i by omega]⟩)
      have s4 : sP (kn ρ) (fun i => (K - 1 - i) * (K - 1 - i)) K.toNat = sP (kn (rvK K ρ)) (fun x => x * x) K.toNat := sP_rev (fun i _ _ => ⟨hkr i, by rw [eK]⟩)
      have s5 : sP (kn ρ) (fun i => (K - 1 - i) * ρ i) K.toNat = sP (kn (rvK K ρ)) (fun x => x * rvK K ρ x) K.toNat := sP_rev (fun i _ _ => ⟨hkr i, by unfold rvK; rw [eK, show K - 1 - (K - 1 - i) = i by omega]⟩)
      simp only [cX12_rise_1, wE_I, wE_V, wE_F, wE_A, wE_N, wE_1, wE_2, wE_D, wE_B, wE_If, wE_C, wE_CV, wE_SL, wE_SA, wA_0, wA_1, wC_B, wC_E, wC_And, wC_Or, wC_Not, wS_Skip, wS_Brk, wS_Cnt, wS_RetV, wS_Ret, wS_Seq, wS_Set, wS_Inc, wS_Do, wS_Put, wS_PutC, wS_Arr, wS_ArrC, wS_If, wS_Sw, wS_F0, wS_F1, wM_q, lu_ap, aL_ap, ct_0, ct_1, ct_2, ct_3, ct_4, ct_5, headD_1, List.mem_cons, List.not_mem_nil, or_false, false_or, or_true, true_or, true_and, and_true, false_and, and_false, not_true_eq_false, not_false_eq_true, if_true, if_false, nr_20, nr_24, nr_40, nr_41, nr_44, pt_lt, pt_ge, pt_eq, pt_ne, pt_gt, pt_le, pt_E, pt_N, pt_F, ite_10, ite_11, ne_eq, and_self, or_self, decide_true, decide_false, Bool.not_true, Bool.not_false, Bool.false_eq_true, Nat.reduceEqDiff, Nat.reduceAdd, Int.reduceEq, Int.reduceLT, Int.reduceLE, Int.reduceNeg, Int.reduceAdd, Int.reduceSub, Int.reduceMul, reduceCtorEq, iA, iS, iM, iD, iR, iN, lA, lS, lM, lD, lR, h.1.k, m0, m1, m3, m5, m7, m9, m11, m13, wM_of (m_rowsKept h ha), hK, hl, s1, s2, s3, s4, s5, cRise, fRise]
      have hsq := (sq_pos (p := kn (rvK K ρ)) K.toNat).2.1
      have c1 := nP_b (kn (rvK K ρ)) K.toNat
      have c2 := sP_B (p := kn (rvK K ρ)) (f := fun x => x) (B := 1000) K.toNat (fun i h1 h2 _ => by omega) (by decide)
      have c4 := sP_B (p := kn (rvK K ρ)) (f := fun x => x * x) (B := 900) K.toNat (fun i h1 h2 _ => by
        have e1 : 0 ≤ i * i := Int.mul_nonneg h1 h1
        have e2 : i * i ≤ 30 * 30 := Int.mul_le_mul (by omega) (by omega) h1 (by omega)
        omega) (by decide)
      generalize nP (kn (rvK K ρ)) K.toNat = n1 at c1 hsq ⊢
      generalize sP (kn (rvK K ρ)) (fun x => x) K.toNat = n2 at c2 hsq ⊢
      generalize sP (kn (rvK K ρ)) (fun x => x * x) K.toNat = n4 at c4 hsq ⊢
      by_cases h2 : n1 < 2
      · simp [h2]
      · have hpos := hsq (by omega)
        have a1 : (n1 * n4).natAbs ≤ 30 * 27000 := by rw [Int.natAbs_mul]; exact Nat.mul_le_mul (by omega) (by omega)
        have a2 : (n2 * n2).natAbs ≤ 30000 * 30000 := by rw [Int.natAbs_mul]; exact Nat.mul_le_mul (by omega) (by omega)
        have hne : ¬ w64 (w64 (n1 * n4) - w64 (n2 * n2)) = 0 := by
          rw [w64_e (z := n1 * n4) (by omega), w64_e (z := n2 * n2) (by omega), w64_e (by omega)]
          omega
        simp [h2, hne]
  · simp only [mX12_rise, sX12_rise, wE_I, wE_V, wE_F, wE_A, wE_N, wE_1, wE_2, wE_D, wE_B, wE_If, wE_C, wE_CV, wE_SL, wE_SA, wA_0, wA_1, wC_B, wC_E, wC_And, wC_Or, wC_Not, wS_Skip, wS_Brk, wS_Cnt, wS_RetV, wS_Ret, wS_Seq, wS_Set, wS_Inc, wS_Do, wS_Put, wS_PutC, wS_Arr, wS_ArrC, wS_If, wS_Sw, wS_F0, wS_F1, wM_q, lu_ap, aL_ap, ct_0, ct_1, ct_2, ct_3, ct_4, ct_5, headD_1, List.mem_cons, List.not_mem_nil, or_false, false_or, or_true, true_or, true_and, and_true, false_and, and_false, not_true_eq_false, not_false_eq_true, if_true, if_false, nr_20, nr_24, nr_40, nr_41, nr_44, pt_lt, pt_ge, pt_eq, pt_ne, pt_gt, pt_le, pt_E, pt_N, pt_F, ite_10, ite_11, ne_eq, and_self, or_self, decide_true, decide_false, Bool.not_true, Bool.not_false, Bool.false_eq_true, Nat.reduceEqDiff, Nat.reduceAdd, Int.reduceEq, Int.reduceLT, Int.reduceLE, Int.reduceNeg, Int.reduceAdd, Int.reduceSub, Int.reduceMul, reduceCtorEq, iA, iS, iM, iD, iR, iN, lA, lS, lM, lD, lR, h.1.k, wM_of (m_isBoth h), h0]
theorem m_eldestFrom (h : RM S v M B) {a : Int} (ha : 0 ≤ a ∧ a < v (M + 4) B) (hk0 : 0 < mK v M a) : mX12_eldestFrom [M, a] S v = some (mBg v M B a, v) := by
  have hk := mK_b h ha
  apply wM_eq
  have e1 : w32 (mK v M a - 1) = mK v M a - 1 := w32_e (by omega)
  have hi : 0 ≤ mK v M a - 1 ∧ mK v M a - 1 < mK v M a := by clear e1; omega
  simp only [mX12_eldestFrom, sX12_eldestFrom, wE_I, wE_V, wE_F, wE_A, wE_N, wE_1, wE_2, wE_D, wE_B, wE_If, wE_C, wE_CV, wE_SL, wE_SA, wA_0, wA_1, wC_B, wC_E, wC_And, wC_Or, wC_Not, wS_Skip, wS_Brk, wS_Cnt, wS_RetV, wS_Ret, wS_Seq, wS_Set, wS_Inc, wS_Do, wS_Put, wS_PutC, wS_Arr, wS_ArrC, wS_If, wS_Sw, wS_F0, wS_F1, wM_q, lu_ap, aL_ap, ct_0, ct_1, ct_2, ct_3, ct_4, ct_5, headD_1, List.mem_cons, List.not_mem_nil, or_false, false_or, or_true, true_or, true_and, and_true, false_and, and_false, not_true_eq_false, not_false_eq_true, if_true, if_false, nr_20, nr_24, nr_40, nr_41, nr_44, pt_lt, pt_ge, pt_eq, pt_ne, pt_gt, pt_le, pt_E, pt_N, pt_F, ite_10, ite_11, ne_eq, and_self, or_self, decide_true, decide_false, Bool.not_true, Bool.not_false, Bool.false_eq_true, Nat.reduceEqDiff, Nat.reduceAdd, Int.reduceEq, Int.reduceLT, Int.reduceLE, Int.reduceNeg, Int.reduceAdd, Int.reduceSub, Int.reduceMul, reduceCtorEq, iA, iS, iM, iD, iR, iN, lA, lS, lM, lD, lR, h.1.k, wM_of (m_rowsKept h ha), e1, wM_of (m_beginOf h ha hi).1, mBg]
theorem m_isBetter (h : RM S v M B) {i j f : Int} (hi : (0 ≤ i ∧ i < v (M + 4) B) ∧ 0 < mK v M i) (hj : (0 ≤ j ∧ j < v (M + 4) B) ∧ 0 < mK v M j) : mX12_isBetter [M, i, j, f] S v = some (if tb (mBg v M B) (fun a => v (M + 15) (4 * B + a)) f i j = true then 1 else 0, v) := by
  have hB := h.B2
  have hn := h.2.2.2.2.2.1
  have oi : 0 ≤ 4 * B + i ∧ 4 * B + i < 8 := by omega
  have oj : 0 ≤ 4 * B + j ∧ 4 * B + j < 8 := by omega
  apply wM_eq
  simp only [mX12_isBetter, sX12_isBetter, wE_I, wE_V, wE_F, wE_A, wE_N, wE_1, wE_2, wE_D, wE_B, wE_If, wE_C, wE_CV, wE_SL, wE_SA, wA_0, wA_1, wC_B, wC_E, wC_And, wC_Or, wC_Not, wS_Skip, wS_Brk, wS_Cnt, wS_RetV, wS_Ret, wS_Seq, wS_Set, wS_Inc, wS_Do, wS_Put, wS_PutC, wS_Arr, wS_ArrC, wS_If, wS_Sw, wS_F0, wS_F1, wM_q, lu_ap, aL_ap, ct_0, ct_1, ct_2, ct_3, ct_4, ct_5, headD_1, List.mem_cons, List.not_mem_nil, or_false, false_or, or_true, true_or, true_and, and_true, false_and, and_false, not_true_eq_false, not_false_eq_true, if_true, if_false, nr_20, nr_24, nr_40, nr_41, nr_44, pt_lt, pt_ge, pt_eq, pt_ne, pt_gt, pt_le, pt_E, pt_N, pt_F, ite_10, ite_11, ne_eq, and_self, or_self, decide_true, decide_false, Bool.not_true, Bool.not_false, Bool.false_eq_true, Nat.reduceEqDiff, Nat.reduceAdd, Int.reduceEq, Int.reduceLT, Int.reduceLE, Int.reduceNeg, Int.reduceAdd, Int.reduceSub, Int.reduceMul, reduceCtorEq, iA, iS, iM, iD, iR, iN, lA, lS, lM, lD, lR, h.1.k, h.1.p14, h.1.a15, h.1.n15, h.2.1, oi, oj, wM_of (m_own h.2.2.1 (show 0 ≤ i ∧ i ≤ 1000 by omega)), wM_of (m_own h.2.2.1 (show 0 ≤ j ∧ j ≤ 1000 by omega)), wM_of (m_eldestFrom h hi.1 hi.2), wM_of (m_eldestFrom h hj.1 hj.2), tb]
  generalize mBg v M B i = x
  generalize mBg v M B j = y
  by_cases h1 : x ≤ f
  · have h3 : ¬ f < x := by omega
    by_cases h2 : y ≤ f <;> simp [h1, h2, h3]
  · have h3 : f < x := by omega
    by_cases h2 : y ≤ f
    · simp [h1, h2]
    · by_cases h4 : x = y
      · simp [h2, h3, h4]
      · simp [h1, h2, h3, h4]
theorem m_best (h : RM S v M B) {x f : Int} : mX12_best [M, x, f] S v = some (if 0 ≤ f then be (fun a => decide (v (M + 14) (4 * B + a) = x ∧ 0 < mK v M a)) (tb (mBg v M B) (fun a => v (M + 15) (4 * B + a)) f) (v (M + 4) B).toNat else -1, v) := by
  have hB := h.B2
  have hn := h.2.2.2.2.2.1
  apply wM_eq
  by_cases h0 : 0 ≤ f
  · have e3 : ¬ f < 0 := by omega
    simp only [mX12_best, sX12_best, wE_I, wE_V, wE_F, wE_A, wE_N, wE_1, wE_2, wE_D, wE_B, wE_If, wE_C, wE_CV, wE_SL, wE_SA, wA_0, wA_1, wC_B, wC_E, wC_And, wC_Or, wC_Not, wS_Skip, wS_Brk, wS_Cnt, wS_RetV, wS_Ret, wS_Seq, wS_Set, wS_Inc, wS_Do, wS_Put, wS_PutC, wS_Arr, wS_ArrC, wS_If, wS_Sw, wS_F0, wS_F1, wM_q, lu_ap, aL_ap, ct_0, ct_1, ct_2, ct_3, ct_4, ct_5, headD_1, List.mem_cons, List.not_mem_nil, or_false, false_or, or_true, true_or, true_and, and_true, false_and, and_false, not_true_eq_false, not_false_eq_true, if_true, if_false, nr_20, nr_24, nr_40, nr_41, nr_44, pt_lt, pt_ge, pt_eq, pt_ne, pt_gt, pt_le, pt_E, pt_N, pt_F, ite_10, ite_11, ne_eq, and_self, or_self, decide_true, decide_false, Bool.not_true, Bool.not_false, Bool.false_eq_true, Nat.reduceEqDiff, Nat.reduceAdd, Int.reduceEq, Int.reduceLT, Int.reduceLE, Int.reduceNeg, Int.reduceAdd, Int.reduceSub, Int.reduceMul, reduceCtorEq, iA, iS, iM, iD, iR, iN, lA, lS, lM, lD, lR, h0, e3]
    refine wS_For (v (M + 4) B).toNat (fun j L w => (L 0 = M ∧ L 1 = x ∧ L 2 = f ∧ L 3 = be (fun a => decide (v (M + 14) (4 * B + a) = x ∧ 0 < mK v M a)) (tb (mBg v M B) (fun a => v (M + 15) (4 * B + a)) f) j ∧ L 4 = j) ∧ v = w) (by omega) ?_ ?_ ?_
    · simp [lu_ap, aL_ap, ct_0, ct_2, be]
    · rintro j L w hj ⟨⟨m0, m1, m2, m3, m4⟩, rfl⟩
      have hj1 : 0 ≤ (j : Int) ∧ (j : Int) < v (M + 4) B := by omega
      have oj : 0 ≤ 4 * B + (j : Int) ∧ 4 * B + (j : Int) < 8 := by omega
      have hk := mK_b h hj1
      have hb := be_b (c := (fun a => decide (v (M + 14) (4 * B + a) = x ∧ 0 < mK v M a))) (t := tb (mBg v M B) (fun a => v (M + 15) (4 * B + a)) f) j
      simp only [cX12_best_1, bX12_best_1, uX12_best_1, wE_I, wE_V, wE_F, wE_A, wE_N, wE_1, wE_2, wE_D, wE_B, wE_If, wE_C, wE_CV, wE_SL, wE_SA, wA_0, wA_1, wC_B, wC_E, wC_And, wC_Or, wC_Not, wS_Skip, wS_Brk, wS_Cnt, wS_RetV, wS_Ret, wS_Seq, wS_Set, wS_Inc, wS_Do, wS_Put, wS_PutC, wS_Arr, wS_ArrC, wS_If, wS_Sw, wS_F0, wS_F1, wM_q, lu_ap, aL_ap, ct_0, ct_1, ct_2, ct_3, ct_4, ct_5, headD_1, List.mem_cons, List.not_mem_nil, or_false, false_or, or_true, true_or, true_and, and_true, false_and, and_false, not_true_eq_false, not_false_eq_true, if_true, if_false, nr_20, nr_24, nr_40, nr_41, nr_44, pt_lt, pt_ge, pt_eq, pt_ne, pt_gt, pt_le, pt_E, pt_N, pt_F, ite_10, ite_11, ne_eq, and_self, or_self, decide_true, decide_false, Bool.not_true, Bool.not_false, Bool.false_eq_true, Nat.reduceEqDiff, Nat.reduceAdd, Int.reduceEq, Int.reduceLT, Int.reduceLE, Int.reduceNeg, Int.reduceAdd, Int.reduceSub, Int.reduceMul, reduceCtorEq, iA, iS, iM, iD, iR, iN, lA, lS, lM, lD, lR, h.1.k, h.1.p13, h.1.a14, h.1.n14, h.2.1, oj, hj1, m0, m1, m2, m3, m4, wM_of (m_archivesNow h), wM_of (m_own h.2.2.1 (show 0 ≤ (j : Int) ∧ (j : Int) ≤ 1000 by omega)), wM_of (m_rowsKept h hj1), w32_s (show j < 1000 by omega), be]
      generalize hBe : be (fun a => decide (v (M + 14) (4 * B + a) = x ∧ 0 < mK v M a)) (tb (mBg v M B) (fun a => v (M + 15) (4 * B + a)) f) j = Z at hb ⊢
      by_cases h1 : v (M + 14) (4 * B + (j : Int)) = x ∧ 0 < mK v M j
      · have h1' : ¬ mK v M j = 0 := by omega
        by_cases h2 : Z = -1
        · simp [h1, h1', h2]
        · have hZ2 : (0 ≤ Z ∧ Z < v (M + 4) B) ∧ 0 < mK v M Z := by
            rcases hb with hb | hb
            · exact absurd hb h2
            · have := hb.2.2
              simp at this
              exact ⟨by omega, this.2⟩
          have h4 : ¬ Z < 0 := by omega
          simp only [h1, h1', h2, h4, wE_I, wE_V, wE_F, wE_A, wE_N, wE_1, wE_2, wE_D, wE_B, wE_If, wE_C, wE_CV, wE_SL, wE_SA, wA_0, wA_1, wC_B, wC_E, wC_And, wC_Or, wC_Not, wS_Skip, wS_Brk, wS_Cnt, wS_RetV, wS_Ret, wS_Seq, wS_Set, wS_Inc, wS_Do, wS_Put, wS_PutC, wS_Arr, wS_ArrC, wS_If, wS_Sw, wS_F0, wS_F1, wM_q, lu_ap, aL_ap, ct_0, ct_1, ct_2, ct_3, ct_4, ct_5, headD_1, List.mem_cons, List.not_mem_nil, or_false, false_or, or_true, true_or, true_and, and_true, false_and, and_false, not_true_eq_false, not_false_eq_true, if_true, if_false, nr_20, nr_24, nr_40, nr_41, nr_44, pt_lt, pt_ge, pt_eq, pt_ne, pt_gt, pt_le, pt_E, pt_N, pt_F, ite_10, ite_11, ne_eq, and_self, or_self, decide_true, decide_false, Bool.not_true, Bool.not_false, Bool.false_eq_true, Nat.reduceEqDiff, Nat.reduceAdd, Int.reduceEq, Int.reduceLT, Int.reduceLE, Int.reduceNeg, Int.reduceAdd, Int.reduceSub, Int.reduceMul, reduceCtorEq, wM_of (m_isBetter h ⟨hj1, h1.2⟩ hZ2)]
          by_cases h3 : tb (mBg v M B) (fun a => v (M + 15) (4 * B + a)) f j Z = true <;> simp [h3]
      · by_cases h2 : v (M + 14) (4 * B + (j : Int)) = x
        · have h3 : mK v M j = 0 := by
            have : ¬ 0 < mK v M j := fun q => h1 ⟨h2, q⟩
            omega
          simp [h2, h3]
        · simp [h2]
    · rintro L w ⟨⟨m0, m1, m2, m3, m4⟩, rfl⟩
      have hl : ¬ ((v (M + 4) B).toNat : Int) < v (M + 4) B := by omega
      simp only [cX12_best_1, wE_I, wE_V, wE_F, wE_A, wE_N, wE_1, wE_2, wE_D, wE_B, wE_If, wE_C, wE_CV, wE_SL, wE_SA, wA_0, wA_1, wC_B, wC_E, wC_And, wC_Or, wC_Not, wS_Skip, wS_Brk, wS_Cnt, wS_RetV, wS_Ret, wS_Seq, wS_Set, wS_Inc, wS_Do, wS_Put, wS_PutC, wS_Arr, wS_ArrC, wS_If, wS_Sw, wS_F0, wS_F1, wM_q, lu_ap, aL_ap, ct_0, ct_1, ct_2, ct_3, ct_4, ct_5, headD_1, List.mem_cons, List.not_mem_nil, or_false, false_or, or_true, true_or, true_and, and_true, false_and, and_false, not_true_eq_false, not_false_eq_true, if_true, if_false, nr_20, nr_24, nr_40, nr_41, nr_44, pt_lt, pt_ge, pt_eq, pt_ne, pt_gt, pt_le, pt_E, pt_N, pt_F, ite_10, ite_11, ne_eq, and_self, or_self, decide_true, decide_false, Bool.not_true, Bool.not_false, Bool.false_eq_true, Nat.reduceEqDiff, Nat.reduceAdd, Int.reduceEq, Int.reduceLT, Int.reduceLE, Int.reduceNeg, Int.reduceAdd, Int.reduceSub, Int.reduceMul, reduceCtorEq, iA, iS, iM, iD, iR, iN, lA, lS, lM, lD, lR, h.1.k, m0, m3, m4, wM_of (m_archivesNow h), hl]
  · have e3 : f < 0 := by omega
    simp only [mX12_best, sX12_best, wE_I, wE_V, wE_F, wE_A, wE_N, wE_1, wE_2, wE_D, wE_B, wE_If, wE_C, wE_CV, wE_SL, wE_SA, wA_0, wA_1, wC_B, wC_E, wC_And, wC_Or, wC_Not, wS_Skip, wS_Brk, wS_Cnt, wS_RetV, wS_Ret, wS_Seq, wS_Set, wS_Inc, wS_Do, wS_Put, wS_PutC, wS_Arr, wS_ArrC, wS_If, wS_Sw, wS_F0, wS_F1, wM_q, lu_ap, aL_ap, ct_0, ct_1, ct_2, ct_3, ct_4, ct_5, headD_1, List.mem_cons, List.not_mem_nil, or_false, false_or, or_true, true_or, true_and, and_true, false_and, and_false, not_true_eq_false, not_false_eq_true, if_true, if_false, nr_20, nr_24, nr_40, nr_41, nr_44, pt_lt, pt_ge, pt_eq, pt_ne, pt_gt, pt_le, pt_E, pt_N, pt_F, ite_10, ite_11, ne_eq, and_self, or_self, decide_true, decide_false, Bool.not_true, Bool.not_false, Bool.false_eq_true, Nat.reduceEqDiff, Nat.reduceAdd, Int.reduceEq, Int.reduceLT, Int.reduceLE, Int.reduceNeg, Int.reduceAdd, Int.reduceSub, Int.reduceMul, reduceCtorEq, iA, iS, iM, iD, iR, iN, lA, lS, lM, lD, lR, h0, e3]
def mLaw (v : QV) (M B a : Int) : Int := if v (M + 14) (4 * B + a) = 0 then sN (fun m => nP (bt (mR v M a m) (v (M + 1) (3 + 12 * m + 8)) (v (M + 1) (3 + 12 * m + 9))) (mK v M a).toNat) (v (M + 3) B).toNat else 0
theorem m_isBeyond (h : RM S v M B) {m x : Int} (hm : 0 ≤ m ∧ m < 4) : mX12_isBeyond [M, m, x] S v = some (if bt (fun _ => x) (v (M + 1) (3 + 12 * m + 8)) (v (M + 1) (3 + 12 * m + 9)) 0 = true then 1 else 0, v) := by
  apply wM_eq
  have o8 : 0 ≤ 3 + 12 * m + 8 ∧ 3 + 12 * m + 8 < 1095 := by omega
  have o9 : 0 ≤ 3 + 12 * m + 9 ∧ 3 + 12 * m + 9 < 1095 := by omega
  simp only [mX12_isBeyond, sX12_isBeyond, wE_I, wE_V, wE_F, wE_A, wE_N, wE_1, wE_2, wE_D, wE_B, wE_If, wE_C, wE_CV, wE_SL, wE_SA, wA_0, wA_1, wC_B, wC_E, wC_And, wC_Or, wC_Not, wS_Skip, wS_Brk, wS_Cnt, wS_RetV, wS_Ret, wS_Seq, wS_Set, wS_Inc, wS_Do, wS_Put, wS_PutC, wS_Arr, wS_ArrC, wS_If, wS_Sw, wS_F0, wS_F1, wM_q, lu_ap, aL_ap, ct_0, ct_1, ct_2, ct_3, ct_4, ct_5, headD_1, List.mem_cons, List.not_mem_nil, or_false, false_or, or_true, true_or, true_and, and_true, false_and, and_false, not_true_eq_false, not_false_eq_true, if_true, if_false, nr_20, nr_24, nr_40, nr_41, nr_44, pt_lt, pt_ge, pt_eq, pt_ne, pt_gt, pt_le, pt_E, pt_N, pt_F, ite_10, ite_11, ne_eq, and_self, or_self, decide_true, decide_false, Bool.not_true, Bool.not_false, Bool.false_eq_true, Nat.reduceEqDiff, Nat.reduceAdd, Int.reduceEq, Int.reduceLT, Int.reduceLE, Int.reduceNeg, Int.reduceAdd, Int.reduceSub, Int.reduceMul, reduceCtorEq, iA, iS, iM, iD, iR, iN, lA, lS, lM, lD, lR, h.1.k, h.1.p0, h.1.a1, h.1.n1, wM_of (m_atMeasure hm (show 0 ≤ (8 : Int) ∧ (8 : Int) < 12 by decide)), wM_of (m_atMeasure hm (show 0 ≤ (9 : Int) ∧ (9 : Int) < 12 by decide)), o8, o9, bt]
  by_cases h1 : x = -2147483648
  · simp [h1]
  · by_cases h2 : v (M + 1) (3 + 12 * m + 8) < x
    · simp [h1, h2]
    · by_cases h3 : x < v (M + 1) (3 + 12 * m + 9) <;> simp [h1, h2, h3]
theorem m_law (h : RM S v M B) : mX12_law [M] S v = some (sN (mLaw v M B) (v (M + 4) B).toNat, v) := by
  have hB := h.B2
  have hn := h.2.2.2.2.2.1
  have hm := h.2.2.2.2.1
  have hL : ∀ a : Int, mLaw v M B a = if v (M + 14) (4 * B + a) = 0 then sN (fun i => sN (fun m => if bt (mR v M a m) (v (M + 1) (3 + 12 * m + 8)) (v (M + 1) (3 + 12 * m + 9)) i = true then 1 else 0) (v (M + 3) B).toNat) (mK v M a).toNat else 0 := by
    intro a
    unfold mLaw
    rw [sN_swap (p := fun m => bt (mR v M a m) (v (M + 1) (3 + 12 * m + 8)) (v (M + 1) (3 + 12 * m + 9)))]
  have b0 : ∀ a i : Int, ∀ k : Nat, 0 ≤ sN (fun m => if bt (mR v M a m) (v (M + 1) (3 + 12 * m + 8)) (v (M + 1) (3 + 12 * m + 9)) i = true then 1 else 0) k ∧ sN (fun m => if bt (mR v M a m) (v (M + 1) (3 + 12 * m + 8)) (v (M + 1) (3 + 12 * m + 9)) i = true then 1 else 0) k ≤ 1 * k := fun a i k => sN_b k (fun q _ _ => by split <;> omega)
  have b1 : ∀ a : Int, ∀ k : Nat, 0 ≤ sN (fun i => sN (fun m => if bt (mR v M a m) (v (M + 1) (3 + 12 * m + 8)) (v (M + 1) (3 + 12 * m + 9)) i = true then 1 else 0) (v (M + 3) B).toNat) k ∧ sN (fun i => sN (fun m => if bt (mR v M a m) (v (M + 1) (3 + 12 * m + 8)) (v (M + 1) (3 + 12 * m + 9)) i = true then 1 else 0) (v (M + 3) B).toNat) k ≤ 4 * k := fun a k => sN_b k (fun q _ _ => by have := b0 a q (v (M + 3) B).toNat; omega)
  have b2 : ∀ k : Nat, (k : Int) ≤ v (M + 4) B → 0 ≤ sN (mLaw v M B) k ∧ sN (mLaw v M B) k ≤ 120 * k := by
    intro k hk
    refine sN_b k (fun a h3 h4 => ?_)
    have := b1 a (mK v M a).toNat
    have hk := mK_b h (a := a) (by omega)
    rw [hL]
    split <;> omega
  apply wM_eq
  simp only [mX12_law, sX12_law, wE_I, wE_V, wE_F, wE_A, wE_N, wE_1, wE_2, wE_D, wE_B, wE_If, wE_C, wE_CV, wE_SL, wE_SA, wA_0, wA_1, wC_B, wC_E, wC_And, wC_Or, wC_Not, wS_Skip, wS_Brk, wS_Cnt, wS_RetV, wS_Ret, wS_Seq, wS_Set, wS_Inc, wS_Do, wS_Put, wS_PutC, wS_Arr, wS_ArrC, wS_If, wS_Sw, wS_F0, wS_F1, wM_q, lu_ap, aL_ap, ct_0, ct_1, ct_2, ct_3, ct_4, ct_5, headD_1, List.mem_cons, List.not_mem_nil, or_false, false_or, or_true, true_or, true_and, and_true, false_and, and_false, not_true_eq_false, not_false_eq_true, if_true, if_false, nr_20, nr_24, nr_40, nr_41, nr_44, pt_lt, pt_ge, pt_eq, pt_ne, pt_gt, pt_le, pt_E, pt_N, pt_F, ite_10, ite_11, ne_eq, and_self, or_self, decide_true, decide_false, Bool.not_true, Bool.not_false, Bool.false_eq_true, Nat.reduceEqDiff, Nat.reduceAdd, Int.reduceEq, Int.reduceLT, Int.reduceLE, Int.reduceNeg, Int.reduceAdd, Int.reduceSub, Int.reduceMul, reduceCtorEq, iA, iS, iM, iD, iR, iN, lA, lS, lM, lD, lR]
  refine wS_For (v (M + 4) B).toNat (fun j L w => (L 0 = M ∧ L 1 = sN (mLaw v M B) j ∧ L 2 = j) ∧ v = w) (by omega) ?_ ?_ ?_
  · simp [lu_ap, aL_ap, ct_0, ct_2, sN]
  · rintro j L w hj ⟨⟨m0, m1, m2⟩, rfl⟩
    have hj1 : 0 ≤ (j : Int) ∧ (j : Int) < v (M + 4) B := by omega
    have oj : 0 ≤ 4 * B + (j : Int) ∧ 4 * B + (j : Int) < 8 := by omega
    have hk := mK_b h hj1
    simp only [cX12_law_1, bX12_law_1, uX12_law_1, wE_I, wE_V, wE_F, wE_A, wE_N, wE_1, wE_2, wE_D, wE_B, wE_If, wE_C, wE_CV, wE_SL, wE_SA, wA_0, wA_1, wC_B, wC_E, wC_And, wC_Or, wC_Not, wS_Skip, wS_Brk, wS_Cnt, wS_RetV, wS_Ret, wS_Seq, wS_Set, wS_Inc, wS_Do, wS_Put, wS_PutC, wS_Arr, wS_ArrC, wS_If, wS_Sw, wS_F0, wS_F1, wM_q, lu_ap, aL_ap, ct_0, ct_1, ct_2, ct_3, ct_4, ct_5, headD_1, List.mem_cons, List.not_mem_nil, or_false, false_or, or_true, true_or, true_and, and_true, false_and, and_false, not_true_eq_false, not_false_eq_true, if_true, if_false, nr_20, nr_24, nr_40, nr_41, nr_44, pt_lt, pt_ge, pt_eq, pt_ne, pt_gt, pt_le, pt_E, pt_N, pt_F, ite_10, ite_11, ne_eq, and_self, or_self, decide_true, decide_false, Bool.not_true, Bool.not_false, Bool.false_eq_true, Nat.reduceEqDiff, Nat.reduceAdd, Int.reduceEq, Int.reduceLT, Int.reduceLE, Int.reduceNeg, Int.reduceAdd, Int.reduceSub, Int.reduceMul, reduceCtorEq, iA, iS, iM, iD, iR, iN, lA, lS, lM, lD, lR, h.1.k, h.1.p13, h.1.a14, h.1.n14, h.2.1, oj, hj1, m0, m1, m2, wM_of (m_archivesNow h), wM_of (m_own h.2.2.1 (show 0 ≤ (j : Int) ∧ (j : Int) ≤ 1000 by omega)), w32_s (show j < 1000 by omega), sN]
    by_cases h1 : v (M + 14) (4 * B + (j : Int)) = 0
    · have eL := hL j
      rw [if_pos h1] at eL
      simp only [h1, wE_I, wE_V, wE_F, wE_A, wE_N, wE_1, wE_2, wE_D, wE_B, wE_If, wE_C, wE_CV, wE_SL, wE_SA, wA_0, wA_1, wC_B, wC_E, wC_And, wC_Or, wC_Not, wS_Skip, wS_Brk, wS_Cnt, wS_RetV, wS_Ret, wS_Seq, wS_Set, wS_Inc, wS_Do, wS_Put, wS_PutC, wS_Arr, wS_ArrC, wS_If, wS_Sw, wS_F0, wS_F1, wM_q, lu_ap, aL_ap, ct_0, ct_1, ct_2, ct_3, ct_4, ct_5, headD_1, List.mem_cons, List.not_mem_nil, or_false, false_or, or_true, true_or, true_and, and_true, false_and, and_false, not_true_eq_false, not_false_eq_true, if_true, if_false, nr_20, nr_24, nr_40, nr_41, nr_44, pt_lt, pt_ge, pt_eq, pt_ne, pt_gt, pt_le, pt_E, pt_N, pt_F, ite_10, ite_11, ne_eq, and_self, or_self, decide_true, decide_false, Bool.not_true, Bool.not_false, Bool.false_eq_true, Nat.reduceEqDiff, Nat.reduceAdd, Int.reduceEq, Int.reduceLT, Int.reduceLE, Int.reduceNeg, Int.reduceAdd, Int.reduceSub, Int.reduceMul, reduceCtorEq]
      refine wS_For (mK v M j).toNat (fun i L w => (L 0 = M ∧ L 1 = sN (mLaw v M B) j + sN (fun i => sN (fun m => if bt (mR v M j m) (v (M + 1) (3 + 12 * m + 8)) (v (M + 1) (3 + 12 * m + 9)) i = true then 1 else 0) (v (M + 3) B).toNat) i ∧ L 2 = j ∧ L 3 = i) ∧ v = w) (by omega) ?_ ?_ ?_
      · simp [lu_ap, m0, m1, m2, sN]
      · rintro i L w hi ⟨⟨m0, m1, m2, m3⟩, rfl⟩
        have hi1 : 0 ≤ (i : Int) ∧ (i : Int) < mK v M j := by omega
        simp only [cX12_law_2, bX12_law_2, uX12_law_2, wE_I, wE_V, wE_F, wE_A, wE_N, wE_1, wE_2, wE_D, wE_B, wE_If, wE_C, wE_CV, wE_SL, wE_SA, wA_0, wA_1, wC_B, wC_E, wC_And, wC_Or, wC_Not, wS_Skip, wS_Brk, wS_Cnt, wS_RetV, wS_Ret, wS_Seq, wS_Set, wS_Inc, wS_Do, wS_Put, wS_PutC, wS_Arr, wS_ArrC, wS_If, wS_Sw, wS_F0, wS_F1, wM_q, lu_ap, aL_ap, ct_0, ct_1, ct_2, ct_3, ct_4, ct_5, headD_1, List.mem_cons, List.not_mem_nil, or_false, false_or, or_true, true_or, true_and, and_true, false_and, and_false, not_true_eq_false, not_false_eq_true, if_true, if_false, nr_20, nr_24, nr_40, nr_41, nr_44, pt_lt, pt_ge, pt_eq, pt_ne, pt_gt, pt_le, pt_E, pt_N, pt_F, ite_10, ite_11, ne_eq, and_self, or_self, decide_true, decide_false, Bool.not_true, Bool.not_false, Bool.false_eq_true, Nat.reduceEqDiff, Nat.reduceAdd, Int.reduceEq, Int.reduceLT, Int.reduceLE, Int.reduceNeg, Int.reduceAdd, Int.reduceSub, Int.reduceMul, reduceCtorEq, iA, iS, iM, iD, iR, iN, lA, lS, lM, lD, lR, h.1.k, m0, m1, m2, m3, wM_of (m_rowsKept h hj1), hi1, sN]
        refine wS_For (v (M + 3) B).toNat (fun k L w => (L 0 = M ∧ L 1 = sN (mLaw v M B) j + (sN (fun i => sN (fun m => if bt (mR v M j m) (v (M + 1) (3 + 12 * m + 8)) (v (M + 1) (3 + 12 * m + 9)) i = true then 1 else 0) (v (M + 3) B).toNat) i + sN (fun m => if bt (mR v M j m) (v (M + 1) (3 + 12 * m + 8)) (v (M + 1) (3 + 12 * m + 9)) i = true then 1 else 0) k) ∧ L 2 = j ∧ L 3 = i ∧ L 4 = k) ∧ v = w) (by omega) ?_ ?_ ?_
        · simp [lu_ap, m0, m1, m2, m3, sN]
        · rintro k L w hk' ⟨⟨m0, m1, m2, m3, m4⟩, rfl⟩
          have hk1 : 0 ≤ (k : Int) ∧ (k : Int) < v (M + 3) B := by omega
          have hc := m_cell h hj1 hk1 hi1
          have c1 := b2 j (by omega)
          have c2 := b1 j i
          have c3 := b0 j i k
          have er : v (M + 1) (167 + 30 * (4 * (j : Int) + k) + i) = mR v M j k i := rfl
          have eb : bt (fun _ => mR v M j k i) (v (M + 1) (3 + 12 * (k : Int) + 8)) (v (M + 1) (3 + 12 * (k : Int) + 9)) 0 = bt (mR v M j k) (v (M + 1) (3 + 12 * (k : Int) + 8)) (v (M + 1) (3 + 12 * (k : Int) + 9)) i := rfl
          simp only [cX12_law_3, bX12_law_3, uX12_law_3, wE_I, wE_V, wE_F, wE_A, wE_N, wE_1, wE_2, wE_D, wE_B, wE_If, wE_C, wE_CV, wE_SL, wE_SA, wA_0, wA_1, wC_B, wC_E, wC_And, wC_Or, wC_Not, wS_Skip, wS_Brk, wS_Cnt, wS_RetV, wS_Ret, wS_Seq, wS_Set, wS_Inc, wS_Do, wS_Put, wS_PutC, wS_Arr, wS_ArrC, wS_If, wS_Sw, wS_F0, wS_F1, wM_q, lu_ap, aL_ap, ct_0, ct_1, ct_2, ct_3, ct_4, ct_5, headD_1, List.mem_cons, List.not_mem_nil, or_false, false_or, or_true, true_or, true_and, and_true, false_and, and_false, not_true_eq_false, not_false_eq_true, if_true, if_false, nr_20, nr_24, nr_40, nr_41, nr_44, pt_lt, pt_ge, pt_eq, pt_ne, pt_gt, pt_le, pt_E, pt_N, pt_F, ite_10, ite_11, ne_eq, and_self, or_self, decide_true, decide_false, Bool.not_true, Bool.not_false, Bool.false_eq_true, Nat.reduceEqDiff, Nat.reduceAdd, Int.reduceEq, Int.reduceLT, Int.reduceLE, Int.reduceNeg, Int.reduceAdd, Int.reduceSub, Int.reduceMul, reduceCtorEq, iA, iS, iM, iD, iR, iN, lA, lS, lM, lD, lR, h.1.k, h.1.p0, h.1.a1, h.1.n1, m0, m1, m2, m3, m4, wM_of (m_many h), hk1, wM_of hc.1, hc.2, er, wM_of (m_isBeyond h (show 0 ≤ (k : Int) ∧ (k : Int) < 4 by omega)), eb, w32_s (show k < 1000 by omega), sN]
          generalize sN (mLaw v M B) j = z1 at c1 ⊢
          generalize sN (fun i => sN (fun m => if bt (mR v M j m) (v (M + 1) (3 + 12 * m + 8)) (v (M + 1) (3 + 12 * m + 9)) i = true then 1 else 0) (v (M + 3) B).toNat) i = z2 at c2 ⊢
          generalize sN (fun m => if bt (mR v M j m) (v (M + 1) (3 + 12 * m + 8)) (v (M + 1) (3 + 12 * m + 9)) i = true then 1 else 0) k = z3 at c3 ⊢
          by_cases hb : bt (mR v M j k) (v (M + 1) (3 + 12 * (k : Int) + 8)) (v (M + 1) (3 + 12 * (k : Int) + 9)) i = true
          · simp only [hb, wE_I, wE_V, wE_F, wE_A, wE_N, wE_1, wE_2, wE_D, wE_B, wE_If, wE_C, wE_CV, wE_SL, wE_SA, wA_0, wA_1, wC_B, wC_E, wC_And, wC_Or, wC_Not, wS_Skip, wS_Brk, wS_Cnt, wS_RetV, wS_Ret, wS_Seq, wS_Set, wS_Inc, wS_Do, wS_Put, wS_PutC, wS_Arr, wS_ArrC, wS_If, wS_Sw, wS_F0, wS_F1, wM_q, lu_ap, aL_ap, ct_0, ct_1, ct_2, ct_3, ct_4, ct_5, headD_1, List.mem_cons, List.not_mem_nil, or_false, false_or, or_true, true_or, true_and, and_true, false_and, and_false, not_true_eq_false, not_false_eq_true, if_true, if_false, nr_20, nr_24, nr_40, nr_41, nr_44, pt_lt, pt_ge, pt_eq, pt_ne, pt_gt, pt_le, pt_E, pt_N, pt_F, ite_10, ite_11, ne_eq, and_self, or_self, decide_true, decide_false, Bool.not_true, Bool.not_false, Bool.false_eq_true, Nat.reduceEqDiff, Nat.reduceAdd, Int.reduceEq, Int.reduceLT, Int.reduceLE, Int.reduceNeg, Int.reduceAdd, Int.reduceSub, Int.reduceMul, reduceCtorEq]
            rw [w32_e (by omega)]
            omega
          · simp only [hb, wE_I, wE_V, wE_F, wE_A, wE_N, wE_1, wE_2, wE_D, wE_B, wE_If, wE_C, wE_CV, wE_SL, wE_SA, wA_0, wA_1, wC_B, wC_E, wC_And, wC_Or, wC_Not, wS_Skip, wS_Brk, wS_Cnt, wS_RetV, wS_Ret, wS_Seq, wS_Set, wS_Inc, wS_Do, wS_Put, wS_PutC, wS_Arr, wS_ArrC, wS_If, wS_Sw, wS_F0, wS_F1, wM_q, lu_ap, aL_ap, ct_0, ct_1, ct_2, ct_3, ct_4, ct_5, headD_1, List.mem_cons, List.not_mem_nil, or_false, false_or, or_true, true_or, true_and, and_true, false_and, and_false, not_true_eq_false, not_false_eq_true, if_true, if_false, nr_20, nr_24, nr_40, nr_41, nr_44, pt_lt, pt_ge, pt_eq, pt_ne, pt_gt, pt_le, pt_E, pt_N, pt_F, ite_10, ite_11, ne_eq, and_self, or_self, decide_true, decide_false, Bool.not_true, Bool.not_false, Bool.false_eq_true, Nat.reduceEqDiff, Nat.reduceAdd, Int.reduceEq, Int.reduceLT, Int.reduceLE, Int.reduceNeg, Int.reduceAdd, Int.reduceSub, Int.reduceMul, reduceCtorEq]
            rw [w32_e (by omega)]
            omega
        · rintro L w ⟨⟨m0, m1, m2, m3, m4⟩, rfl⟩
          have hl : ¬ ((v (M + 3) B).toNat : Int) < v (M + 3) B := by omega
          simp only [cX12_law_3, wE_I, wE_V, wE_F, wE_A, wE_N, wE_1, wE_2, wE_D, wE_B, wE_If, wE_C, wE_CV, wE_SL, wE_SA, wA_0, wA_1, wC_B, wC_E, wC_And, wC_Or, wC_Not, wS_Skip, wS_Brk, wS_Cnt, wS_RetV, wS_Ret, wS_Seq, wS_Set, wS_Inc, wS_Do, wS_Put, wS_PutC, wS_Arr, wS_ArrC, wS_If, wS_Sw, wS_F0, wS_F1, wM_q, lu_ap, aL_ap, ct_0, ct_1, ct_2, ct_3, ct_4, ct_5, headD_1, List.mem_cons, List.not_mem_nil, or_false, false_or, or_true, true_or, true_and, and_true, false_and, and_false, not_true_eq_false, not_false_eq_true, if_true, if_false, nr_20, nr_24, nr_40, nr_41, nr_44, pt_lt, pt_ge, pt_eq, pt_ne, pt_gt, pt_le, pt_E, pt_N, pt_F, ite_10, ite_11, ne_eq, and_self, or_self, decide_true, decide_false, Bool.not_true, Bool.not_false, Bool.false_eq_true, Nat.reduceEqDiff, Nat.reduceAdd, Int.reduceEq, Int.reduceLT, Int.reduceLE, Int.reduceNeg, Int.reduceAdd, Int.reduceSub, Int.reduceMul, reduceCtorEq, iA, iS, iM, iD, iR, iN, lA, lS, lM, lD, lR, h.1.k, m0, m1, m2, m3, m4, wM_of (m_many h), hl, w32_s (show i < 1000 by omega)]
      · rintro L w ⟨⟨m0, m1, m2, m3⟩, rfl⟩
        have hl : ¬ ((mK v M j).toNat : Int) < mK v M j := by omega
        simp only [cX12_law_2, wE_I, wE_V, wE_F, wE_A, wE_N, wE_1, wE_2, wE_D, wE_B, wE_If, wE_C, wE_CV, wE_SL, wE_SA, wA_0, wA_1, wC_B, wC_E, wC_And, wC_Or, wC_Not, wS_Skip, wS_Brk, wS_Cnt, wS_RetV, wS_Ret, wS_Seq, wS_Set, wS_Inc, wS_Do, wS_Put, wS_PutC, wS_Arr, wS_ArrC, wS_If, wS_Sw, wS_F0, wS_F1, wM_q, lu_ap, aL_ap, ct_0, ct_1, ct_2, ct_3, ct_4, ct_5, headD_1, List.mem_cons, List.not_mem_nil, or_false, false_or, or_true, true_or, true_and, and_true, false_and, and_false, not_true_eq_false, not_false_eq_true, if_true, if_false, nr_20, nr_24, nr_40, nr_41, nr_44, pt_lt, pt_ge, pt_eq, pt_ne, pt_gt, pt_le, pt_E, pt_N, pt_F, ite_10, ite_11, ne_eq, and_self, or_self, decide_true, decide_false, Bool.not_true, Bool.not_false, Bool.false_eq_true, Nat.reduceEqDiff, Nat.reduceAdd, Int.reduceEq, Int.reduceLT, Int.reduceLE, Int.reduceNeg, Int.reduceAdd, Int.reduceSub, Int.reduceMul, reduceCtorEq, iA, iS, iM, iD, iR, iN, lA, lS, lM, lD, lR, h.1.k, m0, m1, m2, m3, wM_of (m_rowsKept h hj1), hl, eL, w32_s (show j < 1000 by omega)]
    · have eL : mLaw v M B j = 0 := if_neg h1
      simp [h1, eL]
  · rintro L w ⟨⟨m0, m1, m2⟩, rfl⟩
    have hl : ¬ ((v (M + 4) B).toNat : Int) < v (M + 4) B := by omega
    simp only [cX12_law_1, wE_I, wE_V, wE_F, wE_A, wE_N, wE_1, wE_2, wE_D, wE_B, wE_If, wE_C, wE_CV, wE_SL, wE_SA, wA_0, wA_1, wC_B, wC_E, wC_And, wC_Or, wC_Not, wS_Skip, wS_Brk, wS_Cnt, wS_RetV, wS_Ret, wS_Seq, wS_Set, wS_Inc, wS_Do, wS_Put, wS_PutC, wS_Arr, wS_ArrC, wS_If, wS_Sw, wS_F0, wS_F1, wM_q, lu_ap, aL_ap, ct_0, ct_1, ct_2, ct_3, ct_4, ct_5, headD_1, List.mem_cons, List.not_mem_nil, or_false, false_or, or_true, true_or, true_and, and_true, false_and, and_false, not_true_eq_false, not_false_eq_true, if_true, if_false, nr_20, nr_24, nr_40, nr_41, nr_44, pt_lt, pt_ge, pt_eq, pt_ne, pt_gt, pt_le, pt_E, pt_N, pt_F, ite_10, ite_11, ne_eq, and_self, or_self, decide_true, decide_false, Bool.not_true, Bool.not_false, Bool.false_eq_true, Nat.reduceEqDiff, Nat.reduceAdd, Int.reduceEq, Int.reduceLT, Int.reduceLE, Int.reduceNeg, Int.reduceAdd, Int.reduceSub, Int.reduceMul, reduceCtorEq, iA, iS, iM, iD, iR, iN, lA, lS, lM, lD, lR, h.1.k, m0, m1, m2, wM_of (m_archivesNow h), hl]
end MT
