/-! THE REFERENCE'S QUESTIONS over rows -/
/-- what questions of the reference may have changed -/
def Qm (M : Int) (v w : QV) : Prop := ∀ a k, (a = M → k < 47 ∨ 51 < k) → a ≠ M + 32 → a ≠ M + 33 → a ≠ M + 34 → a ≠ M + 35 → w a k = v a k
theorem Qm.rf {M : Int} {v : QV} : Qm M v v := fun _ _ _ _ _ _ _ => rfl
theorem Qm.tr {M : Int} {u v w : QV} (h : Qm M u v) (h' : Qm M v w) : Qm M u w := fun a k h1 h2 h3 h4 h5 => (h' a k h1 h2 h3 h4 h5).trans (h a k h1 h2 h3 h4 h5)
theorem nP_ext {p q : Int → Bool} : ∀ n : Nat, (∀ i : Int, 0 ≤ i → i < n → p i = q i) → nP p n = nP q n
  | 0, _ => rfl
  | n + 1, h => by
    unfold nP
    rw [nP_ext n (fun i h0 h1 => h i h0 (by omega)), h n (by omega) (by omega)]
theorem sP_ext {p q : Int → Bool} {f g : Int → Int} : ∀ n : Nat, (∀ i : Int, 0 ≤ i → i < n → p i = q i ∧ f i = g i) → sP p f n = sP q g n
  | 0, _ => rfl
  | n + 1, h => by
    unfold sP
    rw [sP_ext n (fun i h0 h1 => h i h0 (by omega)), (h n (by omega) (by omega)).1, (h n (by omega) (by omega)).2]
theorem gP_ext {p q : Int → Bool} {f g : Int → Int} : ∀ n : Nat, (∀ i : Int, 0 ≤ i → i < n → p i = q i ∧ f i = g i) → gP p f n = gP q g n
  | 0, _ => rfl
  | n + 1, h => by
    unfold gP
    rw [gP_ext n (fun i h0 h1 => h i h0 (by omega)), (h n (by omega) (by omega)).1, (h n (by omega) (by omega)).2]
theorem lP_ext {p q : Int → Bool} {f g : Int → Int} : ∀ n : Nat, (∀ i : Int, 0 ≤ i → i < n → p i = q i ∧ f i = g i) → lP p f n = lP q g n
  | 0, _ => rfl
  | n + 1, h => by
    unfold lP
    rw [lP_ext n (fun i h0 h1 => h i h0 (by omega)), (h n (by omega) (by omega)).1, (h n (by omega) (by omega)).2]
section MR
variable {S : QS} {v w : QV} {M B : Int}
theorem RM.kp (h : LMo S v M) (hq : Qm M v w) : Kp S v w := by
  intro a k h1 h2
  refine hq a k ?_ ?_ ?_ ?_ ?_
  · rintro rfl
    rw [h.k] at h2
    by_cases q : k < 47 ∨ 51 < k
    · exact q
    · have : k = 47 ∨ k = 48 ∨ k = 49 ∨ k = 50 ∨ k = 51 := by omega
      rcases this with rfl | rfl | rfl | rfl | rfl <;> cases h2
  · rintro rfl; rw [h.a32] at h2; cases h2
  · rintro rfl; rw [h.a33] at h2; cases h2
  · rintro rfl; rw [h.a34] at h2; cases h2
  · rintro rfl; rw [h.a35] at h2; cases h2
theorem RM.keep (h : RM S v M B) (hq : Qm M v w) : RM S w M B := by
  obtain ⟨hC, h2, h3, h4, h5, h6, h7, h8, h9⟩ := h
  have e0 : w M 28 = v M 28 := hq _ _ (fun _ => by omega) (by omega) (by omega) (by omega) (by omega)
  have e : ∀ j : Int, 0 < j → j < 32 → ∀ k, w (M + j) k = v (M + j) k := fun j g1 g2 k => hq _ _ (fun _ => by omega) (by omega) (by omega) (by omega) (by omega)
  refine ⟨hC.keep (RM.kp hC hq), by rw [e0]; exact h2, h3, ?_, ?_, ?_, ?_, ?_, ?_⟩
  · rw [e 2 (by decide) (by decide)]; exact h4
  · rw [e 3 (by decide) (by decide)]; exact h5
  · rw [e 4 (by decide) (by decide)]; exact h6
  · rw [e 4 (by decide) (by decide)]
    simp only [e 15 (by decide) (by decide), e 1 (by decide) (by decide)]
    exact h7
  · rw [e 1 (by decide) (by decide)]; exact h8
  · rw [e 1 (by decide) (by decide), e 1 (by decide) (by decide), e 2 (by decide) (by decide)]; exact h9
theorem mR_keep (hq : Qm M v w) {a m i : Int} : mR w M a m i = mR v M a m i := hq _ _ (fun _ => by omega) (by omega) (by omega) (by omega) (by omega)
theorem mK_keep (hq : Qm M v w) {a : Int} : mK w M a = mK v M a := hq _ _ (fun _ => by omega) (by omega) (by omega) (by omega) (by omega)
theorem mU_keep (hq : Qm M v w) {a : Int} : mU w M B a = mU v M B a := by
  unfold mU
  rw [hq (M + 15) _ (fun _ => by omega) (by omega) (by omega) (by omega) (by omega), hq (M + 2) _ (fun _ => by omega) (by omega) (by omega) (by omega) (by omega)]
theorem mD_keep (hq : Qm M v w) {a : Int} : mD w M B a = mD v M B a := by
  unfold mD
  rw [hq (M + 15) _ (fun _ => by omega) (by omega) (by omega) (by omega) (by omega), hq (M + 1) _ (fun _ => by omega) (by omega) (by omega) (by omega) (by omega)]
theorem m_knownRows (h : RM S v M B) {a m : Int} (ha : 0 ≤ a ∧ a < v (M + 4) B) (hm : 0 ≤ m ∧ m < v (M + 3) B) : mX12_knownRows [M, a, m] S v = some (nP (kn (mR v M a m)) (mK v M a).toNat, v) := by
  have hk := mK_b h ha
  apply wM_eq
  simp only [mX12_knownRows, sX12_knownRows, wE_I, wE_V, wE_F, wE_A, wE_N, wE_1, wE_2, wE_D, wE_B, wE_If, wE_C, wE_CV, wE_SL, wE_SA, wA_0, wA_1, wC_B, wC_E, wC_And, wC_Or, wC_Not, wS_Skip, wS_Brk, wS_Cnt, wS_RetV, wS_Ret, wS_Seq, wS_Set, wS_Inc, wS_Do, wS_Put, wS_PutC, wS_Arr, wS_ArrC, wS_If, wS_Sw, wS_F0, wS_F1, wM_q, lu_ap, aL_ap, ct_0, ct_1, ct_2, ct_3, ct_4, ct_5, headD_1, List.mem_cons, List.not_mem_nil, or_false, false_or, or_true, true_or, true_and, and_true, false_and, and_false, not_true_eq_false, not_false_eq_true, if_true, if_false, nr_20, nr_24, nr_40, nr_41, nr_44, pt_lt, pt_ge, pt_eq, pt_ne, pt_gt, pt_le, pt_E, pt_N, pt_F, ite_10, ite_11, ne_eq, and_self, or_self, decide_true, decide_false, Bool.not_true, Bool.not_false, Bool.false_eq_true, Nat.reduceEqDiff, Nat.reduceAdd, Int.reduceEq, Int.reduceLT, Int.reduceLE, Int.reduceNeg, Int.reduceAdd, Int.reduceSub, Int.reduceMul, reduceCtorEq, iA, iS, iM, iD, iR, iN, lA, lS, lM, lD, lR]
  refine wS_For (mK v M a).toNat (fun j L w => (L 0 = M ∧ L 1 = a ∧ L 2 = m ∧ L 3 = nP (kn (mR v M a m)) j ∧ L 4 = j) ∧ v = w) (by omega) ?_ ?_ ?_
  · simp [lu_ap, aL_ap, ct_0, ct_2, nP]
  · rintro j L w hj ⟨⟨m0, m1, m2, m3, m4⟩, rfl⟩
    have hj1 : 0 ≤ (j : Int) ∧ (j : Int) < mK v M a := by omega
    have hc := m_cell h ha hm hj1
    simp only [cX12_knownRows_1, bX12_knownRows_1, uX12_knownRows_1, wE_I, wE_V, wE_F, wE_A, wE_N, wE_1, wE_2, wE_D, wE_B, wE_If, wE_C, wE_CV, wE_SL, wE_SA, wA_0, wA_1, wC_B, wC_E, wC_And, wC_Or, wC_Not, wS_Skip, wS_Brk, wS_Cnt, wS_RetV, wS_Ret, wS_Seq, wS_Set, wS_Inc, wS_Do, wS_Put, wS_PutC, wS_Arr, wS_ArrC, wS_If, wS_Sw, wS_F0, wS_F1, wM_q, lu_ap, aL_ap, ct_0, ct_1, ct_2, ct_3, ct_4, ct_5, headD_1, List.mem_cons, List.not_mem_nil, or_false, false_or, or_true, true_or, true_and, and_true, false_and, and_false, not_true_eq_false, not_false_eq_true, if_true, if_false, nr_20, nr_24, nr_40, nr_41, nr_44, pt_lt, pt_ge, pt_eq, pt_ne, pt_gt, pt_le, pt_E, pt_N, pt_F, ite_10, ite_11, ne_eq, and_self, or_self, decide_true, decide_false, Bool.not_true, Bool.not_false, Bool.false_eq_true, Nat.reduceEqDiff, Nat.reduceAdd, Int.reduceEq, Int.reduceLT, Int.reduceLE, Int.reduceNeg, Int.reduceAdd, Int.reduceSub, Int.reduceMul, reduceCtorEq, iA, iS, iM, iD, iR, iN, lA, lS, lM, lD, lR, h.1.k, h.1.p0, h.1.a1, h.1.n1, m0, m1, m2, m3, m4, wM_of (m_rowsKept h ha), wM_of hc.1, hc.2, hj1, w32_s (show j < 1000 by omega), nP]
    have er : v (M + 1) (167 + 30 * (4 * a + m) + j) = mR v M a m j := rfl
    rw [er]
    have b := nP_b (kn (mR v M a m)) j
    by_cases h1 : mR v M a m j = -2147483648
    · have e : kn (mR v M a m) j = false := by simp [kn, h1]
      simp only [h1, e, if_true, Bool.false_eq_true, if_false]
      generalize nP (kn (mR v M a m)) j = z at b ⊢
      exact w32_e (by omega)
    · have e : kn (mR v M a m) j = true := by simp [kn, h1]
      simp only [h1, e, if_true, if_false]
      generalize nP (kn (mR v M a m)) j = z at b ⊢
      exact w32_e (by omega)
  · rintro L w ⟨⟨m0, m1, m2, m3, m4⟩, rfl⟩
    have hl : ¬ ((mK v M a).toNat : Int) < mK v M a := by omega
    simp only [cX12_knownRows_1, wE_I, wE_V, wE_F, wE_A, wE_N, wE_1, wE_2, wE_D, wE_B, wE_If, wE_C, wE_CV, wE_SL, wE_SA, wA_0, wA_1, wC_B, wC_E, wC_And, wC_Or, wC_Not, wS_Skip, wS_Brk, wS_Cnt, wS_RetV, wS_Ret, wS_Seq, wS_Set, wS_Inc, wS_Do, wS_Put, wS_PutC, wS_Arr, wS_ArrC, wS_If, wS_Sw, wS_F0, wS_F1, wM_q, lu_ap, aL_ap, ct_0, ct_1, ct_2, ct_3, ct_4, ct_5, headD_1, List.mem_cons, List.not_mem_nil, or_false, false_or, or_true, true_or, true_and, and_true, false_and, and_false, not_true_eq_false, not_false_eq_true, if_true, if_false, nr_20, nr_24, nr_40, nr_41, nr_44, pt_lt, pt_ge, pt_eq, pt_ne, pt_gt, pt_le, pt_E, pt_N, pt_F, ite_10, ite_11, ne_eq, and_self, or_self, decide_true, decide_false, Bool.not_true, Bool.not_false, Bool.false_eq_true, Nat.reduceEqDiff, Nat.reduceAdd, Int.reduceEq, Int.reduceLT, Int.reduceLE, Int.reduceNeg, Int.reduceAdd, Int.reduceSub, Int.reduceMul, reduceCtorEq, iA, iS, iM, iD, iR, iN, lA, lS, lM, lD, lR, h.1.k, m0, m1, m2, m3, m4, wM_of (m_rowsKept h ha), hl]
theorem m_noGreater (h : RM S v M B) {a m x : Int} (ha : 0 ≤ a ∧ a < v (M + 4) B) (hm : 0 ≤ m ∧ m < v (M + 3) B) : mX12_noGreater [M, a, m, x] S v = some (nP (uP (mR v M a m) x) (mK v M a).toNat, v) := by
  have hk := mK_b h ha
  apply wM_eq
  simp only [mX12_noGreater, sX12_noGreater, wE_I, wE_V, wE_F, wE_A, wE_N, wE_1, wE_2, wE_D, wE_B, wE_If, wE_C, wE_CV, wE_SL, wE_SA, wA_0, wA_1, wC_B, wC_E, wC_And, wC_Or, wC_Not, wS_Skip, wS_Brk, wS_Cnt, wS_RetV, wS_Ret, wS_Seq, wS_Set, wS_Inc, wS_Do, wS_Put, wS_PutC, wS_Arr, wS_ArrC, wS_If, wS_Sw, wS_F0, wS_F1, wM_q, lu_ap, aL_ap, ct_0, ct_1, ct_2, ct_3, ct_4, ct_5, headD_1, List.mem_cons, List.not_mem_nil, or_false, false_or, or_true, true_or, true_and, and_true, false_and, and_false, not_true_eq_false, not_false_eq_true, if_true, if_false, nr_20, nr_24, nr_40, nr_41, nr_44, pt_lt, pt_ge, pt_eq, pt_ne, pt_gt, pt_le, pt_E, pt_N, pt_F, ite_10, ite_11, ne_eq, and_self, or_self, decide_true, decide_false, Bool.not_true, Bool.not_false, Bool.false_eq_true, Nat.reduceEqDiff, Nat.reduceAdd, Int.reduceEq, Int.reduceLT, Int.reduceLE, Int.reduceNeg, Int.reduceAdd, Int.reduceSub, Int.reduceMul, reduceCtorEq, iA, iS, iM, iD, iR, iN, lA, lS, lM, lD, lR]
  refine wS_For (mK v M a).toNat (fun j L w => (L 0 = M ∧ L 1 = a ∧ L 2 = m ∧ L 3 = x ∧ L 5 = nP (uP (mR v M a m) x) j ∧ L 6 = j) ∧ v = w) (by omega) ?_ ?_ ?_
  · simp [lu_ap, aL_ap, ct_0, ct_2, ct_1, nP]
  · rintro j L w hj ⟨⟨m0, m1, m2, m3, m5, m6⟩, rfl⟩
    have hj1 : 0 ≤ (j : Int) ∧ (j : Int) < mK v M a := by omega
    have hc := m_cell h ha hm hj1
    simp only [cX12_noGreater_1, bX12_noGreater_1, uX12_noGreater_1, wE_I, wE_V, wE_F, wE_A, wE_N, wE_1, wE_2, wE_D, wE_B, wE_If, wE_C, wE_CV, wE_SL, wE_SA, wA_0, wA_1, wC_B, wC_E, wC_And, wC_Or, wC_Not, wS_Skip, wS_Brk, wS_Cnt, wS_RetV, wS_Ret, wS_Seq, wS_Set, wS_Inc, wS_Do, wS_Put, wS_PutC, wS_Arr, wS_ArrC, wS_If, wS_Sw, wS_F0, wS_F1, wM_q, lu_ap, aL_ap, ct_0, ct_1, ct_2, ct_3, ct_4, ct_5, headD_1, List.mem_cons, List.not_mem_nil, or_false, false_or, or_true, true_or, true_and, and_true, false_and, and_false, not_true_eq_false, not_false_eq_true, if_true, if_false, nr_20, nr_24, nr_40, nr_41, nr_44, pt_lt, pt_ge, pt_eq, pt_ne, pt_gt, pt_le, pt_E, pt_N, pt_F, ite_10, ite_11, ne_eq, and_self, or_self, decide_true, decide_false, Bool.not_true, Bool.not_false, Bool.false_eq_true, Nat.reduceEqDiff, Nat.reduceAdd, Int.reduceEq, Int.reduceLT, Int.reduceLE, Int.reduceNeg, Int.reduceAdd, Int.reduceSub, Int.reduceMul, reduceCtorEq, iA, iS, iM, iD, iR, iN, lA, lS, lM, lD, lR, h.1.k, h.1.p0, h.1.a1, h.1.n1, m0, m1, m2, m3, m5, m6, wM_of (m_rowsKept h ha), wM_of hc.1, hc.2, hj1, w32_s (show j < 1000 by omega), nP]
    have er : v (M + 1) (167 + 30 * (4 * a + m) + j) = mR v M a m j := rfl
    simp only [er]
    have b := nP_b (uP (mR v M a m) x) j
    by_cases h1 : mR v M a m j = -2147483648
    · have e : uP (mR v M a m) x j = false := by simp [uP, h1]
      simp only [h1, e, wE_I, wE_V, wE_F, wE_A, wE_N, wE_1, wE_2, wE_D, wE_B, wE_If, wE_C, wE_CV, wE_SL, wE_SA, wA_0, wA_1, wC_B, wC_E, wC_And, wC_Or, wC_Not, wS_Skip, wS_Brk, wS_Cnt, wS_RetV, wS_Ret, wS_Seq, wS_Set, wS_Inc, wS_Do, wS_Put, wS_PutC, wS_Arr, wS_ArrC, wS_If, wS_Sw, wS_F0, wS_F1, wM_q, lu_ap, aL_ap, ct_0, ct_1, ct_2, ct_3, ct_4, ct_5, headD_1, List.mem_cons, List.not_mem_nil, or_false, false_or, or_true, true_or, true_and, and_true, false_and, and_false, not_true_eq_false, not_false_eq_true, if_true, if_false, nr_20, nr_24, nr_40, nr_41, nr_44, pt_lt, pt_ge, pt_eq, pt_ne, pt_gt, pt_le, pt_E, pt_N, pt_F, ite_10, ite_11, ne_eq, and_self, or_self, decide_true, decide_false, Bool.not_true, Bool.not_false, Bool.false_eq_true, Nat.reduceEqDiff, Nat.reduceAdd, Int.reduceEq, Int.reduceLT, Int.reduceLE, Int.reduceNeg, Int.reduceAdd, Int.reduceSub, Int.reduceMul, reduceCtorEq]
      generalize nP (uP (mR v M a m) x) j = z at b ⊢
      exact w32_e (by omega)
    · by_cases h2 : mR v M a m j ≤ x
      · have e : uP (mR v M a m) x j = true := by simp [uP, h1, h2]
        simp only [h1, h2, e, wE_I, wE_V, wE_F, wE_A, wE_N, wE_1, wE_2, wE_D, wE_B, wE_If, wE_C, wE_CV, wE_SL, wE_SA, wA_0, wA_1, wC_B, wC_E, wC_And, wC_Or, wC_Not, wS_Skip, wS_Brk, wS_Cnt, wS_RetV, wS_Ret, wS_Seq, wS_Set, wS_Inc, wS_Do, wS_Put, wS_PutC, wS_Arr, wS_ArrC, wS_If, wS_Sw, wS_F0, wS_F1, wM_q, lu_ap, aL_ap, ct_0, ct_1, ct_2, ct_3, ct_4, ct_5, headD_1, List.mem_cons, List.not_mem_nil, or_false, false_or, or_true, true_or, true_and, and_true, false_and, and_false, not_true_eq_false, not_false_eq_true, if_true, if_false, nr_20, nr_24, nr_40, nr_41, nr_44, pt_lt, pt_ge, pt_eq, pt_ne, pt_gt, pt_le, pt_E, pt_N, pt_F, ite_10, ite_11, ne_eq, and_self, or_self, decide_true, decide_false, Bool.not_true, Bool.not_false, Bool.false_eq_true, Nat.reduceEqDiff, Nat.reduceAdd, Int.reduceEq, Int.reduceLT, Int.reduceLE, Int.reduceNeg, Int.reduceAdd, Int.reduceSub, Int.reduceMul, reduceCtorEq]
        generalize nP (uP (mR v M a m) x) j = z at b ⊢
        exact w32_e (by omega)
      · have e : uP (mR v M a m) x j = false := by simp [uP, h2]
        simp only [h1, h2, e, wE_I, wE_V, wE_F, wE_A, wE_N, wE_1, wE_2, wE_D, wE_B, wE_If, wE_C, wE_CV, wE_SL, wE_SA, wA_0, wA_1, wC_B, wC_E, wC_And, wC_Or, wC_Not, wS_Skip, wS_Brk, wS_Cnt, wS_RetV, wS_Ret, wS_Seq, wS_Set, wS_Inc, wS_Do, wS_Put, wS_PutC, wS_Arr, wS_ArrC, wS_If, wS_Sw, wS_F0, wS_F1, wM_q, lu_ap, aL_ap, ct_0, ct_1, ct_2, ct_3, ct_4, ct_5, headD_1, List.mem_cons, List.not_mem_nil, or_false, false_or, or_true, true_or, true_and, and_true, false_and, and_false, not_true_eq_false, not_false_eq_true, if_true, if_false, nr_20, nr_24, nr_40, nr_41, nr_44, pt_lt, pt_ge, pt_eq, pt_ne, pt_gt, pt_le, pt_E, pt_N, pt_F, ite_10, ite_11, ne_eq, and_self, or_self, decide_true, decide_false, Bool.not_true, Bool.not_false, Bool.false_eq_true, Nat.reduceEqDiff, Nat.reduceAdd, Int.reduceEq, Int.reduceLT, Int.reduceLE, Int.reduceNeg, Int.reduceAdd, Int.reduceSub, Int.reduceMul, reduceCtorEq]
        generalize nP (uP (mR v M a m) x) j = z at b ⊢
        exact w32_e (by omega)
  · rintro L w ⟨⟨m0, m1, m2, m3, m5, m6⟩, rfl⟩
    have hl : ¬ ((mK v M a).toNat : Int) < mK v M a := by omega
    simp only [cX12_noGreater_1, wE_I, wE_V, wE_F, wE_A, wE_N, wE_1, wE_2, wE_D, wE_B, wE_If, wE_C, wE_CV, wE_SL, wE_SA, wA_0, wA_1, wC_B, wC_E, wC_And, wC_Or, wC_Not, wS_Skip, wS_Brk, wS_Cnt, wS_RetV, wS_Ret, wS_Seq, wS_Set, wS_Inc, wS_Do, wS_Put, wS_PutC, wS_Arr, wS_ArrC, wS_If, wS_Sw, wS_F0, wS_F1, wM_q, lu_ap, aL_ap, ct_0, ct_1, ct_2, ct_3, ct_4, ct_5, headD_1, List.mem_cons, List.not_mem_nil, or_false, false_or, or_true, true_or, true_and, and_true, false_and, and_false, not_true_eq_false, not_false_eq_true, if_true, if_false, nr_20, nr_24, nr_40, nr_41, nr_44, pt_lt, pt_ge, pt_eq, pt_ne, pt_gt, pt_le, pt_E, pt_N, pt_F, ite_10, ite_11, ne_eq, and_self, or_self, decide_true, decide_false, Bool.not_true, Bool.not_false, Bool.false_eq_true, Nat.reduceEqDiff, Nat.reduceAdd, Int.reduceEq, Int.reduceLT, Int.reduceLE, Int.reduceNeg, Int.reduceAdd, Int.reduceSub, Int.reduceMul, reduceCtorEq, iA, iS, iM, iD, iR, iN, lA, lS, lM, lD, lR, h.1.k, m0, m1, m2, m3, m5, m6, wM_of (m_rowsKept h ha), hl]
theorem m_share (h : RM S v M B) {a m x : Int} (hr : ∀ i, 0 ≤ i → i < mK v M a → tv (mR v M a m i)) : mX12_share [M, a, m, x] S v = some (if ((0 ≤ a ∧ a < v (M + 4) B) ∧ (0 ≤ m ∧ m < v (M + 3) B)) ∧ 0 ≤ x ∧ x ≤ 100 then w32 (fShare (mK v M a).toNat (mR v M a m) x) else -2147483648, v) := by
  apply wM_eq
  by_cases h0 : (0 ≤ a ∧ a < v (M + 4) B) ∧ (0 ≤ m ∧ m < v (M + 3) B)
  · obtain ⟨ha, hm⟩ := h0
    by_cases hx : 0 ≤ x ∧ x ≤ 100
    · have hk := mK_b h ha
      have ekn : nP (kn (mR v M a m)) (mK v M a).toNat = nP (uP (mR v M a m) 2000000000) (mK v M a).toNat := by
        refine nP_ext _ (fun i h1 h2 => ?_)
        have := hr i h1 (by omega)
        unfold tv at this
        have e : mR v M a m i ≤ 2000000000 := by omega
        simp [kn, uP, e]
      simp only [mX12_share, sX12_share, wE_I, wE_V, wE_F, wE_A, wE_N, wE_1, wE_2, wE_D, wE_B, wE_If, wE_C, wE_CV, wE_SL, wE_SA, wA_0, wA_1, wC_B, wC_E, wC_And, wC_Or, wC_Not, wS_Skip, wS_Brk, wS_Cnt, wS_RetV, wS_Ret, wS_Seq, wS_Set, wS_Inc, wS_Do, wS_Put, wS_PutC, wS_Arr, wS_ArrC, wS_If, wS_Sw, wS_F0, wS_F1, wM_q, lu_ap, aL_ap, ct_0, ct_1, ct_2, ct_3, ct_4, ct_5, headD_1, List.mem_cons, List.not_mem_nil, or_false, false_or, or_true, true_or, true_and, and_true, false_and, and_false, not_true_eq_false, not_false_eq_true, if_true, if_false, nr_20, nr_24, nr_40, nr_41, nr_44, pt_lt, pt_ge, pt_eq, pt_ne, pt_gt, pt_le, pt_E, pt_N, pt_F, ite_10, ite_11, ne_eq, and_self, or_self, decide_true, decide_false, Bool.not_true, Bool.not_false, Bool.false_eq_true, Nat.reduceEqDiff, Nat.reduceAdd, Int.reduceEq, Int.reduceLT, Int.reduceLE, Int.reduceNeg, Int.reduceAdd, Int.reduceSub, Int.reduceMul, reduceCtorEq, iA, iS, iM, iD, iR, iN, lA, lS, lM, lD, lR, h.1.k, wM_of (m_isBoth h), wM_of m_isIn, ha, hm, hx, wM_of (m_knownRows h ha hm), ekn]
      refine wS_For (mK v M a).toNat (fun j L w => (L 0 = M ∧ L 1 = a ∧ L 2 = m ∧ L 3 = x ∧ L 4 = nP (uP (mR v M a m) 2000000000) (mK v M a).toNat ∧ L 5 = lP (shp (mK v M a).toNat (mR v M a m) x) (mR v M a m) j ∧ L 7 = j) ∧ v = w) (by omega) ?_ ?_ ?_
      · simp [lu_ap, aL_ap, ct_0, ct_2, ct_1, lP]
      · rintro j L w hj ⟨⟨m0, m1, m2, m3, m4, m5, m7⟩, rfl⟩
        have hj1 : 0 ≤ (j : Int) ∧ (j : Int) < mK v M a := by omega
        have hc := m_cell h ha hm hj1
        simp only [cX12_share_1, bX12_share_1, uX12_share_1, wE_I, wE_V, wE_F, wE_A, wE_N, wE_1, wE_2, wE_D, wE_B, wE_If, wE_C, wE_CV, wE_SL, wE_SA, wA_0, wA_1, wC_B, wC_E, wC_And, wC_Or, wC_Not, wS_Skip, wS_Brk, wS_Cnt, wS_RetV, wS_Ret, wS_Seq, wS_Set, wS_Inc, wS_Do, wS_Put, wS_PutC, wS_Arr, wS_ArrC, wS_If, wS_Sw, wS_F0, wS_F1, wM_q, lu_ap, aL_ap, ct_0, ct_1, ct_2, ct_3, ct_4, ct_5, headD_1, List.mem_cons, List.not_mem_nil, or_false, false_or, or_true, true_or, true_and, and_true, false_and, and_false, not_true_eq_false, not_false_eq_true, if_true, if_false, nr_20, nr_24, nr_40, nr_41, nr_44, pt_lt, pt_ge, pt_eq, pt_ne, pt_gt, pt_le, pt_E, pt_N, pt_F, ite_10, ite_11, ne_eq, and_self, or_self, decide_true, decide_false, Bool.not_true, Bool.not_false, Bool.false_eq_true, Nat.reduceEqDiff, Nat.reduceAdd, Int.reduceEq, Int.reduceLT, Int.reduceLE, Int.reduceNeg, Int.reduceAdd, Int.reduceSub, Int.reduceMul, reduceCtorEq, iA, iS, iM, iD, iR, iN, lA, lS, lM, lD, lR, h.1.k, h.1.p0, h.1.a1, h.1.n1, m0, m1, m2, m3, m4, m5, m7, wM_of (m_rowsKept h ha), wM_of (m_noGreater h ha hm), wM_of hc.1, hc.2, hj1, w32_s (show j < 1000 by omega)]
        have er : v (M + 1) (167 + 30 * (4 * a + m) + j) = mR v M a m j := rfl
        simp only [er]
        generalize mR v M a m = ρ
        generalize (mK v M a).toNat = K
        by_cases h1 : ρ j = -2147483648
        · simp [h1, lP, shp]
        · by_cases h2 : w32 (x * nP (uP ρ 2000000000) K) ≤ w32 (100 * nP (uP ρ (ρ j)) K)
          · have hp : shp K ρ x j = true := by simp [shp, h1, h2]
            have h2' : ¬ w32 (100 * nP (uP ρ (ρ j)) K) < w32 (x * nP (uP ρ 2000000000) K) := Int.not_lt.mpr h2
            simp only [h1, h2', lP, hp, wE_I, wE_V, wE_F, wE_A, wE_N, wE_1, wE_2, wE_D, wE_B, wE_If, wE_C, wE_CV, wE_SL, wE_SA, wA_0, wA_1, wC_B, wC_E, wC_And, wC_Or, wC_Not, wS_Skip, wS_Brk, wS_Cnt, wS_RetV, wS_Ret, wS_Seq, wS_Set, wS_Inc, wS_Do, wS_Put, wS_PutC, wS_Arr, wS_ArrC, wS_If, wS_Sw, wS_F0, wS_F1, wM_q, lu_ap, aL_ap, ct_0, ct_1, ct_2, ct_3, ct_4, ct_5, headD_1, List.mem_cons, List.not_mem_nil, or_false, false_or, or_true, true_or, true_and, and_true, false_and, and_false, not_true_eq_false, not_false_eq_true, if_true, if_false, nr_20, nr_24, nr_40, nr_41, nr_44, pt_lt, pt_ge, pt_eq, pt_ne, pt_gt, pt_le, pt_E, pt_N, pt_F, ite_10, ite_11, ne_eq, and_self, or_self, decide_true, decide_false, Bool.not_true, Bool.not_false, Bool.false_eq_true, Nat.reduceEqDiff, Nat.reduceAdd, Int.reduceEq, Int.reduceLT, Int.reduceLE, Int.reduceNeg, Int.reduceAdd, Int.reduceSub, Int.reduceMul, reduceCtorEq]
            by_cases h3 : lP (shp K ρ x) ρ j = -2147483648
            · simp [h3]
            · by_cases h4 : ρ j < lP (shp K ρ x) ρ j <;> simp [h3, h4]
          · have hp : shp K ρ x j = false := by simp [shp, h2]
            have h2' : w32 (100 * nP (uP ρ (ρ j)) K) < w32 (x * nP (uP ρ 2000000000) K) := Int.not_le.mp h2
            simp [h1, h2', lP, hp]
      · rintro L w ⟨⟨m0, m1, m2, m3, m4, m5, m7⟩, rfl⟩
        have hl : ¬ ((mK v M a).toNat : Int) < mK v M a := by omega
        simp only [cX12_share_1, wE_I, wE_V, wE_F, wE_A, wE_N, wE_1, wE_2, wE_D, wE_B, wE_If, wE_C, wE_CV, wE_SL, wE_SA, wA_0, wA_1, wC_B, wC_E, wC_And, wC_Or, wC_Not, wS_Skip, wS_Brk, wS_Cnt, wS_RetV, wS_Ret, wS_Seq, wS_Set, wS_Inc, wS_Do, wS_Put, wS_PutC, wS_Arr, wS_ArrC, wS_If, wS_Sw, wS_F0, wS_F1, wM_q, lu_ap, aL_ap, ct_0, ct_1, ct_2, ct_3, ct_4, ct_5, headD_1, List.mem_cons, List.not_mem_nil, or_false, false_or, or_true, true_or, true_and, and_true, false_and, and_false, not_true_eq_false, not_false_eq_true, if_true, if_false, nr_20, nr_24, nr_40, nr_41, nr_44, pt_lt, pt_ge, pt_eq, pt_ne, pt_gt, pt_le, pt_E, pt_N, pt_F, ite_10, ite_11, ne_eq, and_self, or_self, decide_true, decide_false, Bool.not_true, Bool.not_false, Bool.false_eq_true, Nat.reduceEqDiff, Nat.reduceAdd, Int.reduceEq, Int.reduceLT, Int.reduceLE, Int.reduceNeg, Int.reduceAdd, Int.reduceSub, Int.reduceMul, reduceCtorEq, iA, iS, iM, iD, iR, iN, lA, lS, lM, lD, lR, h.1.k, m0, m1, m5, m7, wM_of (m_rowsKept h ha), hl, fShare]
    · simp only [mX12_share, sX12_share, wE_I, wE_V, wE_F, wE_A, wE_N, wE_1, wE_2, wE_D, wE_B, wE_If, wE_C, wE_CV, wE_SL, wE_SA, wA_0, wA_1, wC_B, wC_E, wC_And, wC_Or, wC_Not, wS_Skip, wS_Brk, wS_Cnt, wS_RetV, wS_Ret, wS_Seq, wS_Set, wS_Inc, wS_Do, wS_Put, wS_PutC, wS_Arr, wS_ArrC, wS_If, wS_Sw, wS_F0, wS_F1, wM_q, lu_ap, aL_ap, ct_0, ct_1, ct_2, ct_3, ct_4, ct_5, headD_1, List.mem_cons, List.not_mem_nil, or_false, false_or, or_true, true_or, true_and, and_true, false_and, and_false, not_true_eq_false, not_false_eq_true, if_true, if_false, nr_20, nr_24, nr_40, nr_41, nr_44, pt_lt, pt_ge, pt_eq, pt_ne, pt_gt, pt_le, pt_E, pt_N, pt_F, ite_10, ite_11, ne_eq, and_self, or_self, decide_true, decide_false, Bool.not_true, Bool.not_false, Bool.false_eq_true, Nat.reduceEqDiff, Nat.reduceAdd, Int.reduceEq, Int.reduceLT, Int.reduceLE, Int.reduceNeg, Int.reduceAdd, Int.reduceSub, Int.reduceMul, reduceCtorEq, iA, iS, iM, iD, iR, iN, lA, lS, lM, lD, lR, h.1.k, wM_of (m_isBoth h), wM_of m_isIn, ha, hm, hx]
  · simp only [mX12_share, sX12_share, wE_I, wE_V, wE_F, wE_A, wE_N, wE_1, wE_2, wE_D, wE_B, wE_If, wE_C, wE_CV, wE_SL, wE_SA, wA_0, wA_1, wC_B, wC_E, wC_And, wC_Or, wC_Not, wS_Skip, wS_Brk, wS_Cnt, wS_RetV, wS_Ret, wS_Seq, wS_Set, wS_Inc, wS_Do, wS_Put, wS_PutC, wS_Arr, wS_ArrC, wS_If, wS_Sw, wS_F0, wS_F1, wM_q, lu_ap, aL_ap, ct_0, ct_1, ct_2, ct_3, ct_4, ct_5, headD_1, List.mem_cons, List.not_mem_nil, or_false, false_or, or_true, true_or, true_and, and_true, false_and, and_false, not_true_eq_false, not_false_eq_true, if_true, if_false, nr_20, nr_24, nr_40, nr_41, nr_44, pt_lt, pt_ge, pt_eq, pt_ne, pt_gt, pt_le, pt_E, pt_N, pt_F, ite_10, ite_11, ne_eq, and_self, or_self, decide_true, decide_false, Bool.not_true, Bool.not_false, Bool.false_eq_true, Nat.reduceEqDiff, Nat.reduceAdd, Int.reduceEq, Int.reduceLT, Int.reduceLE, Int.reduceNeg, Int.reduceAdd, Int.reduceSub, Int.reduceMul, reduceCtorEq, iA, iS, iM, iD, iR, iN, lA, lS, lM, lD, lR, h.1.k, wM_of (m_isBoth h), h0]
theorem m_wayOf (h : RM S v M B) {a m i : Int} (ha : 0 ≤ a ∧ a < v (M + 4) B) (hm : 0 ≤ m ∧ m < v (M + 3) B) (hi : 0 ≤ i ∧ i + 1 < mK v M a) : mX12_wayOf [M, a, m, i] S v = some (wy (mR v M a m) i, v) := by
  have hk := mK_b h ha
  apply wM_eq
  have hc := m_cell h ha hm (show 0 ≤ i ∧ i < mK v M a by omega)
  have hc' := m_cell h ha hm (show 0 ≤ i + 1 ∧ i + 1 < mK v M a by omega)
  have e : w32 (i + 1) = i + 1 := w32_e (by omega)
  simp only [mX12_wayOf, sX12_wayOf, wE_I, wE_V, wE_F, wE_A, wE_N, wE_1, wE_2, wE_D, wE_B, wE_If, wE_C, wE_CV, wE_SL, wE_SA, wA_0, wA_1, wC_B, wC_E, wC_And, wC_Or, wC_Not, wS_Skip, wS_Brk, wS_Cnt, wS_RetV, wS_Ret, wS_Seq, wS_Set, wS_Inc, wS_Do, wS_Put, wS_PutC, wS_Arr, wS_ArrC, wS_If, wS_Sw, wS_F0, wS_F1, wM_q, lu_ap, aL_ap, ct_0, ct_1, ct_2, ct_3, ct_4, ct_5, headD_1, List.mem_cons, List.not_mem_nil, or_false, false_or, or_true, true_or, true_and, and_true, false_and, and_false, not_true_eq_false, not_false_eq_true, if_true, if_false, nr_20, nr_24, nr_40, nr_41, nr_44, pt_lt, pt_ge, pt_eq, pt_ne, pt_gt, pt_le, pt_E, pt_N, pt_F, ite_10, ite_11, ne_eq, and_self, or_self, decide_true, decide_false, Bool.not_true, Bool.not_false, Bool.false_eq_true, Nat.reduceEqDiff, Nat.reduceAdd, Int.reduceEq, Int.reduceLT, Int.reduceLE, Int.reduceNeg, Int.reduceAdd, Int.reduceSub, Int.reduceMul, reduceCtorEq, iA, iS, iM, iD, iR, iN, lA, lS, lM, lD, lR, h.1.k, h.1.p0, h.1.a1, h.1.n1, e, wM_of hc.1, wM_of hc'.1, hc.2, hc'.2]
  have er : ∀ j, v (M + 1) (167 + 30 * (4 * a + m) + j) = mR v M a m j := fun _ => rfl
  simp only [er]
  unfold wy
  by_cases q1 : mR v M a m i = -2147483648
  · simp [q1]
  · by_cases q2 : mR v M a m (i + 1) = -2147483648
    · simp [q1, q2]
    · by_cases q3 : mR v M a m i = mR v M a m (i + 1)
      · simp [q2, q3]
      · by_cases q4 : mR v M a m (i + 1) < mR v M a m i <;> simp [q1, q2, q3, q4]
theorem wy_b (ρ : Int → Int) (i : Int) : wy ρ i = 0 ∨ wy ρ i = 1 ∨ wy ρ i = -1 := by
  unfold wy
  split
  · exact Or.inl rfl
  · split
    · exact Or.inr (Or.inl rfl)
    · exact Or.inr (Or.inr rfl)
theorem m_alike (h : RM S v M B) {a m n : Int} : mX12_alike [M, a, m, n] S v = some (if ((0 ≤ a ∧ a < v (M + 4) B) ∧ (0 ≤ m ∧ m < v (M + 3) B)) ∧ 0 ≤ n ∧ n < v (M + 3) B then nP (alp (mR v M a m) (mR v M a n)) ((mK v M a).toNat - 1) else -1, v) := by
  apply wM_eq
  by_cases h0 : (0 ≤ a ∧ a < v (M + 4) B) ∧ (0 ≤ m ∧ m < v (M + 3) B)
  · obtain ⟨ha, hm⟩ := h0
    by_cases hn : 0 ≤ n ∧ n < v (M + 3) B
    · have hk := mK_b h ha
      simp only [mX12_alike, sX12_alike, wE_I, wE_V, wE_F, wE_A, wE_N, wE_1, wE_2, wE_D, wE_B, wE_If, wE_C, wE_CV, wE_SL, wE_SA, wA_0, wA_1, wC_B, wC_E, wC_And, wC_Or, wC_Not, wS_Skip, wS_Brk, wS_Cnt, wS_RetV, wS_Ret, wS_Seq, wS_Set, wS_Inc, wS_Do, wS_Put, wS_PutC, wS_Arr, wS_ArrC, wS_If, wS_Sw, wS_F0, wS_F1, wM_q, lu_ap, aL_ap, ct_0, ct_1, ct_2, ct_3, ct_4, ct_5, headD_1, List.mem_cons, List.not_mem_nil, or_false, false_or, or_true, true_or, true_and, and_true, false_and, and_false, not_true_eq_false, not_false_eq_true, if_true, if_false, nr_20, nr_24, nr_40, nr_41, nr_44, pt_lt, pt_ge, pt_eq, pt_ne, pt_gt, pt_le, pt_E, pt_N, pt_F, ite_10, ite_11, ne_eq, and_self, or_self, decide_true, decide_false, Bool.not_true, Bool.not_false, Bool.false_eq_true, Nat.reduceEqDiff, Nat.reduceAdd, Int.reduceEq, Int.reduceLT, Int.reduceLE, Int.reduceNeg, Int.reduceAdd, Int.reduceSub, Int.reduceMul, reduceCtorEq, iA, iS, iM, iD, iR, iN, lA, lS, lM, lD, lR, h.1.k, wM_of (m_isBoth h), wM_of (m_isMeasure h), ha, hm, hn]
      refine wS_For ((mK v M a).toNat - 1) (fun j L w => (L 0 = M ∧ L 1 = a ∧ L 2 = m ∧ L 3 = n ∧ L 4 = nP (alp (mR v M a m) (mR v M a n)) j ∧ L 5 = j) ∧ v = w) (by omega) ?_ ?_ ?_
      · simp [lu_ap, aL_ap, ct_0, ct_2, nP]
      · rintro j L w hj ⟨⟨m0, m1, m2, m3, m4, m5⟩, rfl⟩
        have hj1 : 0 ≤ (j : Int) ∧ (j : Int) + 1 < mK v M a := by omega
        have e : ((j + 1 : Nat) : Int) < mK v M a := by omega
        simp only [cX12_alike_1, bX12_alike_1, uX12_alike_1, wE_I, wE_V, wE_F, wE_A, wE_N, wE_1, wE_2, wE_D, wE_B, wE_If, wE_C, wE_CV, wE_SL, wE_SA, wA_0, wA_1, wC_B, wC_E, wC_And, wC_Or, wC_Not, wS_Skip, wS_Brk, wS_Cnt, wS_RetV, wS_Ret, wS_Seq, wS_Set, wS_Inc, wS_Do, wS_Put, wS_PutC, wS_Arr, wS_ArrC, wS_If, wS_Sw, wS_F0, wS_F1, wM_q, lu_ap, aL_ap, ct_0, ct_1, ct_2, ct_3, ct_4, ct_5, headD_1, List.mem_cons, List.not_mem_nil, or_false, false_or, or_true, true_or, true_and, and_true, false_and, and_false, not_true_eq_false, not_false_eq_true, if_true, if_false, nr_20, nr_24, nr_40, nr_41, nr_44, pt_lt, pt_ge, pt_eq, pt_ne, pt_gt, pt_le, pt_E, pt_N, pt_F, ite_10, ite_11, ne_eq, and_self, or_self, decide_true, decide_false, Bool.not_true, Bool.not_false, Bool.false_eq_true, Nat.reduceEqDiff, Nat.reduceAdd, Int.reduceEq, Int.reduceLT, Int.reduceLE, Int.reduceNeg, Int.reduceAdd, Int.reduceSub, Int.reduceMul, reduceCtorEq, iA, iS, iM, iD, iR, iN, lA, lS, lM, lD, lR, h.1.k, m0, m1, m2, m3, m4, m5, wM_of (m_rowsKept h ha), wM_of (m_wayOf h ha hm hj1), wM_of (m_wayOf h ha hn hj1), w32_s (show j < 1000 by omega), e, nP]
        generalize mR v M a m = ρ
        generalize mR v M a n = σ
        have b1 := wy_b ρ j
        have b2 := wy_b σ j
        have b3 := nP_b (alp ρ σ) j
        have key : 0 < w32 (wy ρ j * wy σ j) ↔ alp ρ σ j = true := by
          unfold alp
          rw [decide_eq_true_eq]
          rcases b1 with h1 | h1 | h1 <;> rcases b2 with h2 | h2 | h2 <;> rw [h1, h2] <;> decide
        by_cases hp : alp ρ σ j = true
        · simp only [key.mpr hp, hp, if_true]
          generalize nP (alp ρ σ) j = z at b3 ⊢
          exact w32_e (by omega)
        · simp only [mt key.mp hp, hp, if_false]
          generalize nP (alp ρ σ) j = z at b3 ⊢
          exact w32_e (by omega)
      · rintro L w ⟨⟨m0, m1, m2, m3, m4, m5⟩, rfl⟩
        have e := w32_s (show (mK v M a).toNat - 1 < 1000 by omega)
        simp only [cX12_alike_1, wE_I, wE_V, wE_F, wE_A, wE_N, wE_1, wE_2, wE_D, wE_B, wE_If, wE_C, wE_CV, wE_SL, wE_SA, wA_0, wA_1, wC_B, wC_E, wC_And, wC_Or, wC_Not, wS_Skip, wS_Brk, wS_Cnt, wS_RetV, wS_Ret, wS_Seq, wS_Set, wS_Inc, wS_Do, wS_Put, wS_PutC, wS_Arr, wS_ArrC, wS_If, wS_Sw, wS_F0, wS_F1, wM_q, lu_ap, aL_ap, ct_0, ct_1, ct_2, ct_3, ct_4, ct_5, headD_1, List.mem_cons, List.not_mem_nil, or_false, false_or, or_true, true_or, true_and, and_true, false_and, and_false, not_true_eq_false, not_false_eq_true, if_true, if_false, nr_20, nr_24, nr_40, nr_41, nr_44, pt_lt, pt_ge, pt_eq, pt_ne, pt_gt, pt_le, pt_E, pt_N, pt_F, ite_10, ite_11, ne_eq, and_self, or_self, decide_true, decide_false, Bool.not_true, Bool.not_false, Bool.false_eq_true, Nat.reduceEqDiff, Nat.reduceAdd, Int.reduceEq, Int.reduceLT, Int.reduceLE, Int.reduceNeg, Int.reduceAdd, Int.reduceSub, Int.reduceMul, reduceCtorEq, iA, iS, iM, iD, iR, iN, lA, lS, lM, lD, lR, h.1.k, m0, m1, m4, m5, e, wM_of (m_rowsKept h ha)]
        clear e
        omega
    · simp only [mX12_alike, sX12_alike, wE_I, wE_V, wE_F, wE_A, wE_N, wE_1, wE_2, wE_D, wE_B, wE_If, wE_C, wE_CV, wE_SL, wE_SA, wA_0, wA_1, wC_B, wC_E, wC_And, wC_Or, wC_Not, wS_Skip, wS_Brk, wS_Cnt, wS_RetV, wS_Ret, wS_Seq, wS_Set, wS_Inc, wS_Do, wS_Put, wS_PutC, wS_Arr, wS_ArrC, wS_If, wS_Sw, wS_F0, wS_F1, wM_q, lu_ap, aL_ap, ct_0, ct_1, ct_2, ct_3, ct_4, ct_5, headD_1, List.mem_cons, List.not_mem_nil, or_false, false_or, or_true, true_or, true_and, and_true, false_and, and_false, not_true_eq_false, not_false_eq_true, if_true, if_false, nr_20, nr_24, nr_40, nr_41, nr_44, pt_lt, pt_ge, pt_eq, pt_ne, pt_gt, pt_le, pt_E, pt_N, pt_F, ite_10, ite_11, ne_eq, and_self, or_self, decide_true, decide_false, Bool.not_true, Bool.not_false, Bool.false_eq_true, Nat.reduceEqDiff, Nat.reduceAdd, Int.reduceEq, Int.reduceLT, Int.reduceLE, Int.reduceNeg, Int.reduceAdd, Int.reduceSub, Int.reduceMul, reduceCtorEq, iA, iS, iM, iD, iR, iN, lA, lS, lM, lD, lR, h.1.k, wM_of (m_isBoth h), wM_of (m_isMeasure h), ha, hm, hn]
  · simp only [mX12_alike, sX12_alike, wE_I, wE_V, wE_F, wE_A, wE_N, wE_1, wE_2, wE_D, wE_B, wE_If, wE_C, wE_CV, wE_SL, wE_SA, wA_0, wA_1, wC_B, wC_E, wC_And, wC_Or, wC_Not, wS_Skip, wS_Brk, wS_Cnt, wS_RetV, wS_Ret, wS_Seq, wS_Set, wS_Inc, wS_Do, wS_Put, wS_PutC, wS_Arr, wS_ArrC, wS_If, wS_Sw, wS_F0, wS_F1, wM_q, lu_ap, aL_ap, ct_0, ct_1, ct_2, ct_3, ct_4, ct_5, headD_1, List.mem_cons, List.not_mem_nil, or_false, false_or, or_true, true_or, true_and, and_true, false_and, and_false, not_true_eq_false, not_false_eq_true, if_true, if_false, nr_20, nr_24, nr_40, nr_41, nr_44, pt_lt, pt_ge, pt_eq, pt_ne, pt_gt, pt_le, pt_E, pt_N, pt_F, ite_10, ite_11, ne_eq, and_self, or_self, decide_true, decide_false, Bool.not_true, Bool.not_false, Bool.false_eq_true, Nat.reduceEqDiff, Nat.reduceAdd, Int.reduceEq, Int.reduceLT, Int.reduceLE, Int.reduceNeg, Int.reduceAdd, Int.reduceSub, Int.reduceMul, reduceCtorEq, iA, iS, iM, iD, iR, iN, lA, lS, lM, lD, lR, h.1.k, wM_of (m_isBoth h), h0]
theorem m_left (h : RM S v M B) {a : Int} : mX12_left [M, a] S v = some (if 0 ≤ a ∧ a < v (M + 4) B then w32 (mU v M B a - v (M + 1) 0 % mU v M B a) else -1, v) := by
  apply wM_eq
  by_cases ha : 0 ≤ a ∧ a < v (M + 4) B
  · have hu := mU_b h ha
    have ht := h.2.2.2.2.2.2.2.1
    have e5 : ¬ mU v M B a = 0 := by omega
    have q1 := Int.emod_nonneg (v (M + 1) 0) e5
    have q2 := Int.emod_lt_of_pos (v (M + 1) 0) (show 0 < mU v M B a by omega)
    simp only [mX12_left, sX12_left, wE_I, wE_V, wE_F, wE_A, wE_N, wE_1, wE_2, wE_D, wE_B, wE_If, wE_C, wE_CV, wE_SL, wE_SA, wA_0, wA_1, wC_B, wC_E, wC_And, wC_Or, wC_Not, wS_Skip, wS_Brk, wS_Cnt, wS_RetV, wS_Ret, wS_Seq, wS_Set, wS_Inc, wS_Do, wS_Put, wS_PutC, wS_Arr, wS_ArrC, wS_If, wS_Sw, wS_F0, wS_F1, wM_q, lu_ap, aL_ap, ct_0, ct_1, ct_2, ct_3, ct_4, ct_5, headD_1, List.mem_cons, List.not_mem_nil, or_false, false_or, or_true, true_or, true_and, and_true, false_and, and_false, not_true_eq_false, not_false_eq_true, if_true, if_false, nr_20, nr_24, nr_40, nr_41, nr_44, pt_lt, pt_ge, pt_eq, pt_ne, pt_gt, pt_le, pt_E, pt_N, pt_F, ite_10, ite_11, ne_eq, and_self, or_self, decide_true, decide_false, Bool.not_true, Bool.not_false, Bool.false_eq_true, Nat.reduceEqDiff, Nat.reduceAdd, Int.reduceEq, Int.reduceLT, Int.reduceLE, Int.reduceNeg, Int.reduceAdd, Int.reduceSub, Int.reduceMul, reduceCtorEq, iA, iS, iM, iD, iR, iN, lA, lS, lM, lD, lR, h.1.k, h.1.p0, h.1.a1, h.1.n1, wM_of (m_isArchive h), ha, wM_of (m_unitsOf h ha), e5, tmod_n ht.1]
    have e1 : w64 (v (M + 1) 0 % mU v M B a) = v (M + 1) 0 % mU v M B a := w64_e (by omega)
    rw [e1]
    clear e1
    have e2 : w64 (mU v M B a - v (M + 1) 0 % mU v M B a) = mU v M B a - v (M + 1) 0 % mU v M B a := w64_e (by omega)
    rw [e2]
  · simp only [mX12_left, sX12_left, wE_I, wE_V, wE_F, wE_A, wE_N, wE_1, wE_2, wE_D, wE_B, wE_If, wE_C, wE_CV, wE_SL, wE_SA, wA_0, wA_1, wC_B, wC_E, wC_And, wC_Or, wC_Not, wS_Skip, wS_Brk, wS_Cnt, wS_RetV, wS_Ret, wS_Seq, wS_Set, wS_Inc, wS_Do, wS_Put, wS_PutC, wS_Arr, wS_ArrC, wS_If, wS_Sw, wS_F0, wS_F1, wM_q, lu_ap, aL_ap, ct_0, ct_1, ct_2, ct_3, ct_4, ct_5, headD_1, List.mem_cons, List.not_mem_nil, or_false, false_or, or_true, true_or, true_and, and_true, false_and, and_false, not_true_eq_false, not_false_eq_true, if_true, if_false, nr_20, nr_24, nr_40, nr_41, nr_44, pt_lt, pt_ge, pt_eq, pt_ne, pt_gt, pt_le, pt_E, pt_N, pt_F, ite_10, ite_11, ne_eq, and_self, or_self, decide_true, decide_false, Bool.not_true, Bool.not_false, Bool.false_eq_true, Nat.reduceEqDiff, Nat.reduceAdd, Int.reduceEq, Int.reduceLT, Int.reduceLE, Int.reduceNeg, Int.reduceAdd, Int.reduceSub, Int.reduceMul, reduceCtorEq, iA, iS, iM, iD, iR, iN, lA, lS, lM, lD, lR, h.1.k, wM_of (m_isArchive h), ha]
theorem m_archive (h : RM S v M B) {a x : Int} : mX12_archive [M, a, x] S v = some (if 0 ≤ a ∧ a < v (M + 4) B then (if x = 0 then v (M + 14) (4 * B + a) else if x = 1 then v (M + 15) (4 * B + a) else if x = 2 then v (M + 16) (4 * B + a) else if x = 3 then v (M + 17) (4 * B + a) else if x = 4 then mK v M a else if x = 5 then (if mK v M a = 0 then -1 else mD v M B a * mU v M B a) else if x = 6 then v (M + 1) 1 % v (M + 15) (4 * B + a) else -1) else -1, v) := by
  apply wM_eq
  by_cases ha : 0 ≤ a ∧ a < v (M + 4) B
  · have hn := h.2.2.2.2.2.1
    have hB := h.B2
    have hs := mS_b h
    have hT := h.2.2.2.2.2.2.2.1
    have hp := (h.2.2.2.2.2.2.1 a ha.1 ha.2).1
    have e3 : 0 ≤ 4 * B + a ∧ 4 * B + a < 8 := by omega
    have e5 : ¬ v (M + 15) (4 * B + a) = 0 := by omega
    have q1 := Int.emod_nonneg (v (M + 1) 1) e5
    have q2 := Int.emod_lt_of_pos (v (M + 1) 1) (show 0 < v (M + 15) (4 * B + a) by omega)
    have e6 : w32 (w64 (v (M + 1) 1 % v (M + 15) (4 * B + a))) = v (M + 1) 1 % v (M + 15) (4 * B + a) := by rw [w64_e (by omega)]; exact w32_e (by omega)
    simp only [mX12_archive, sX12_archive, wE_I, wE_V, wE_F, wE_A, wE_N, wE_1, wE_2, wE_D, wE_B, wE_If, wE_C, wE_CV, wE_SL, wE_SA, wA_0, wA_1, wC_B, wC_E, wC_And, wC_Or, wC_Not, wS_Skip, wS_Brk, wS_Cnt, wS_RetV, wS_Ret, wS_Seq, wS_Set, wS_Inc, wS_Do, wS_Put, wS_PutC, wS_Arr, wS_ArrC, wS_If, wS_Sw, wS_F0, wS_F1, wM_q, lu_ap, aL_ap, ct_0, ct_1, ct_2, ct_3, ct_4, ct_5, headD_1, List.mem_cons, List.not_mem_nil, or_false, false_or, or_true, true_or, true_and, and_true, false_and, and_false, not_true_eq_false, not_false_eq_true, if_true, if_false, nr_20, nr_24, nr_40, nr_41, nr_44, pt_lt, pt_ge, pt_eq, pt_ne, pt_gt, pt_le, pt_E, pt_N, pt_F, ite_10, ite_11, ne_eq, and_self, or_self, decide_true, decide_false, Bool.not_true, Bool.not_false, Bool.false_eq_true, Nat.reduceEqDiff, Nat.reduceAdd, Int.reduceEq, Int.reduceLT, Int.reduceLE, Int.reduceNeg, Int.reduceAdd, Int.reduceSub, Int.reduceMul, reduceCtorEq, iA, iS, iM, iD, iR, iN, lA, lS, lM, lD, lR, h.1.k, h.1.p0, h.1.a1, h.1.n1, h.1.p13, h.1.a14, h.1.n14, h.1.p14, h.1.a15, h.1.n15, h.1.p15, h.1.a16, h.1.n16, h.1.p16, h.1.a17, h.1.n17, h.2.1, wM_of (m_isArchive h), ha, wM_of (m_own h.2.2.1 (show 0 ≤ a ∧ a ≤ 1000 by clear e6; omega)), e3, e5, tmod_n hs.1, e6, wM_of (m_rowsKept h ha), wM_of (m_overAt h ha)]
    by_cases x0 : x = 0
    · simp [x0]
    by_cases x1 : x = 1
    · simp [x1]
    by_cases x2 : x = 2
    · simp [x2]
    by_cases x3 : x = 3
    · simp [x3]
    by_cases x4 : x = 4
    · simp [x4]
    by_cases x5 : x = 5
    · by_cases hk : mK v M a = 0 <;> simp [x5, hk]
    by_cases x6 : x = 6
    · simp [x6]
    simp [x0, x1, x2, x3, x4, x5, x6]
  · simp only [mX12_archive, sX12_archive, wE_I, wE_V, wE_F, wE_A, wE_N, wE_1, wE_2, wE_D, wE_B, wE_If, wE_C, wE_CV, wE_SL, wE_SA, wA_0, wA_1, wC_B, wC_E, wC_And, wC_Or, wC_Not, wS_Skip, wS_Brk, wS_Cnt, wS_RetV, wS_Ret, wS_Seq, wS_Set, wS_Inc, wS_Do, wS_Put, wS_PutC, wS_Arr, wS_ArrC, wS_If, wS_Sw, wS_F0, wS_F1, wM_q, lu_ap, aL_ap, ct_0, ct_1, ct_2, ct_3, ct_4, ct_5, headD_1, List.mem_cons, List.not_mem_nil, or_false, false_or, or_true, true_or, true_and, and_true, false_and, and_false, not_true_eq_false, not_false_eq_true, if_true, if_false, nr_20, nr_24, nr_40, nr_41, nr_44, pt_lt, pt_ge, pt_eq, pt_ne, pt_gt, pt_le, pt_E, pt_N, pt_F, ite_10, ite_11, ne_eq, and_self, or_self, decide_true, decide_false, Bool.not_true, Bool.not_false, Bool.false_eq_true, Nat.reduceEqDiff, Nat.reduceAdd, Int.reduceEq, Int.reduceLT, Int.reduceLE, Int.reduceNeg, Int.reduceAdd, Int.reduceSub, Int.reduceMul, reduceCtorEq, iA, iS, iM, iD, iR, iN, lA, lS, lM, lD, lR, h.1.k, wM_of (m_isArchive h), ha]
theorem m_gap (h : RM S v M B) {a m x : Int} : mX12_gap [M, a, m, x] S v = some (if (0 ≤ a ∧ a < v (M + 4) B) ∧ (0 ≤ m ∧ m < v (M + 3) B) then (if x = 0 then gm (mR v M a m) (mK v M a).toNat else if x = 1 then ga (mR v M a m) (mK v M a).toNat else -1) else -1, v) := by
  apply wM_eq
  by_cases h0 : (0 ≤ a ∧ a < v (M + 4) B) ∧ (0 ≤ m ∧ m < v (M + 3) B)
  · obtain ⟨ha, hm⟩ := h0
    by_cases hx : 0 ≤ x ∧ x ≤ 1
    · have hk := mK_b h ha
      simp only [mX12_gap, sX12_gap, wE_I, wE_V, wE_F, wE_A, wE_N, wE_1, wE_2, wE_D, wE_B, wE_If, wE_C, wE_CV, wE_SL, wE_SA, wA_0, wA_1, wC_B, wC_E, wC_And, wC_Or, wC_Not, wS_Skip, wS_Brk, wS_Cnt, wS_RetV, wS_Ret, wS_Seq, wS_Set, wS_Inc, wS_Do, wS_Put, wS_PutC, wS_Arr, wS_ArrC, wS_If, wS_Sw, wS_F0, wS_F1, wM_q, lu_ap, aL_ap, ct_0, ct_1, ct_2, ct_3, ct_4, ct_5, headD_1, List.mem_cons, List.not_mem_nil, or_false, false_or, or_true, true_or, true_and, and_true, false_and, and_false, not_true_eq_false, not_false_eq_true, if_true, if_false, nr_20, nr_24, nr_40, nr_41, nr_44, pt_lt, pt_ge, pt_eq, pt_ne, pt_gt, pt_le, pt_E, pt_N, pt_F, ite_10, ite_11, ne_eq, and_self, or_self, decide_true, decide_false, Bool.not_true, Bool.not_false, Bool.false_eq_true, Nat.reduceEqDiff, Nat.reduceAdd, Int.reduceEq, Int.reduceLT, Int.reduceLE, Int.reduceNeg, Int.reduceAdd, Int.reduceSub, Int.reduceMul, reduceCtorEq, iA, iS, iM, iD, iR, iN, lA, lS, lM, lD, lR, h.1.k, wM_of (m_isBoth h), wM_of m_isIn, ha, hm, hx]
      refine wS_For (mK v M a).toNat (fun j L w => (L 0 = M ∧ L 1 = a ∧ L 2 = m ∧ L 3 = x ∧ L 4 = gm (mR v M a m) j ∧ L 5 = ga (mR v M a m) j ∧ L 6 = gr (mR v M a m) j ∧ L 7 = j) ∧ v = w) (by omega) ?_ ?_ ?_
      · simp [lu_ap, aL_ap, ct_0, ct_2, gm, ga, gr]
      · rintro j L w hj ⟨⟨m0, m1, m2, m3, m4, m5, m6, m7⟩, rfl⟩
        have hj1 : 0 ≤ (j : Int) ∧ (j : Int) < mK v M a := by omega
        have hc := m_cell h ha hm hj1
        have b1 := gr_b (mR v M a m) j
        have b2 := gr_b (mR v M a m) (j + 1)
        have e1 : w32 (gr (mR v M a m) j + 1) = gr (mR v M a m) j + 1 := by
          generalize gr (mR v M a m) j = g at b1 ⊢
          exact w32_e (by omega)
        have e2 : w32 (w32 ((j : Int) - gr (mR v M a m) (j + 1)) + 1) = j - gr (mR v M a m) (j + 1) + 1 := by
          clear e1
          generalize gr (mR v M a m) (j + 1) = g at b2 ⊢
          rw [w32_e (z := (j : Int) - g) (by omega)]
          exact w32_e (by omega)
        simp only [cX12_gap_1, bX12_gap_1, uX12_gap_1, wE_I, wE_V, wE_F, wE_A, wE_N, wE_1, wE_2, wE_D, wE_B, wE_If, wE_C, wE_CV, wE_SL, wE_SA, wA_0, wA_1, wC_B, wC_E, wC_And, wC_Or, wC_Not, wS_Skip, wS_Brk, wS_Cnt, wS_RetV, wS_Ret, wS_Seq, wS_Set, wS_Inc, wS_Do, wS_Put, wS_PutC, wS_Arr, wS_ArrC, wS_If, wS_Sw, wS_F0, wS_F1, wM_q, lu_ap, aL_ap, ct_0, ct_1, ct_2, ct_3, ct_4, ct_5, headD_1, List.mem_cons, List.not_mem_nil, or_false, false_or, or_true, true_or, true_and, and_true, false_and, and_false, not_true_eq_false, not_false_eq_true, if_true, if_false, nr_20, nr_24, nr_40, nr_41, nr_44, pt_lt, pt_ge, pt_eq, pt_ne, pt_gt, pt_le, pt_E, pt_N, pt_F, ite_10, ite_11, ne_eq, and_self, or_self, decide_true, decide_false, Bool.not_true, Bool.not_false, Bool.false_eq_true, Nat.reduceEqDiff, Nat.reduceAdd, Int.reduceEq, Int.reduceLT, Int.reduceLE, Int.reduceNeg, Int.reduceAdd, Int.reduceSub, Int.reduceMul, reduceCtorEq, iA, iS, iM, iD, iR, iN, lA, lS, lM, lD, lR, h.1.k, h.1.p0, h.1.a1, h.1.n1, m0, m1, m2, m3, m4, m5, m6, m7, wM_of (m_rowsKept h ha), wM_of hc.1, hc.2, hj1, w32_s (show j < 1000 by omega), e1]
        have er : v (M + 1) (167 + 30 * (4 * a + m) + j) = mR v M a m j := rfl
        simp only [er]
        have hg : gr (mR v M a m) (j + 1) = if mR v M a m j = -2147483648 then gr (mR v M a m) j + 1 else 0 := rfl
        by_cases h1 : mR v M a m j = -2147483648
        · rw [if_pos h1] at hg
          rw [hg] at e2
          simp only [h1, if_true, gm, ga, hg, e2]
          clear e1 e2
          by_cases h2 : gm (mR v M a m) j < gr (mR v M a m) j + 1
          · have h3 : ¬ gr (mR v M a m) j + 1 ≤ gm (mR v M a m) j := Int.not_le.mpr h2
            simp [h2, h3]
          · have h3 : gr (mR v M a m) j + 1 ≤ gm (mR v M a m) j := Int.not_lt.mp h2
            simp [h2, h3]
        · rw [if_neg h1] at hg
          rw [hg] at e2
          simp only [h1, if_false, gm, ga, hg, e2]
          clear e1 e2
          by_cases h2 : gm (mR v M a m) j < 0
          · have h3 : ¬ 0 ≤ gm (mR v M a m) j := Int.not_le.mpr h2
            simp [h2, h3]
          · have h3 : 0 ≤ gm (mR v M a m) j := Int.not_lt.mp h2
            simp [h2, h3]
      · rintro L w ⟨⟨m0, m1, m2, m3, m4, m5, m6, m7⟩, rfl⟩
        have hl : ¬ ((mK v M a).toNat : Int) < mK v M a := by omega
        simp only [cX12_gap_1, wE_I, wE_V, wE_F, wE_A, wE_N, wE_1, wE_2, wE_D, wE_B, wE_If, wE_C, wE_CV, wE_SL, wE_SA, wA_0, wA_1, wC_B, wC_E, wC_And, wC_Or, wC_Not, wS_Skip, wS_Brk, wS_Cnt, wS_RetV, wS_Ret, wS_Seq, wS_Set, wS_Inc, wS_Do, wS_Put, wS_PutC, wS_Arr, wS_ArrC, wS_If, wS_Sw, wS_F0, wS_F1, wM_q, lu_ap, aL_ap, ct_0, ct_1, ct_2, ct_3, ct_4, ct_5, headD_1, List.mem_cons, List.not_mem_nil, or_false, false_or, or_true, true_or, true_and, and_true, false_and, and_false, not_true_eq_false, not_false_eq_true, if_true, if_false, nr_20, nr_24, nr_40, nr_41, nr_44, pt_lt, pt_ge, pt_eq, pt_ne, pt_gt, pt_le, pt_E, pt_N, pt_F, ite_10, ite_11, ne_eq, and_self, or_self, decide_true, decide_false, Bool.not_true, Bool.not_false, Bool.false_eq_true, Nat.reduceEqDiff, Nat.reduceAdd, Int.reduceEq, Int.reduceLT, Int.reduceLE, Int.reduceNeg, Int.reduceAdd, Int.reduceSub, Int.reduceMul, reduceCtorEq, iA, iS, iM, iD, iR, iN, lA, lS, lM, lD, lR, h.1.k, m0, m1, m3, m4, m5, m7, wM_of (m_rowsKept h ha), hl]
        by_cases x0 : x = 0
        · simp [x0]
        have x1 : x = 1 := by omega
        simp [x1]
    · have x0 : ¬ x = 0 := by omega
      have x1 : ¬ x = 1 := by omega
      simp only [mX12_gap, sX12_gap, wE_I, wE_V, wE_F, wE_A, wE_N, wE_1, wE_2, wE_D, wE_B, wE_If, wE_C, wE_CV, wE_SL, wE_SA, wA_0, wA_1, wC_B, wC_E, wC_And, wC_Or, wC_Not, wS_Skip, wS_Brk, wS_Cnt, wS_RetV, wS_Ret, wS_Seq, wS_Set, wS_Inc, wS_Do, wS_Put, wS_PutC, wS_Arr, wS_ArrC, wS_If, wS_Sw, wS_F0, wS_F1, wM_q, lu_ap, aL_ap, ct_0, ct_1, ct_2, ct_3, ct_4, ct_5, headD_1, List.mem_cons, List.not_mem_nil, or_false, false_or, or_true, true_or, true_and, and_true, false_and, and_false, not_true_eq_false, not_false_eq_true, if_true, if_false, nr_20, nr_24, nr_40, nr_41, nr_44, pt_lt, pt_ge, pt_eq, pt_ne, pt_gt, pt_le, pt_E, pt_N, pt_F, ite_10, ite_11, ne_eq, and_self, or_self, decide_true, decide_false, Bool.not_true, Bool.not_false, Bool.false_eq_true, Nat.reduceEqDiff, Nat.reduceAdd, Int.reduceEq, Int.reduceLT, Int.reduceLE, Int.reduceNeg, Int.reduceAdd, Int.reduceSub, Int.reduceMul, reduceCtorEq, iA, iS, iM, iD, iR, iN, lA, lS, lM, lD, lR, h.1.k, wM_of (m_isBoth h), wM_of m_isIn, ha, hm, hx, x0, x1]
  · simp only [mX12_gap, sX12_gap, wE_I, wE_V, wE_F, wE_A, wE_N, wE_1, wE_2, wE_D, wE_B, wE_If, wE_C, wE_CV, wE_SL, wE_SA, wA_0, wA_1, wC_B, wC_E, wC_And, wC_Or, wC_Not, wS_Skip, wS_Brk, wS_Cnt, wS_RetV, wS_Ret, wS_Seq, wS_Set, wS_Inc, wS_Do, wS_Put, wS_PutC, wS_Arr, wS_ArrC, wS_If, wS_Sw, wS_F0, wS_F1, wM_q, lu_ap, aL_ap, ct_0, ct_1, ct_2, ct_3, ct_4, ct_5, headD_1, List.mem_cons, List.not_mem_nil, or_false, false_or, or_true, true_or, true_and, and_true, false_and, and_false, not_true_eq_false, not_false_eq_true, if_true, if_false, nr_20, nr_24, nr_40, nr_41, nr_44, pt_lt, pt_ge, pt_eq, pt_ne, pt_gt, pt_le, pt_E, pt_N, pt_F, ite_10, ite_11, ne_eq, and_self, or_self, decide_true, decide_false, Bool.not_true, Bool.not_false, Bool.false_eq_true, Nat.reduceEqDiff, Nat.reduceAdd, Int.reduceEq, Int.reduceLT, Int.reduceLE, Int.reduceNeg, Int.reduceAdd, Int.reduceSub, Int.reduceMul, reduceCtorEq, iA, iS, iM, iD, iR, iN, lA, lS, lM, lD, lR, h.1.k, wM_of (m_isBoth h), h0]
theorem m_rowAt (h : RM S v M B) {a t : Int} : mX12_rowAt [M, a, t] S v = some (if 0 ≤ a ∧ a < v (M + 4) B then fP (ra (mU v M B a) (mD v M B a) t) (mK v M a).toNat 0 else -1, v) := by
  apply wM_eq
  by_cases ha : 0 ≤ a ∧ a < v (M + 4) B
  · have hk := mK_b h ha
    have hu := mU_b h ha
    simp only [mX12_rowAt, sX12_rowAt, wE_I, wE_V, wE_F, wE_A, wE_N, wE_1, wE_2, wE_D, wE_B, wE_If, wE_C, wE_CV, wE_SL, wE_SA, wA_0, wA_1, wC_B, wC_E, wC_And, wC_Or, wC_Not, wS_Skip, wS_Brk, wS_Cnt, wS_RetV, wS_Ret, wS_Seq, wS_Set, wS_Inc, wS_Do, wS_Put, wS_PutC, wS_Arr, wS_ArrC, wS_If, wS_Sw, wS_F0, wS_F1, wM_q, lu_ap, aL_ap, ct_0, ct_1, ct_2, ct_3, ct_4, ct_5, headD_1, List.mem_cons, List.not_mem_nil, or_false, false_or, or_true, true_or, true_and, and_true, false_and, and_false, not_true_eq_false, not_false_eq_true, if_true, if_false, nr_20, nr_24, nr_40, nr_41, nr_44, pt_lt, pt_ge, pt_eq, pt_ne, pt_gt, pt_le, pt_E, pt_N, pt_F, ite_10, ite_11, ne_eq, and_self, or_self, decide_true, decide_false, Bool.not_true, Bool.not_false, Bool.false_eq_true, Nat.reduceEqDiff, Nat.reduceAdd, Int.reduceEq, Int.reduceLT, Int.reduceLE, Int.reduceNeg, Int.reduceAdd, Int.reduceSub, Int.reduceMul, reduceCtorEq, iA, iS, iM, iD, iR, iN, lA, lS, lM, lD, lR, h.1.k, wM_of (m_isArchive h), ha]
    refine wS_For (mK v M a).toNat (fun j L w => (L 0 = M ∧ L 1 = a ∧ L 2 = t ∧ L 3 = j) ∧ fP (ra (mU v M B a) (mD v M B a) t) (mK v M a).toNat 0 = fP (ra (mU v M B a) (mD v M B a) t) ((mK v M a).toNat - j) j ∧ v = w) (by omega) ?_ ?_ ?_
    · simp [lu_ap, aL_ap, ct_0, ct_2]
    · rintro j L w hj ⟨⟨m0, m1, m2, m3⟩, hf, rfl⟩
      have hj1 : 0 ≤ (j : Int) ∧ (j : Int) < mK v M a := by omega
      have hb := m_beginOf h ha hj1
      have e : (mK v M a).toNat - j = ((mK v M a).toNat - (j + 1)) + 1 := by omega
      have e1 : w32 ((mD v M B a - (j : Int)) * mU v M B a - mU v M B a + 1) = (mD v M B a - (j : Int)) * mU v M B a - mU v M B a + 1 := w32_e (by omega)
      have e2 : w32 ((mD v M B a - (j : Int)) * mU v M B a - mU v M B a + mU v M B a) = (mD v M B a - (j : Int)) * mU v M B a := by clear e1; rw [w32_e (by omega)]; omega
      rw [e] at hf
      simp only [cX12_rowAt_1, bX12_rowAt_1, uX12_rowAt_1, wE_I, wE_V, wE_F, wE_A, wE_N, wE_1, wE_2, wE_D, wE_B, wE_If, wE_C, wE_CV, wE_SL, wE_SA, wA_0, wA_1, wC_B, wC_E, wC_And, wC_Or, wC_Not, wS_Skip, wS_Brk, wS_Cnt, wS_RetV, wS_Ret, wS_Seq, wS_Set, wS_Inc, wS_Do, wS_Put, wS_PutC, wS_Arr, wS_ArrC, wS_If, wS_Sw, wS_F0, wS_F1, wM_q, lu_ap, aL_ap, ct_0, ct_1, ct_2, ct_3, ct_4, ct_5, headD_1, List.mem_cons, List.not_mem_nil, or_false, false_or, or_true, true_or, true_and, and_true, false_and, and_false, not_true_eq_false, not_false_eq_true, if_true, if_false, nr_20, nr_24, nr_40, nr_41, nr_44, pt_lt, pt_ge, pt_eq, pt_ne, pt_gt, pt_le, pt_E, pt_N, pt_F, ite_10, ite_11, ne_eq, and_self, or_self, decide_true, decide_false, Bool.not_true, Bool.not_false, Bool.false_eq_true, Nat.reduceEqDiff, Nat.reduceAdd, Int.reduceEq, Int.reduceLT, Int.reduceLE, Int.reduceNeg, Int.reduceAdd, Int.reduceSub, Int.reduceMul, reduceCtorEq, iA, iS, iM, iD, iR, iN, lA, lS, lM, lD, lR, h.1.k, m0, m1, m2, m3, wM_of (m_rowsKept h ha), wM_of hb.1, wM_of (m_unitsOf h ha), hj1, e1, e2, wM_of m_isIn, w32_s (show j < 1000 by clear e1 e2; omega)]
      clear e1 e2
      rw [fP_s] at hf
      by_cases h1 : (mD v M B a - j) * mU v M B a - mU v M B a + 1 ≤ t ∧ t ≤ (mD v M B a - j) * mU v M B a
      · have hr : ra (mU v M B a) (mD v M B a) t j = true := by simp [ra]; omega
        simp only [hr, if_true] at hf
        simp [h1, hf]
      · have hr : ¬ ra (mU v M B a) (mD v M B a) t j = true := by simp [ra]; omega
        simp only [hr] at hf
        simp only [h1, if_false]
        simpa using hf
    · rintro L w ⟨⟨m0, m1, m2, m3⟩, hf, rfl⟩
      have hl : ¬ ((mK v M a).toNat : Int) < mK v M a := by omega
      simp only [cX12_rowAt_1, wE_I, wE_V, wE_F, wE_A, wE_N, wE_1, wE_2, wE_D, wE_B, wE_If, wE_C, wE_CV, wE_SL, wE_SA, wA_0, wA_1, wC_B, wC_E, wC_And, wC_Or, wC_Not, wS_Skip, wS_Brk, wS_Cnt, wS_RetV, wS_Ret, wS_Seq, wS_Set, wS_Inc, wS_Do, wS_Put, wS_PutC, wS_Arr, wS_ArrC, wS_If, wS_Sw, wS_F0, wS_F1, wM_q, lu_ap, aL_ap, ct_0, ct_1, ct_2, ct_3, ct_4, ct_5, headD_1, List.mem_cons, List.not_mem_nil, or_false, false_or, or_true, true_or, true_and, and_true, false_and, and_false, not_true_eq_false, not_false_eq_true, if_true, if_false, nr_20, nr_24, nr_40, nr_41, nr_44, pt_lt, pt_ge, pt_eq, pt_ne, pt_gt, pt_le, pt_E, pt_N, pt_F, ite_10, ite_11, ne_eq, and_self, or_self, decide_true, decide_false, Bool.not_true, Bool.not_false, Bool.false_eq_true, Nat.reduceEqDiff, Nat.reduceAdd, Int.reduceEq, Int.reduceLT, Int.reduceLE, Int.reduceNeg, Int.reduceAdd, Int.reduceSub, Int.reduceMul, reduceCtorEq, iA, iS, iM, iD, iR, iN, lA, lS, lM, lD, lR, h.1.k, m0, m1, m3, wM_of (m_rowsKept h ha), hl]
      rw [Nat.sub_self] at hf
      exact hf.symm
  · simp only [mX12_rowAt, sX12_rowAt, wE_I, wE_V, wE_F, wE_A, wE_N, wE_1, wE_2, wE_D, wE_B, wE_If, wE_C, wE_CV, wE_SL, wE_SA, wA_0, wA_1, wC_B, wC_E, wC_And, wC_Or, wC_Not, wS_Skip, wS_Brk, wS_Cnt, wS_RetV, wS_Ret, wS_Seq, wS_Set, wS_Inc, wS_Do, wS_Put, wS_PutC, wS_Arr, wS_ArrC, wS_If, wS_Sw, wS_F0, wS_F1, wM_q, lu_ap, aL_ap, ct_0, ct_1, ct_2, ct_3, ct_4, ct_5, headD_1, List.mem_cons, List.not_mem_nil, or_false, false_or, or_true, true_or, true_and, and_true, false_and, and_false, not_true_eq_false, not_false_eq_true, if_true, if_false, nr_20, nr_24, nr_40, nr_41, nr_44, pt_lt, pt_ge, pt_eq, pt_ne, pt_gt, pt_le, pt_E, pt_N, pt_F, ite_10, ite_11, ne_eq, and_self, or_self, decide_true, decide_false, Bool.not_true, Bool.not_false, Bool.false_eq_true, Nat.reduceEqDiff, Nat.reduceAdd, Int.reduceEq, Int.reduceLT, Int.reduceLE, Int.reduceNeg, Int.reduceAdd, Int.reduceSub, Int.reduceMul, reduceCtorEq, iA, iS, iM, iD, iR, iN, lA, lS, lM, lD, lR, h.1.k, wM_of (m_isArchive h), ha]
end MR
