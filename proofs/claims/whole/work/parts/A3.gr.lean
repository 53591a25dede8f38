/-! A READING: the reference's -/
noncomputable def rtF (v : QV) (M B later x m : Int) (f : Int → Int) : Int := @ite Int (rK (f (3 + 12 * m + 0)) (f (3 + 12 * m + 1)) (f (3 + 12 * m + 2)) (v (M + 8) (4 * B + m)) (f (3 + 12 * m + 3)) (v (M + 9) (4 * B + m)) (v (M + 10) (4 * B + m)) later x) (Classical.propDecidable _) (rI_ (v (M + 8) (4 * B + m)) (f (3 + 12 * m + 3)) (v (M + 9) (4 * B + m)) (v (M + 10) (4 * B + m)) later x) (-2147483648)
noncomputable def hrF (v : QV) (M B later : Int) (nm : Int → Int) (m : Int) (f : Int → Int) : Int → Int := if v (M + 8) (4 * B + m) = 2 then fu (fu f (3 + 12 * m + 4) (rtF v M B later (nm m) m f)) (3 + 12 * m + 3) (@ite Int (isN (v (M + 8) (4 * B + m)) (v (M + 10) (4 * B + m)) (nm m)) (Classical.propDecidable _) (nm m) (-1)) else fu f (3 + 12 * m + 4) (rtF v M B later (nm m) m f)
noncomputable def heF (v : QV) (M B later : Int) (nm : Int → Int) (f : Int → Int) : Int → Int := itF (fun m => hrF v M B later nm m) (v (M + 3) B).toNat (fu f 2 (f 2 + 1))
theorem hrF_fr {v : QV} {M B later m k : Int} {nm f : Int → Int} (h : k ≠ 3 + 12 * m + 3 ∧ k ≠ 3 + 12 * m + 4) : hrF v M B later nm m f k = f k := by
  unfold hrF
  split
  · rw [fu_ne h.1, fu_ne h.2]
  · rw [fu_ne h.2]
theorem hrI_fr {v : QV} {M B later k : Int} {nm f : Int → Int} : ∀ n : Nat, (∀ m, 0 ≤ m → m < (n : Int) → k ≠ 3 + 12 * m + 3 ∧ k ≠ 3 + 12 * m + 4) → itF (fun m => hrF v M B later nm m) n f k = f k
  | 0, _ => rfl
  | n + 1, h => by
    show hrF v M B later nm n _ k = _
    rw [hrF_fr (h n (by omega) (by omega))]
    exact hrI_fr n (fun m m0 m1 => h m m0 (by omega))
/-- what a measure's reading needs -/
def FIh (v : QV) (M B later m : Int) (f : Int → Int) : Prop := rOk (f (3 + 12 * m + 1)) (f (3 + 12 * m + 2)) (v (M + 8) (4 * B + m)) (f (3 + 12 * m + 3)) (v (M + 9) (4 * B + m)) (v (M + 10) (4 * B + m)) later
section GR
variable {S : QS} {v w : QV} {b M P B s : Int} {f F : Int → Int}
theorem RM_vf (h : RM S (vf v (M + 1) f) M B) (hL : LMo S v M) (h0 : F 0 = f 0) (h1 : F 1 = f 1) (h51 : ∀ a, 0 ≤ a → a < 4 → F (51 + a) = f (51 + a)) : RM S (vf v (M + 1) F) M B := by
  have ne : ∀ g k, k ≠ M + 1 → ∀ i, vf v (M + 1) g k i = v k i := fun g k hk i => vf_ne hk
  unfold RM at h ⊢
  simp only [vf_is, ne _ M (by omega), ne _ (M + 2) (by omega), ne _ (M + 3) (by omega), ne _ (M + 4) (by omega), ne _ (M + 15) (by omega)] at h ⊢
  obtain ⟨q1, q2, q3, q4, q5, q6, q7, q8, q9⟩ := h
  refine ⟨hL.keep (Kp.vf hL), q2, q3, q4, q5, q6, fun a a0 a1 => ?_, by rw [h0]; exact q8, by rw [h0, h1]; exact q9⟩
  rw [h51 a a0 (by omega), h1]
  exact q7 a a0 a1
theorem f_rateOf (h : RM S (vf v (M + 1) f) M B) {m x later : Int} (hm : 0 ≤ m ∧ m < 4) (hr : FIh v M B later m f) : mX12_rateOf [M, m, x, later] S (vf v (M + 1) f) = some (rtF v M B later x m f, vf v (M + 1) f) := by
  have ne : ∀ k, k ≠ M + 1 → ∀ i, vf v (M + 1) f k i = v k i := fun k hk i => vf_ne hk
  have e8 := ne (M + 8) (by omega)
  have e9 := ne (M + 9) (by omega)
  have e10 := ne (M + 10) (by omega)
  have e := @m_rateOf S (vf v (M + 1) f) M B h m x later hm (by rw [vf_is, vf_is, vf_is, e8, e9, e10]; exact hr) (Classical.propDecidable _)
  rw [e]
  congr 2
  unfold rtF
  by_cases c : rK (f (3 + 12 * m + 0)) (f (3 + 12 * m + 1)) (f (3 + 12 * m + 2)) (v (M + 8) (4 * B + m)) (f (3 + 12 * m + 3)) (v (M + 9) (4 * B + m)) (v (M + 10) (4 * B + m)) later x
  · rw [if_pos c, if_pos (by rw [vf_is, vf_is, vf_is, vf_is, e8, e9, e10]; exact c), vf_is, e8, e9, e10]
  · rw [if_neg c, if_neg (by rw [vf_is, vf_is, vf_is, vf_is, e8, e9, e10]; exact c)]
theorem f_hear (h : RM S (vf v (M + 1) f) M B) (hL : LMo S v M) {m later : Int} {nm : Int → Int} (hm : 0 ≤ m ∧ m < 4) (hr : FIh v M B later m f) (hn : ∀ k, v (M + 32) k = nm k) {L : QL} (m0 : L 0 = M) (m1 : L 1 = later) (m2 : L 2 = m) : wS bX12_goRead_1 L S (vf v (M + 1) f) (fun k _ L' w => k = 0 ∧ L' = L ∧ w = vf v (M + 1) (hrF v M B later nm m f)) := by
  have hB2 := h.2.2.1
  have eB : ∀ g, vf v (M + 1) g M 28 = B := fun g => by have := h.2.1; rw [vf_ne (by omega)] at this ⊢; exact this
  have hw := fun g => hL.keep (Kp.vf hL (f := g))
  have aM := fun g z (q : 0 ≤ z ∧ z < 12) => m_atMeasure (S := S) (v := vf v (M + 1) g) hm q
  have qM : ∀ z, 0 ≤ z ∧ z < 12 → 0 ≤ 3 + 12 * m + z ∧ 3 + 12 * m + z < 1095 := fun z q => by omega
  have r4 : 0 ≤ (4 : Int) ∧ (4 : Int) < 12 := by decide
  have r3 : 0 ≤ (3 : Int) ∧ (3 : Int) < 12 := by decide
  have hown := fun g => m_own (S := S) (v := vf v (M + 1) g) hB2 (show 0 ≤ m ∧ m ≤ 1000 by omega)
  have o1 : 0 ≤ 4 * B + m ∧ 4 * B + m < 8 := by omega
  have ne : ∀ g k, k ≠ M + 1 → ∀ i, vf v (M + 1) g k i = v k i := fun g k hk i => vf_ne hk
  have e32 : ∀ g, vf v (M + 1) g (M + 32) m = nm m := fun g => by rw [ne _ _ (by omega)]; exact hn m
  have e8 : ∀ g, vf v (M + 1) g (M + 8) (4 * B + m) = v (M + 8) (4 * B + m) := fun g => ne _ _ (by omega) _
  have e10 : ∀ g, vf v (M + 1) g (M + 10) (4 * B + m) = v (M + 10) (4 * B + m) := fun g => ne _ _ (by omega) _
  have hra := f_rateOf (x := nm m) h hm hr
  have hRM2 : RM S (vf v (M + 1) (fu f (3 + 12 * m + 4) (rtF v M B later (nm m) m f))) M B := RM_vf h hL (fu_ne (by omega)) (fu_ne (by omega)) (fun a a0 a1 => fu_ne (by omega))
  have hin := @m_isNumber S (vf v (M + 1) (fu f (3 + 12 * m + 4) (rtF v M B later (nm m) m f))) M B hRM2 m (nm m) hm (by rw [e8, e10]; intro q; have := hr.2.2.2.1 q; omega) (Classical.propDecidable _)
  unfold bX12_goRead_1
  refine ws_step (L' := L) (w := vf v (M + 1) (fu f (3 + 12 * m + 4) (rtF v M B later (nm m) m f))) (by simp only [wE_I, wE_V, wE_F, wE_A, wE_N, wE_1, wE_2, wE_D, wE_B, wE_If, wE_C, wE_CV, wE_SL, wE_SA, wA_0, wA_1, wC_B, wC_E, wC_And, wC_Or, wC_Not, wS_Skip, wS_Brk, wS_Cnt, wS_RetV, wS_Ret, wS_Seq, wS_Set, wS_Inc, wS_Do, wS_Put, wS_PutC, wS_Arr, wS_ArrC, wS_If, wS_Sw, wS_F0, wS_F1, wM_q, lu_ap, aL_ap, ct_0, ct_1, ct_2, ct_3, ct_4, ct_5, headD_1, List.mem_cons, List.not_mem_nil, or_false, false_or, or_true, true_or, true_and, and_true, false_and, and_false, not_true_eq_false, not_false_eq_true, if_true, if_false, nr_20, nr_24, nr_40, nr_41, nr_44, pt_lt, pt_ge, pt_eq, pt_ne, pt_gt, pt_le, pt_E, pt_N, pt_F, ite_10, ite_11, ne_eq, and_self, or_self, decide_true, decide_false, Bool.not_true, Bool.not_false, Bool.false_eq_true, Nat.reduceEqDiff, Nat.reduceAdd, Int.reduceEq, Int.reduceLT, Int.reduceLE, Int.reduceNeg, Int.reduceAdd, Int.reduceSub, Int.reduceMul, reduceCtorEq, iA, iS, iM, iD, iR, iN, lA, lS, lM, lD, lR, hL.k, (hw _).p0, hL.a1, hL.n1, (hw _).p46, hL.a32, hL.n32, hm, vf_is, vf_vu, m0, m1, m2, e32, wM_of (aM _ _ r4), qM _ r4, wM_of hra]) ?_
  unfold hrF
  by_cases c : v (M + 8) (4 * B + m) = 2
  · rw [if_pos c]
    by_cases ci : isN (v (M + 8) (4 * B + m)) (v (M + 10) (4 * B + m)) (nm m)
    · rw [if_pos ci]
      rw [if_pos (by rw [e8, e10]; exact ci)] at hin
      simp only [wE_I, wE_V, wE_F, wE_A, wE_N, wE_1, wE_2, wE_D, wE_B, wE_If, wE_C, wE_CV, wE_SL, wE_SA, wA_0, wA_1, wC_B, wC_E, wC_And, wC_Or, wC_Not, wS_Skip, wS_Brk, wS_Cnt, wS_RetV, wS_Ret, wS_Seq, wS_Set, wS_Inc, wS_Do, wS_Put, wS_PutC, wS_Arr, wS_ArrC, wS_If, wS_Sw, wS_F0, wS_F1, wM_q, lu_ap, aL_ap, ct_0, ct_1, ct_2, ct_3, ct_4, ct_5, headD_1, List.mem_cons, List.not_mem_nil, or_false, false_or, or_true, true_or, true_and, and_true, false_and, and_false, not_true_eq_false, not_false_eq_true, if_true, if_false, nr_20, nr_24, nr_40, nr_41, nr_44, pt_lt, pt_ge, pt_eq, pt_ne, pt_gt, pt_le, pt_E, pt_N, pt_F, ite_10, ite_11, ne_eq, and_self, or_self, decide_true, decide_false, Bool.not_true, Bool.not_false, Bool.false_eq_true, Nat.reduceEqDiff, Nat.reduceAdd, Int.reduceEq, Int.reduceLT, Int.reduceLE, Int.reduceNeg, Int.reduceAdd, Int.reduceSub, Int.reduceMul, reduceCtorEq, iA, iS, iM, iD, iR, iN, lA, lS, lM, lD, lR, hL.k, (hw _).p0, hL.a1, hL.n1, (hw _).p7, hL.a8, hL.n8, (hw _).p46, hL.a32, hL.n32, hm, vf_is, vf_vu, m0, m1, m2, eB, e32, e8, o1, c, wM_of (hown _), wM_of (aM _ _ r3), qM _ r3, wM_of hin]
    · rw [if_neg ci]
      rw [if_neg (by rw [e8, e10]; exact ci)] at hin
      simp only [wE_I, wE_V, wE_F, wE_A, wE_N, wE_1, wE_2, wE_D, wE_B, wE_If, wE_C, wE_CV, wE_SL, wE_SA, wA_0, wA_1, wC_B, wC_E, wC_And, wC_Or, wC_Not, wS_Skip, wS_Brk, wS_Cnt, wS_RetV, wS_Ret, wS_Seq, wS_Set, wS_Inc, wS_Do, wS_Put, wS_PutC, wS_Arr, wS_ArrC, wS_If, wS_Sw, wS_F0, wS_F1, wM_q, lu_ap, aL_ap, ct_0, ct_1, ct_2, ct_3, ct_4, ct_5, headD_1, List.mem_cons, List.not_mem_nil, or_false, false_or, or_true, true_or, true_and, and_true, false_and, and_false, not_true_eq_false, not_false_eq_true, if_true, if_false, nr_20, nr_24, nr_40, nr_41, nr_44, pt_lt, pt_ge, pt_eq, pt_ne, pt_gt, pt_le, pt_E, pt_N, pt_F, ite_10, ite_11, ne_eq, and_self, or_self, decide_true, decide_false, Bool.not_true, Bool.not_false, Bool.false_eq_true, Nat.reduceEqDiff, Nat.reduceAdd, Int.reduceEq, Int.reduceLT, Int.reduceLE, Int.reduceNeg, Int.reduceAdd, Int.reduceSub, Int.reduceMul, reduceCtorEq, iA, iS, iM, iD, iR, iN, lA, lS, lM, lD, lR, hL.k, (hw _).p0, hL.a1, hL.n1, (hw _).p7, hL.a8, hL.n8, (hw _).p46, hL.a32, hL.n32, hm, vf_is, vf_vu, m0, m1, m2, eB, e32, e8, o1, c, wM_of (hown _), wM_of (aM _ _ r3), qM _ r3, wM_of hin]
  · rw [if_neg c]
    simp only [wE_I, wE_V, wE_F, wE_A, wE_N, wE_1, wE_2, wE_D, wE_B, wE_If, wE_C, wE_CV, wE_SL, wE_SA, wA_0, wA_1, wC_B, wC_E, wC_And, wC_Or, wC_Not, wS_Skip, wS_Brk, wS_Cnt, wS_RetV, wS_Ret, wS_Seq, wS_Set, wS_Inc, wS_Do, wS_Put, wS_PutC, wS_Arr, wS_ArrC, wS_If, wS_Sw, wS_F0, wS_F1, wM_q, lu_ap, aL_ap, ct_0, ct_1, ct_2, ct_3, ct_4, ct_5, headD_1, List.mem_cons, List.not_mem_nil, or_false, false_or, or_true, true_or, true_and, and_true, false_and, and_false, not_true_eq_false, not_false_eq_true, if_true, if_false, nr_20, nr_24, nr_40, nr_41, nr_44, pt_lt, pt_ge, pt_eq, pt_ne, pt_gt, pt_le, pt_E, pt_N, pt_F, ite_10, ite_11, ne_eq, and_self, or_self, decide_true, decide_false, Bool.not_true, Bool.not_false, Bool.false_eq_true, Nat.reduceEqDiff, Nat.reduceAdd, Int.reduceEq, Int.reduceLT, Int.reduceLE, Int.reduceNeg, Int.reduceAdd, Int.reduceSub, Int.reduceMul, reduceCtorEq, iA, iS, iM, iD, iR, iN, lA, lS, lM, lD, lR, hL.k, (hw _).p7, hL.a8, hL.n8, m0, m1, m2, eB, e8, o1, c, wM_of (hown _)]
end GR
