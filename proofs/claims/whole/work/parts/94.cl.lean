/-! A STEP CLOSED: the machine; and the ticks -/
section CX
variable {S : QS} {v w : QV} {b M P B s : Int} {f : Int → Int}
theorem f_closeStep (h : LMo S v M) (hB : v M 28 = B) (hB2 : B = 0 ∨ B = 1) (hPB : PB v M B) (hF : FI v M B f (v (M + 2) B)) (h1 : f 1 < 200000) : mX12_closeStep [M] S (vf v (M + 1) f) = some (0, vf v (M + 1) (closeF v M B f)) := by
  obtain ⟨pst, pn, pna, pf, pa⟩ := id hPB
  have hn4 : v (M + 3) B ≤ 4 := by omega
  have hw := fun g => h.keep (Kp.vf h (f := g))
  have hmany := fun g => f_many (S := S) (f := g) h hB hB2
  have har := fun g => f_archivesNow (S := S) (f := g) h hB hB2
  have all := fun j hj => FIj.all hPB hF j hj
  have eB : ∀ g, vf v (M + 1) g M 28 = B := fun g => by rw [vf_ne (by omega)]; exact hB
  rw [closeF_eq]
  apply wM_eq
  simp only [mX12_closeStep, sX12_closeStep, wM_q]
  generalize hL : aL 0 [2] [M] = L
  have m0 : L 0 = M := by rw [← hL]; simp [aL_ap, ct_0, ct_1, ct_2]
  clear hL
  rw [wS_Seq]
  refine wS_mono (Q' := fun k _ L' w => k = 0 ∧ L' 0 = M ∧ w = vf v (M + 1) (itF (fun m => measF v M B m) (v (M + 3) B).toNat f)) ?_ ?_
  · simp only [wE_I, wE_V, wE_F, wE_A, wE_N, wE_1, wE_2, wE_D, wE_B, wE_If, wE_C, wE_CV, wE_SL, wE_SA, wA_0, wA_1, wC_B, wC_E, wC_And, wC_Or, wC_Not, wS_Skip, wS_Brk, wS_Cnt, wS_RetV, wS_Ret, wS_Seq, wS_Set, wS_Inc, wS_Do, wS_Put, wS_PutC, wS_Arr, wS_ArrC, wS_If, wS_Sw, wS_F0, wS_F1, wM_q, lu_ap, aL_ap, ct_0, ct_1, ct_2, ct_3, ct_4, ct_5, headD_1, List.mem_cons, List.not_mem_nil, or_false, false_or, or_true, true_or, true_and, and_true, false_and, and_false, not_true_eq_false, not_false_eq_true, if_true, if_false, nr_20, nr_24, nr_40, nr_41, nr_44, pt_lt, pt_ge, pt_eq, pt_ne, pt_gt, pt_le, pt_E, pt_N, pt_F, ite_10, ite_11, ne_eq, and_self, or_self, decide_true, decide_false, Bool.not_true, Bool.not_false, Bool.false_eq_true, Nat.reduceEqDiff, Nat.reduceAdd, Int.reduceEq, Int.reduceLT, Int.reduceLE, Int.reduceNeg, Int.reduceAdd, Int.reduceSub, Int.reduceMul, reduceCtorEq, iA, iS, iM, iD, iR, iN, lA, lS, lM, lD, lR]
    refine wS_For (v (M + 3) B).toNat (fun j L' w => (L' 0 = M ∧ L' 1 = j) ∧ w = vf v (M + 1) (itF (fun m => measF v M B m) j f)) (by omega) ?_ ?_ ?_
    · exact ⟨⟨by simp [lu_ap, m0], by simp [lu_ap]⟩, rfl⟩
    · rintro j L' w hj ⟨⟨l0, l1⟩, rfl⟩
      have hjn : (j : Int) < v (M + 3) B := by omega
      obtain ⟨⟨q1, q2, q3, q4⟩, q5⟩ := all j (by omega)
      have cm := f_closeMeas h hB hB2 hPB (show 0 ≤ (j : Int) ∧ (j : Int) < v (M + 3) B by omega) (show 0 ≤ itF (fun m => measF v M B m) j f 1 ∧ itF (fun m => measF v M B m) j f 1 ≤ 1000000 by omega) (q2 j (by omega) hjn) (q4 j (by omega) hjn) l0 l1
      have e1 : w32 ((j : Int) + 1) = j + 1 := w32_e (by omega)
      simp only [cX12_closeStep_1, wE_I, wE_V, wE_F, wE_A, wE_N, wE_1, wE_2, wE_D, wE_B, wE_If, wE_C, wE_CV, wE_SL, wE_SA, wA_0, wA_1, wC_B, wC_E, wC_And, wC_Or, wC_Not, wS_Skip, wS_Brk, wS_Cnt, wS_RetV, wS_Ret, wS_Seq, wS_Set, wS_Inc, wS_Do, wS_Put, wS_PutC, wS_Arr, wS_ArrC, wS_If, wS_Sw, wS_F0, wS_F1, wM_q, lu_ap, aL_ap, ct_0, ct_1, ct_2, ct_3, ct_4, ct_5, headD_1, List.mem_cons, List.not_mem_nil, or_false, false_or, or_true, true_or, true_and, and_true, false_and, and_false, not_true_eq_false, not_false_eq_true, if_true, if_false, nr_20, nr_24, nr_40, nr_41, nr_44, pt_lt, pt_ge, pt_eq, pt_ne, pt_gt, pt_le, pt_E, pt_N, pt_F, ite_10, ite_11, ne_eq, and_self, or_self, decide_true, decide_false, Bool.not_true, Bool.not_false, Bool.false_eq_true, Nat.reduceEqDiff, Nat.reduceAdd, Int.reduceEq, Int.reduceLT, Int.reduceLE, Int.reduceNeg, Int.reduceAdd, Int.reduceSub, Int.reduceMul, reduceCtorEq, iA, iS, iM, iD, iR, iN, lA, lS, lM, lD, lR, h.k, l0, l1, wM_of (hmany _), hjn]
      refine wS_mono cm ?_
      rintro k z L3 w3 ⟨rfl, ⟨n0, n1⟩, rfl⟩
      simp only [uX12_closeStep_1, wE_I, wE_V, wE_F, wE_A, wE_N, wE_1, wE_2, wE_D, wE_B, wE_If, wE_C, wE_CV, wE_SL, wE_SA, wA_0, wA_1, wC_B, wC_E, wC_And, wC_Or, wC_Not, wS_Skip, wS_Brk, wS_Cnt, wS_RetV, wS_Ret, wS_Seq, wS_Set, wS_Inc, wS_Do, wS_Put, wS_PutC, wS_Arr, wS_ArrC, wS_If, wS_Sw, wS_F0, wS_F1, wM_q, lu_ap, aL_ap, ct_0, ct_1, ct_2, ct_3, ct_4, ct_5, headD_1, List.mem_cons, List.not_mem_nil, or_false, false_or, or_true, true_or, true_and, and_true, false_and, and_false, not_true_eq_false, not_false_eq_true, if_true, if_false, nr_20, nr_24, nr_40, nr_41, nr_44, pt_lt, pt_ge, pt_eq, pt_ne, pt_gt, pt_le, pt_E, pt_N, pt_F, ite_10, ite_11, ne_eq, and_self, or_self, decide_true, decide_false, Bool.not_true, Bool.not_false, Bool.false_eq_true, Nat.reduceEqDiff, Nat.reduceAdd, Int.reduceEq, Int.reduceLT, Int.reduceLE, Int.reduceNeg, Int.reduceAdd, Int.reduceSub, Int.reduceMul, reduceCtorEq, iA, iS, iM, iD, iR, iN, lA, lS, lM, lD, lR, n0, n1, e1]
      exact ⟨rfl, rfl⟩
    · rintro L' w ⟨⟨l0, l1⟩, rfl⟩
      have l2 : L' 1 = v (M + 3) B := by omega
      simp only [cX12_closeStep_1, wE_I, wE_V, wE_F, wE_A, wE_N, wE_1, wE_2, wE_D, wE_B, wE_If, wE_C, wE_CV, wE_SL, wE_SA, wA_0, wA_1, wC_B, wC_E, wC_And, wC_Or, wC_Not, wS_Skip, wS_Brk, wS_Cnt, wS_RetV, wS_Ret, wS_Seq, wS_Set, wS_Inc, wS_Do, wS_Put, wS_PutC, wS_Arr, wS_ArrC, wS_If, wS_Sw, wS_F0, wS_F1, wM_q, lu_ap, aL_ap, ct_0, ct_1, ct_2, ct_3, ct_4, ct_5, headD_1, List.mem_cons, List.not_mem_nil, or_false, false_or, or_true, true_or, true_and, and_true, false_and, and_false, not_true_eq_false, not_false_eq_true, if_true, if_false, nr_20, nr_24, nr_40, nr_41, nr_44, pt_lt, pt_ge, pt_eq, pt_ne, pt_gt, pt_le, pt_E, pt_N, pt_F, ite_10, ite_11, ne_eq, and_self, or_self, decide_true, decide_false, Bool.not_true, Bool.not_false, Bool.false_eq_true, Nat.reduceEqDiff, Nat.reduceAdd, Int.reduceEq, Int.reduceLT, Int.reduceLE, Int.reduceNeg, Int.reduceAdd, Int.reduceSub, Int.reduceMul, reduceCtorEq, iA, iS, iM, iD, iR, iN, lA, lS, lM, lD, lR, h.k, l0, l2, wM_of (hmany _)]
      exact Int.lt_irrefl _
  · rintro k z L' w ⟨rfl, l0, rfl⟩
    rw [if_pos rfl]
    obtain ⟨⟨q1, q2, q3, q4⟩, q5⟩ := all (v (M + 3) B).toNat (by omega)
    clear all
    generalize itF (fun m => measF v M B m) (v (M + 3) B).toNat f = g at *
    have i1 : w64 (g 1 + 1) = g 1 + 1 := w64_e (by omega)
    have gn : 0 ≤ g 1 + 1 := by clear i1; omega
    refine ws_step (L' := L') (w := vf v (M + 1) (fu g 1 (g 1 + 1))) (by simp only [wE_I, wE_V, wE_F, wE_A, wE_N, wE_1, wE_2, wE_D, wE_B, wE_If, wE_C, wE_CV, wE_SL, wE_SA, wA_0, wA_1, wC_B, wC_E, wC_And, wC_Or, wC_Not, wS_Skip, wS_Brk, wS_Cnt, wS_RetV, wS_Ret, wS_Seq, wS_Set, wS_Inc, wS_Do, wS_Put, wS_PutC, wS_Arr, wS_ArrC, wS_If, wS_Sw, wS_F0, wS_F1, wM_q, lu_ap, aL_ap, ct_0, ct_1, ct_2, ct_3, ct_4, ct_5, headD_1, List.mem_cons, List.not_mem_nil, or_false, false_or, or_true, true_or, true_and, and_true, false_and, and_false, not_true_eq_false, not_false_eq_true, if_true, if_false, nr_20, nr_24, nr_40, nr_41, nr_44, pt_lt, pt_ge, pt_eq, pt_ne, pt_gt, pt_le, pt_E, pt_N, pt_F, ite_10, ite_11, ne_eq, and_self, or_self, decide_true, decide_false, Bool.not_true, Bool.not_false, Bool.false_eq_true, Nat.reduceEqDiff, Nat.reduceAdd, Int.reduceEq, Int.reduceLT, Int.reduceLE, Int.reduceNeg, Int.reduceAdd, Int.reduceSub, Int.reduceMul, reduceCtorEq, iA, iS, iM, iD, iR, iN, lA, lS, lM, lD, lR, h.k, (hw _).p0, h.a1, h.n1, vf_is, vf_vu, l0, i1]) ?_
    clear i1
    have hown := fun g a q => m_own (S := S) (v := vf v (M + 1) g) (k := a) hB2 q
    have e15 : ∀ g a, vf v (M + 1) g (M + 15) (4 * B + a) = v (M + 15) (4 * B + a) := fun g a => vf_ne (by omega)
    simp only [wE_I, wE_V, wE_F, wE_A, wE_N, wE_1, wE_2, wE_D, wE_B, wE_If, wE_C, wE_CV, wE_SL, wE_SA, wA_0, wA_1, wC_B, wC_E, wC_And, wC_Or, wC_Not, wS_Skip, wS_Brk, wS_Cnt, wS_RetV, wS_Ret, wS_Seq, wS_Set, wS_Inc, wS_Do, wS_Put, wS_PutC, wS_Arr, wS_ArrC, wS_If, wS_Sw, wS_F0, wS_F1, wM_q, lu_ap, aL_ap, ct_0, ct_1, ct_2, ct_3, ct_4, ct_5, headD_1, List.mem_cons, List.not_mem_nil, or_false, false_or, or_true, true_or, true_and, and_true, false_and, and_false, not_true_eq_false, not_false_eq_true, if_true, if_false, nr_20, nr_24, nr_40, nr_41, nr_44, pt_lt, pt_ge, pt_eq, pt_ne, pt_gt, pt_le, pt_E, pt_N, pt_F, ite_10, ite_11, ne_eq, and_self, or_self, decide_true, decide_false, Bool.not_true, Bool.not_false, Bool.false_eq_true, Nat.reduceEqDiff, Nat.reduceAdd, Int.reduceEq, Int.reduceLT, Int.reduceLE, Int.reduceNeg, Int.reduceAdd, Int.reduceSub, Int.reduceMul, reduceCtorEq, iA, iS, iM, iD, iR, iN, lA, lS, lM, lD, lR]
    refine wS_For (v (M + 4) B).toNat (fun j L' w => (L' 0 = M ∧ L' 1 = j) ∧ w = vf v (M + 1) (itF (fun a => rwF v M B a) j (fu g 1 (g 1 + 1)))) (by omega) ?_ ?_ ?_
    · exact ⟨⟨by simp [lu_ap, l0], by simp [lu_ap]⟩, rfl⟩
    · rintro j L' w hj ⟨⟨l0, l1⟩, rfl⟩
      have hja : (j : Int) < v (M + 4) B := by omega
      have e1 : w32 ((j : Int) + 1) = j + 1 := w32_e (by omega)
      have fr : ∀ k, k ≠ 1 → k ≤ 50 ∨ k = 51 + (j : Int) ∨ (55 + 28 * (j : Int) ≤ k ∧ k < 55 + 28 * (j : Int) + 28) → itF (fun a => rwF v M B a) j (fu g 1 (g 1 + 1)) k = g k := fun k k1 k2 => by
        clear e1
        rw [rwI_fr hn4 j (fun a a0 a1 => by omega), fu_ne k1]
      have fr1 : itF (fun a => rwF v M B a) j (fu g 1 (g 1 + 1)) 1 = g 1 + 1 := by
        clear e1
        rw [rwI_fr hn4 j (fun a a0 a1 => by omega), fu_is]
      obtain ⟨r1, r2⟩ := q3 j (by clear e1; omega) hja
      have hpa := pa j (by clear e1; omega) hja
      have ho := fun g => hown g j (by clear e1; omega)
      have o1 : 0 ≤ 4 * B + (j : Int) ∧ 4 * B + (j : Int) < 8 := by clear e1; omega
      have cr := f_closeRow (S := S) (f := itF (fun a => rwF v M B a) j (fu g 1 (g 1 + 1))) h hB hB2 (show 0 ≤ (j : Int) ∧ (j : Int) < 4 by clear e1; omega) pn hpa (by rw [fr _ (by clear e1; omega) (by clear e1; omega)]; exact r1) (fun m m0 m1 => by
        have hlt := Int.emod_lt_of_pos (g 1) (show 0 < v (M + 15) (4 * B + (j : Int)) by clear e1; unfold PBa at hpa; omega)
        have hge := Int.emod_nonneg (g 1) (show v (M + 15) (4 * B + (j : Int)) ≠ 0 by clear e1; unfold PBa at hpa; omega)
        have t := r2 m m0 m1
        rw [if_pos (by clear e1; omega)] at t
        refine ⟨_, ?_, ?_, t.cong (fun i i0 i1 => fr _ (by clear e1; omega) (by clear e1; omega))⟩ <;> clear e1 <;> unfold PBa at hpa <;> omega)
      have fin : itF (fun a => rwF v M B a) (j + 1) (fu g 1 (g 1 + 1)) = rwF v M B j (itF (fun a => rwF v M B a) j (fu g 1 (g 1 + 1))) := rfl
      rw [fin]
      generalize itF (fun a => rwF v M B a) j (fu g 1 (g 1 + 1)) = G at *
      have hp0 : ¬ v (M + 15) (4 * B + (j : Int)) = 0 := by clear e1; unfold PBa at hpa; omega
      have i2 : w64 ((g 1 + 1) % v (M + 15) (4 * B + (j : Int))) = (g 1 + 1) % v (M + 15) (4 * B + (j : Int)) := by
        clear e1
        have hlt := Int.emod_lt_of_pos (g 1 + 1) (show 0 < v (M + 15) (4 * B + (j : Int)) by unfold PBa at hpa; omega)
        have hge := Int.emod_nonneg (g 1 + 1) hp0
        exact w64_e (by unfold PBa at hpa; omega)
      unfold rwF
      rw [fr1]
      by_cases c : (g 1 + 1) % v (M + 15) (4 * B + (j : Int)) = 0
      · simp only [cX12_closeStep_3, bX12_closeStep_3, uX12_closeStep_3, wE_I, wE_V, wE_F, wE_A, wE_N, wE_1, wE_2, wE_D, wE_B, wE_If, wE_C, wE_CV, wE_SL, wE_SA, wA_0, wA_1, wC_B, wC_E, wC_And, wC_Or, wC_Not, wS_Skip, wS_Brk, wS_Cnt, wS_RetV, wS_Ret, wS_Seq, wS_Set, wS_Inc, wS_Do, wS_Put, wS_PutC, wS_Arr, wS_ArrC, wS_If, wS_Sw, wS_F0, wS_F1, wM_q, lu_ap, aL_ap, ct_0, ct_1, ct_2, ct_3, ct_4, ct_5, headD_1, List.mem_cons, List.not_mem_nil, or_false, false_or, or_true, true_or, true_and, and_true, false_and, and_false, not_true_eq_false, not_false_eq_true, if_true, if_false, nr_20, nr_24, nr_40, nr_41, nr_44, pt_lt, pt_ge, pt_eq, pt_ne, pt_gt, pt_le, pt_E, pt_N, pt_F, ite_10, ite_11, ne_eq, and_self, or_self, decide_true, decide_false, Bool.not_true, Bool.not_false, Bool.false_eq_true, Nat.reduceEqDiff, Nat.reduceAdd, Int.reduceEq, Int.reduceLT, Int.reduceLE, Int.reduceNeg, Int.reduceAdd, Int.reduceSub, Int.reduceMul, reduceCtorEq, iA, iS, iM, iD, iR, iN, lA, lS, lM, lD, lR, h.k, l0, l1, wM_of (har _), hja, (hw _).p0, h.a1, h.n1, (hw _).p14, h.a15, h.n15, vf_is, eB, wM_of (ho _), o1, e15, fr1, tmod_n gn, i2, hp0, c, wM_of cr, e1]
        rfl
      · simp only [cX12_closeStep_3, bX12_closeStep_3, uX12_closeStep_3, wE_I, wE_V, wE_F, wE_A, wE_N, wE_1, wE_2, wE_D, wE_B, wE_If, wE_C, wE_CV, wE_SL, wE_SA, wA_0, wA_1, wC_B, wC_E, wC_And, wC_Or, wC_Not, wS_Skip, wS_Brk, wS_Cnt, wS_RetV, wS_Ret, wS_Seq, wS_Set, wS_Inc, wS_Do, wS_Put, wS_PutC, wS_Arr, wS_ArrC, wS_If, wS_Sw, wS_F0, wS_F1, wM_q, lu_ap, aL_ap, ct_0, ct_1, ct_2, ct_3, ct_4, ct_5, headD_1, List.mem_cons, List.not_mem_nil, or_false, false_or, or_true, true_or, true_and, and_true, false_and, and_false, not_true_eq_false, not_false_eq_true, if_true, if_false, nr_20, nr_24, nr_40, nr_41, nr_44, pt_lt, pt_ge, pt_eq, pt_ne, pt_gt, pt_le, pt_E, pt_N, pt_F, ite_10, ite_11, ne_eq, and_self, or_self, decide_true, decide_false, Bool.not_true, Bool.not_false, Bool.false_eq_true, Nat.reduceEqDiff, Nat.reduceAdd, Int.reduceEq, Int.reduceLT, Int.reduceLE, Int.reduceNeg, Int.reduceAdd, Int.reduceSub, Int.reduceMul, reduceCtorEq, iA, iS, iM, iD, iR, iN, lA, lS, lM, lD, lR, h.k, l0, l1, wM_of (har _), hja, (hw _).p0, h.a1, h.n1, (hw _).p14, h.a15, h.n15, vf_is, eB, wM_of (ho _), o1, e15, fr1, tmod_n gn, i2, hp0, c, e1]
        rfl
    · rintro L' w ⟨⟨l0, l1⟩, rfl⟩
      have l2 : L' 1 = v (M + 4) B := by omega
      simp only [cX12_closeStep_3, wE_I, wE_V, wE_F, wE_A, wE_N, wE_1, wE_2, wE_D, wE_B, wE_If, wE_C, wE_CV, wE_SL, wE_SA, wA_0, wA_1, wC_B, wC_E, wC_And, wC_Or, wC_Not, wS_Skip, wS_Brk, wS_Cnt, wS_RetV, wS_Ret, wS_Seq, wS_Set, wS_Inc, wS_Do, wS_Put, wS_PutC, wS_Arr, wS_ArrC, wS_If, wS_Sw, wS_F0, wS_F1, wM_q, lu_ap, aL_ap, ct_0, ct_1, ct_2, ct_3, ct_4, ct_5, headD_1, List.mem_cons, List.not_mem_nil, or_false, false_or, or_true, true_or, true_and, and_true, false_and, and_false, not_true_eq_false, not_false_eq_true, if_true, if_false, nr_20, nr_24, nr_40, nr_41, nr_44, pt_lt, pt_ge, pt_eq, pt_ne, pt_gt, pt_le, pt_E, pt_N, pt_F, ite_10, ite_11, ne_eq, and_self, or_self, decide_true, decide_false, Bool.not_true, Bool.not_false, Bool.false_eq_true, Nat.reduceEqDiff, Nat.reduceAdd, Int.reduceEq, Int.reduceLT, Int.reduceLE, Int.reduceNeg, Int.reduceAdd, Int.reduceSub, Int.reduceMul, reduceCtorEq, iA, iS, iM, iD, iR, iN, lA, lS, lM, lD, lR, h.k, l0, l2, wM_of (har _)]
      exact Int.lt_irrefl _
end CX
/-- one unit of time for a measure -/
def tk1 (m : Int) (f : Int → Int) : Int → Int := if f (3 + 12 * m + 4) = -2147483648 then f else fu (fu f (3 + 12 * m + 6) (f (3 + 12 * m + 6) + f (3 + 12 * m + 4))) (3 + 12 * m + 7) (f (3 + 12 * m + 7) + 1)
def tkF (v : QV) (M B : Int) (f : Int → Int) : Int → Int := itF (fun m => tk1 m) (v (M + 3) B).toNat (fu f 0 (f 0 + 1))
def stF (v : QV) (M B : Int) (f : Int → Int) : Int → Int := if tkF v M B f 0 % v (M + 2) B = 0 then closeF v M B (tkF v M B f) else tkF v M B f
theorem tk1_fr {m k : Int} {f : Int → Int} (h : k ≠ 3 + 12 * m + 6 ∧ k ≠ 3 + 12 * m + 7) : tk1 m f k = f k := by
  unfold tk1
  split
  · rfl
  · rw [fu_ne h.2, fu_ne h.1]
theorem tkI_fr {k : Int} {f : Int → Int} : ∀ n : Nat, (∀ m, 0 ≤ m → m < (n : Int) → k ≠ 3 + 12 * m + 6 ∧ k ≠ 3 + 12 * m + 7) → itF (fun m => tk1 m) n f k = f k
  | 0, _ => rfl
  | n + 1, h => by
    show tk1 n _ k = _
    rw [tk1_fr (h n (by omega) (by omega))]
    exact tkI_fr n (fun m m0 m1 => h m m0 (by omega))
theorem tkI_at {m : Int} {f : Int → Int} (h0 : 0 ≤ m) : ∀ n : Nat, m < (n : Int) → itF (fun m => tk1 m) n f (3 + 12 * m + 6) = (if f (3 + 12 * m + 4) = -2147483648 then f (3 + 12 * m + 6) else f (3 + 12 * m + 6) + f (3 + 12 * m + 4)) ∧ itF (fun m => tk1 m) n f (3 + 12 * m + 7) = (if f (3 + 12 * m + 4) = -2147483648 then f (3 + 12 * m + 7) else f (3 + 12 * m + 7) + 1)
  | 0, h => by omega
  | n + 1, h => by
    show tk1 n _ _ = _ ∧ tk1 n _ _ = _
    by_cases e : m = n
    · subst e
      have fr : ∀ j, 0 ≤ j → j < 12 → itF (fun m => tk1 m) n f (3 + 12 * (n : Int) + j) = f (3 + 12 * (n : Int) + j) := fun j j0 j1 => tkI_fr n (fun m' q0 q1 => by omega)
      generalize itF (fun m => tk1 m) n f = g at *
      unfold tk1
      rw [fr 4 (by decide) (by decide), fr 6 (by decide) (by decide), fr 7 (by decide) (by decide)]
      split
      · exact ⟨fr 6 (by decide) (by decide), fr 7 (by decide) (by decide)⟩
      · exact ⟨by rw [fu_ne (by omega), fu_is], fu_is⟩
    · rw [tk1_fr (by omega), tk1_fr (by omega)]
      exact tkI_at h0 n (by omega)
