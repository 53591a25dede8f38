/-! A ROW CLOSED: the reference's -/
def itF (F : Int → (Int → Int) → (Int → Int)) : Nat → (Int → Int) → (Int → Int)
  | 0, f => f
  | n + 1, f => F (n : Int) (itF F n f)
def shF (R j : Int) (f : Int → Int) : Int → Int := fun k => if R + j + 1 ≤ k ∧ k ≤ R + 29 then f (k - 1) else f k
def clF (G n : Int) (f : Int → Int) : Int → Int := fun k => if G ≤ k ∧ k < G + n then 0 else f k
def rowS (v : QV) (M B a m : Int) (f : Int → Int) : Int → Int := clF (55 + 7 * (4 * a + m)) 7 (fu (shF (167 + 30 * (4 * a + m)) 0 f) (167 + 30 * (4 * a + m) + 0) (gathF (v (M + 14) (4 * B + a)) (v (M + 15) (4 * B + a)) (v (M + 17) (4 * B + a)) (55 + 7 * (4 * a + m)) (shF (167 + 30 * (4 * a + m)) 0 f)))
def rowF (v : QV) (M B a : Int) (f : Int → Int) : Int → Int := itF (fun m => rowS v M B a m) (v (M + 3) B).toNat (if f (51 + a) < v (M + 16) (4 * B + a) then fu f (51 + a) (f (51 + a) + 1) else f)
/-- what a row that is not over has, within bounds -/
def FIt (f : Int → Int) (g N : Int) : Prop := (0 ≤ f (g + 5) ∧ 0 ≤ f (g + 6) ∧ f (g + 5) + f (g + 6) = N) ∧ (f (g + 5) ≤ f (g + 1) ∧ f (g + 1) ≤ 60 * f (g + 5)) ∧ (0 ≤ f (g + 0) ∧ f (g + 0) ≤ 999999000 * f (g + 1)) ∧ (¬ f (g + 5) = 0 → (0 ≤ f (g + 2) ∧ f (g + 2) ≤ 999999000) ∧ (0 ≤ f (g + 3) ∧ f (g + 3) ≤ 999999000) ∧ (0 ≤ f (g + 4) ∧ f (g + 4) ≤ 999999000))
theorem FIt.cong {f g : Int → Int} {G N : Int} (h : FIt f G N) (he : ∀ j, 0 ≤ j → j < 7 → g (G + j) = f (G + j)) : FIt g G N := by
  unfold FIt at h ⊢
  rw [he 0 (by decide) (by decide), he 1 (by decide) (by decide), he 2 (by decide) (by decide), he 3 (by decide) (by decide), he 4 (by decide) (by decide), he 5 (by decide) (by decide), he 6 (by decide) (by decide)]
  exact h
/-- an archive's line within bounds -/
def PBa (v : QV) (M k : Int) : Prop := (0 ≤ v (M + 14) k ∧ v (M + 14) k ≤ 3) ∧ (1 ≤ v (M + 15) k ∧ v (M + 15) k ≤ 12) ∧ (1 ≤ v (M + 16) k ∧ v (M + 16) k ≤ 30) ∧ (0 ≤ v (M + 17) k ∧ v (M + 17) k ≤ 9)
theorem rowS_fr {v : QV} {M B a m k : Int} {f : Int → Int} (h1 : k < 55 + 7 * (4 * a + m) ∨ 55 + 7 * (4 * a + m) + 7 ≤ k) (h2 : k < 167 + 30 * (4 * a + m) ∨ 167 + 30 * (4 * a + m) + 30 ≤ k) : rowS v M B a m f k = f k := by
  unfold rowS clF shF
  rw [if_neg (by omega), fu_ne (by omega), if_neg (by omega)]
theorem rowI_fr {v : QV} {M B a k : Int} {f : Int → Int} : ∀ n : Nat, (∀ m, 0 ≤ m → m < (n : Int) → (k < 55 + 7 * (4 * a + m) ∨ 55 + 7 * (4 * a + m) + 7 ≤ k) ∧ (k < 167 + 30 * (4 * a + m) ∨ 167 + 30 * (4 * a + m) + 30 ≤ k)) → itF (fun m => rowS v M B a m) n f k = f k
  | 0, _ => rfl
  | n + 1, h => by
    have := h n (by omega) (by omega)
    show rowS v M B a n _ k = _
    rw [rowS_fr this.1 this.2]
    exact rowI_fr n (fun m m0 m1 => h m m0 (by omega))
section CR
variable {S : QS} {v w : QV} {b M P B s : Int} {f : Int → Int}
theorem f_shift (h : LMo S v M) {a m : Int} (ha : 0 ≤ a ∧ a < 4) (hm : 0 ≤ m ∧ m < 4) {L : QL} (m0 : L 0 = M) (m1 : L 1 = a) (m2 : L 2 = m) : wS (sSeq (sSet 3 (eI 29)) (sWhile cX12_closeRow_2 bX12_closeRow_2 uX12_closeRow_2)) L S (vf v (M + 1) f) (fun k _ L' w => k = 0 ∧ L' = lu L 3 0 ∧ w = vf v (M + 1) (shF (167 + 30 * (4 * a + m)) 0 f)) := by
  have hw := fun g => h.keep (Kp.vf h (f := g))
  have aR := fun g z (q : 0 ≤ z ∧ z < 30) => m_atRow (S := S) (v := vf v (M + 1) g) ha hm q
  have qR : ∀ z, 0 ≤ z ∧ z < 30 → 0 ≤ 167 + 30 * (4 * a + m) + z ∧ 167 + 30 * (4 * a + m) + z < 1095 := fun z q => by omega
  generalize 167 + 30 * (4 * a + m) = R at *
  simp only [wE_I, wE_V, wE_F, wE_A, wE_N, wE_1, wE_2, wE_D, wE_B, wE_If, wE_C, wE_CV, wE_SL, wE_SA, wA_0, wA_1, wC_B, wC_E, wC_And, wC_Or, wC_Not, wS_Skip, wS_Brk, wS_Cnt, wS_RetV, wS_Ret, wS_Seq, wS_Set, wS_Inc, wS_Do, wS_Put, wS_PutC, wS_Arr, wS_ArrC, wS_If, wS_Sw, wS_F0, wS_F1, wM_q, lu_ap, aL_ap, ct_0, ct_1, ct_2, ct_3, ct_4, ct_5, headD_1, List.mem_cons, List.not_mem_nil, or_false, false_or, or_true, true_or, true_and, and_true, false_and, and_false, not_true_eq_false, not_false_eq_true, if_true, if_false, nr_20, nr_24, nr_40, nr_41, nr_44, pt_lt, pt_ge, pt_eq, pt_ne, pt_gt, pt_le, pt_E, pt_N, pt_F, ite_10, ite_11, ne_eq, and_self, or_self, decide_true, decide_false, Bool.not_true, Bool.not_false, Bool.false_eq_true, Nat.reduceEqDiff, Nat.reduceAdd, Int.reduceEq, Int.reduceLT, Int.reduceLE, Int.reduceNeg, Int.reduceAdd, Int.reduceSub, Int.reduceMul, reduceCtorEq, iA, iS, iM, iD, iR, iN, lA, lS, lM, lD, lR]
  refine wS_While (fun k L' w => ∃ j : Int, (L' = lu L 3 j) ∧ (0 ≤ j ∧ j ≤ 29 ∧ (k : Int) = j) ∧ w = vf v (M + 1) (shF R j f)) 29 (by decide) ?_ ?_
  · refine ⟨29, rfl, by omega, ?_⟩
    congr 1
    funext k
    unfold shF
    rw [if_neg (by omega)]
  · rintro k L' w ⟨j, hL', hj, rfl⟩
    have n0 : L' 0 = M := by rw [hL']; simp [lu_ap, m0]
    have n1 : L' 1 = a := by rw [hL']; simp [lu_ap, m1]
    have n2 : L' 2 = m := by rw [hL']; simp [lu_ap, m2]
    have n3 : L' 3 = j := by rw [hL']; simp [lu_ap]
    by_cases h0 : 0 < j
    · have e1 : w32 (j - 1) = j - 1 := w32_e (by omega)
      have e2 : w32 (j + -1) = j - 1 := by clear e1; rw [w32_e (by omega)]; omega
      have r1 : 0 ≤ j ∧ j < 30 := by clear e1 e2; omega
      have r2 : 0 ≤ j - 1 ∧ j - 1 < 30 := by clear e1 e2; omega
      simp only [cX12_closeRow_2, bX12_closeRow_2, uX12_closeRow_2, wE_I, wE_V, wE_F, wE_A, wE_N, wE_1, wE_2, wE_D, wE_B, wE_If, wE_C, wE_CV, wE_SL, wE_SA, wA_0, wA_1, wC_B, wC_E, wC_And, wC_Or, wC_Not, wS_Skip, wS_Brk, wS_Cnt, wS_RetV, wS_Ret, wS_Seq, wS_Set, wS_Inc, wS_Do, wS_Put, wS_PutC, wS_Arr, wS_ArrC, wS_If, wS_Sw, wS_F0, wS_F1, wM_q, lu_ap, aL_ap, ct_0, ct_1, ct_2, ct_3, ct_4, ct_5, headD_1, List.mem_cons, List.not_mem_nil, or_false, false_or, or_true, true_or, true_and, and_true, false_and, and_false, not_true_eq_false, not_false_eq_true, if_true, if_false, nr_20, nr_24, nr_40, nr_41, nr_44, pt_lt, pt_ge, pt_eq, pt_ne, pt_gt, pt_le, pt_E, pt_N, pt_F, ite_10, ite_11, ne_eq, and_self, or_self, decide_true, decide_false, Bool.not_true, Bool.not_false, Bool.false_eq_true, Nat.reduceEqDiff, Nat.reduceAdd, Int.reduceEq, Int.reduceLT, Int.reduceLE, Int.reduceNeg, Int.reduceAdd, Int.reduceSub, Int.reduceMul, reduceCtorEq, iA, iS, iM, iD, iR, iN, lA, lS, lM, lD, lR, h.k, (hw _).p0, h.a1, h.n1, vf_is, vf_vu, n0, n1, n2, n3, h0, e1, e2, wM_of (aR _ _ r1), wM_of (aR _ _ r2), qR _ r1, qR _ r2]
      clear e1 e2
      refine ⟨(j - 1).toNat, by omega, j - 1, ?_, by omega, ?_⟩
      · rw [hL']
        funext i
        simp only [lu_ap]
        split <;> rfl
      · congr 1
        funext k
        rw [fu_ap]
        unfold shF
        by_cases e : k = R + j
        · rw [if_pos e, if_neg (by omega), if_pos (by omega), e]
          congr 1
          omega
        · rw [if_neg e]
          by_cases e2 : R + j + 1 ≤ k ∧ k ≤ R + 29
          · rw [if_pos e2, if_pos (by omega)]
          · rw [if_neg e2, if_neg (by omega)]
    · have j0 : j = 0 := by omega
      subst j0
      simp only [cX12_closeRow_2, wE_I, wE_V, wE_F, wE_A, wE_N, wE_1, wE_2, wE_D, wE_B, wE_If, wE_C, wE_CV, wE_SL, wE_SA, wA_0, wA_1, wC_B, wC_E, wC_And, wC_Or, wC_Not, wS_Skip, wS_Brk, wS_Cnt, wS_RetV, wS_Ret, wS_Seq, wS_Set, wS_Inc, wS_Do, wS_Put, wS_PutC, wS_Arr, wS_ArrC, wS_If, wS_Sw, wS_F0, wS_F1, wM_q, lu_ap, aL_ap, ct_0, ct_1, ct_2, ct_3, ct_4, ct_5, headD_1, List.mem_cons, List.not_mem_nil, or_false, false_or, or_true, true_or, true_and, and_true, false_and, and_false, not_true_eq_false, not_false_eq_true, if_true, if_false, nr_20, nr_24, nr_40, nr_41, nr_44, pt_lt, pt_ge, pt_eq, pt_ne, pt_gt, pt_le, pt_E, pt_N, pt_F, ite_10, ite_11, ne_eq, and_self, or_self, decide_true, decide_false, Bool.not_true, Bool.not_false, Bool.false_eq_true, Nat.reduceEqDiff, Nat.reduceAdd, Int.reduceEq, Int.reduceLT, Int.reduceLE, Int.reduceNeg, Int.reduceAdd, Int.reduceSub, Int.reduceMul, reduceCtorEq, iA, iS, iM, iD, iR, iN, lA, lS, lM, lD, lR, n3]
      exact hL'
theorem f_clear (h : LMo S v M) {a m : Int} (ha : 0 ≤ a ∧ a < 4) (hm : 0 ≤ m ∧ m < 4) {L : QL} (m0 : L 0 = M) (m1 : L 1 = a) (m2 : L 2 = m) : wS (sSeq (sSet 3 (eI 0)) (sWhile cX12_closeRow_3 bX12_closeRow_3 uX12_closeRow_3)) L S (vf v (M + 1) f) (fun k _ L' w => k = 0 ∧ L' = lu L 3 7 ∧ w = vf v (M + 1) (clF (55 + 7 * (4 * a + m)) 7 f)) := by
  have hw := fun g => h.keep (Kp.vf h (f := g))
  have aG := fun g z (q : 0 ≤ z ∧ z < 7) => m_atGather (S := S) (v := vf v (M + 1) g) ha hm q
  have qG := fun j (q : 0 ≤ j ∧ j < 7) => q_ga ha hm (j := j) q
  generalize 55 + 7 * (4 * a + m) = G at *
  simp only [wE_I, wE_V, wE_F, wE_A, wE_N, wE_1, wE_2, wE_D, wE_B, wE_If, wE_C, wE_CV, wE_SL, wE_SA, wA_0, wA_1, wC_B, wC_E, wC_And, wC_Or, wC_Not, wS_Skip, wS_Brk, wS_Cnt, wS_RetV, wS_Ret, wS_Seq, wS_Set, wS_Inc, wS_Do, wS_Put, wS_PutC, wS_Arr, wS_ArrC, wS_If, wS_Sw, wS_F0, wS_F1, wM_q, lu_ap, aL_ap, ct_0, ct_1, ct_2, ct_3, ct_4, ct_5, headD_1, List.mem_cons, List.not_mem_nil, or_false, false_or, or_true, true_or, true_and, and_true, false_and, and_false, not_true_eq_false, not_false_eq_true, if_true, if_false, nr_20, nr_24, nr_40, nr_41, nr_44, pt_lt, pt_ge, pt_eq, pt_ne, pt_gt, pt_le, pt_E, pt_N, pt_F, ite_10, ite_11, ne_eq, and_self, or_self, decide_true, decide_false, Bool.not_true, Bool.not_false, Bool.false_eq_true, Nat.reduceEqDiff, Nat.reduceAdd, Int.reduceEq, Int.reduceLT, Int.reduceLE, Int.reduceNeg, Int.reduceAdd, Int.reduceSub, Int.reduceMul, reduceCtorEq, iA, iS, iM, iD, iR, iN, lA, lS, lM, lD, lR]
  refine wS_For 7 (fun j L' w => L' = lu L 3 j ∧ w = vf v (M + 1) (clF G j f)) (by decide) ?_ ?_ ?_
  · refine ⟨rfl, ?_⟩
    congr 1
    funext k
    unfold clF
    rw [if_neg (by omega)]
  · rintro j L' w hj ⟨hL', rfl⟩
    have n0 : L' 0 = M := by rw [hL']; simp [lu_ap, m0]
    have n1 : L' 1 = a := by rw [hL']; simp [lu_ap, m1]
    have n2 : L' 2 = m := by rw [hL']; simp [lu_ap, m2]
    have n3 : L' 3 = j := by rw [hL']; simp [lu_ap]
    have h1 : (j : Int) < 7 := by omega
    have e1 : w32 ((j : Int) + 1) = j + 1 := w32_e (by omega)
    have r1 : 0 ≤ (j : Int) ∧ (j : Int) < 7 := by clear e1; omega
    simp only [cX12_closeRow_3, bX12_closeRow_3, uX12_closeRow_3, wE_I, wE_V, wE_F, wE_A, wE_N, wE_1, wE_2, wE_D, wE_B, wE_If, wE_C, wE_CV, wE_SL, wE_SA, wA_0, wA_1, wC_B, wC_E, wC_And, wC_Or, wC_Not, wS_Skip, wS_Brk, wS_Cnt, wS_RetV, wS_Ret, wS_Seq, wS_Set, wS_Inc, wS_Do, wS_Put, wS_PutC, wS_Arr, wS_ArrC, wS_If, wS_Sw, wS_F0, wS_F1, wM_q, lu_ap, aL_ap, ct_0, ct_1, ct_2, ct_3, ct_4, ct_5, headD_1, List.mem_cons, List.not_mem_nil, or_false, false_or, or_true, true_or, true_and, and_true, false_and, and_false, not_true_eq_false, not_false_eq_true, if_true, if_false, nr_20, nr_24, nr_40, nr_41, nr_44, pt_lt, pt_ge, pt_eq, pt_ne, pt_gt, pt_le, pt_E, pt_N, pt_F, ite_10, ite_11, ne_eq, and_self, or_self, decide_true, decide_false, Bool.not_true, Bool.not_false, Bool.false_eq_true, Nat.reduceEqDiff, Nat.reduceAdd, Int.reduceEq, Int.reduceLT, Int.reduceLE, Int.reduceNeg, Int.reduceAdd, Int.reduceSub, Int.reduceMul, reduceCtorEq, iA, iS, iM, iD, iR, iN, lA, lS, lM, lD, lR, h.k, (hw _).p0, h.a1, h.n1, vf_is, vf_vu, n0, n1, n2, n3, h1, e1, wM_of (aG _ _ r1), qG _ r1]
    clear e1
    refine ⟨?_, ?_⟩
    · rw [hL']
      funext i
      simp only [lu_ap]
      split <;> simp
    · congr 1
      funext k
      rw [fu_ap]
      unfold clF
      by_cases e : k = G + j
      · rw [if_pos e, if_pos (by omega)]
      · rw [if_neg e]
        by_cases e2 : G ≤ k ∧ k < G + j
        · rw [if_pos e2, if_pos (by omega)]
        · rw [if_neg e2, if_neg (by omega)]
  · rintro L' w ⟨hL', rfl⟩
    have n3 : L' 3 = 7 := by rw [hL']; simp [lu_ap]
    simp only [cX12_closeRow_3, wE_I, wE_V, wE_F, wE_A, wE_N, wE_1, wE_2, wE_D, wE_B, wE_If, wE_C, wE_CV, wE_SL, wE_SA, wA_0, wA_1, wC_B, wC_E, wC_And, wC_Or, wC_Not, wS_Skip, wS_Brk, wS_Cnt, wS_RetV, wS_Ret, wS_Seq, wS_Set, wS_Inc, wS_Do, wS_Put, wS_PutC, wS_Arr, wS_ArrC, wS_If, wS_Sw, wS_F0, wS_F1, wM_q, lu_ap, aL_ap, ct_0, ct_1, ct_2, ct_3, ct_4, ct_5, headD_1, List.mem_cons, List.not_mem_nil, or_false, false_or, or_true, true_or, true_and, and_true, false_and, and_false, not_true_eq_false, not_false_eq_true, if_true, if_false, nr_20, nr_24, nr_40, nr_41, nr_44, pt_lt, pt_ge, pt_eq, pt_ne, pt_gt, pt_le, pt_E, pt_N, pt_F, ite_10, ite_11, ne_eq, and_self, or_self, decide_true, decide_false, Bool.not_true, Bool.not_false, Bool.false_eq_true, Nat.reduceEqDiff, Nat.reduceAdd, Int.reduceEq, Int.reduceLT, Int.reduceLE, Int.reduceNeg, Int.reduceAdd, Int.reduceSub, Int.reduceMul, reduceCtorEq, iA, iS, iM, iD, iR, iN, lA, lS, lM, lD, lR, n3]
    exact ⟨hL', rfl⟩
theorem f_closeRow (h : LMo S v M) (hB : v M 28 = B) (hB2 : B = 0 ∨ B = 1) {a : Int} (ha : 0 ≤ a ∧ a < 4) (hn : 0 ≤ v (M + 3) B ∧ v (M + 3) B ≤ 4) (hp : PBa v M (4 * B + a)) (hk : 0 ≤ f (51 + a) ∧ f (51 + a) ≤ 30) (hg : ∀ m, 0 ≤ m → m < v (M + 3) B → ∃ N, 0 ≤ N ∧ N ≤ 12 ∧ FIt f (55 + 7 * (4 * a + m)) N) : mX12_closeRow [M, a] S (vf v (M + 1) f) = some (0, vf v (M + 1) (rowF v M B a f)) := by
  obtain ⟨phow, pper, plong, pshare⟩ := hp
  have hw := fun g => h.keep (Kp.vf h (f := g))
  have hown := fun g => m_own (S := S) (v := vf v (M + 1) g) hB2 (show 0 ≤ a ∧ a ≤ 1000 by omega)
  have o1 : 0 ≤ 4 * B + a ∧ 4 * B + a < 8 := by omega
  have eB : ∀ g, vf v (M + 1) g M 28 = B := fun g => by rw [vf_ne (by omega)]; exact hB
  have e16 : ∀ g, vf v (M + 1) g (M + 16) (4 * B + a) = v (M + 16) (4 * B + a) := fun g => vf_ne (by omega)
  have hrk := f_rowsKept (S := S) h ha (show 0 ≤ f (51 + a) ∧ f (51 + a) ≤ 1000 by omega)
  have hmany := fun g => f_many (S := S) (f := g) h hB hB2
  have aR := fun g m z (hm : 0 ≤ m ∧ m < 4) (q : 0 ≤ z ∧ z < 30) => m_atRow (S := S) (v := vf v (M + 1) g) ha hm q
  have i1 : w32 (51 + a) = 51 + a := w32_e (by omega)
  have i2 : w64 (f (51 + a) + 1) = f (51 + a) + 1 := by clear i1; exact w64_e (by omega)
  have o51 : 0 ≤ 51 + a ∧ 51 + a < 1095 := by clear i1 i2; omega
  unfold rowF
  generalize hlg : v (M + 16) (4 * B + a) = lg at *
  generalize hN : v (M + 3) B = n at *
  apply wM_eq
  simp only [mX12_closeRow, sX12_closeRow, wM_q]
  generalize hL : aL 0 [2, 0] [M, a] = L
  have m0 : L 0 = M := by rw [← hL]; simp [lu_ap, aL_ap, ct_0, ct_1, ct_2]
  have m1 : L 1 = a := by rw [← hL]; simp [lu_ap, aL_ap, ct_0, ct_1, ct_2]
  clear hL
  refine ws_step (L' := L) (w := vf v (M + 1) (if f (51 + a) < lg then fu f (51 + a) (f (51 + a) + 1) else f)) ?_ ?_
  · by_cases c1 : f (51 + a) < lg
    · simp only [wE_I, wE_V, wE_F, wE_A, wE_N, wE_1, wE_2, wE_D, wE_B, wE_If, wE_C, wE_CV, wE_SL, wE_SA, wA_0, wA_1, wC_B, wC_E, wC_And, wC_Or, wC_Not, wS_Skip, wS_Brk, wS_Cnt, wS_RetV, wS_Ret, wS_Seq, wS_Set, wS_Inc, wS_Do, wS_Put, wS_PutC, wS_Arr, wS_ArrC, wS_If, wS_Sw, wS_F0, wS_F1, wM_q, lu_ap, aL_ap, ct_0, ct_1, ct_2, ct_3, ct_4, ct_5, headD_1, List.mem_cons, List.not_mem_nil, or_false, false_or, or_true, true_or, true_and, and_true, false_and, and_false, not_true_eq_false, not_false_eq_true, if_true, if_false, nr_20, nr_24, nr_40, nr_41, nr_44, pt_lt, pt_ge, pt_eq, pt_ne, pt_gt, pt_le, pt_E, pt_N, pt_F, ite_10, ite_11, ne_eq, and_self, or_self, decide_true, decide_false, Bool.not_true, Bool.not_false, Bool.false_eq_true, Nat.reduceEqDiff, Nat.reduceAdd, Int.reduceEq, Int.reduceLT, Int.reduceLE, Int.reduceNeg, Int.reduceAdd, Int.reduceSub, Int.reduceMul, reduceCtorEq, iA, iS, iM, iD, iR, iN, lA, lS, lM, lD, lR, h.k, (hw _).p0, h.a1, h.n1, (hw _).p15, h.a16, h.n16, vf_is, vf_vu, eB, e16, o1, wM_of (hown _), m0, m1, wM_of hrk, c1, i1, i2, o51]
    · simp only [wE_I, wE_V, wE_F, wE_A, wE_N, wE_1, wE_2, wE_D, wE_B, wE_If, wE_C, wE_CV, wE_SL, wE_SA, wA_0, wA_1, wC_B, wC_E, wC_And, wC_Or, wC_Not, wS_Skip, wS_Brk, wS_Cnt, wS_RetV, wS_Ret, wS_Seq, wS_Set, wS_Inc, wS_Do, wS_Put, wS_PutC, wS_Arr, wS_ArrC, wS_If, wS_Sw, wS_F0, wS_F1, wM_q, lu_ap, aL_ap, ct_0, ct_1, ct_2, ct_3, ct_4, ct_5, headD_1, List.mem_cons, List.not_mem_nil, or_false, false_or, or_true, true_or, true_and, and_true, false_and, and_false, not_true_eq_false, not_false_eq_true, if_true, if_false, nr_20, nr_24, nr_40, nr_41, nr_44, pt_lt, pt_ge, pt_eq, pt_ne, pt_gt, pt_le, pt_E, pt_N, pt_F, ite_10, ite_11, ne_eq, and_self, or_self, decide_true, decide_false, Bool.not_true, Bool.not_false, Bool.false_eq_true, Nat.reduceEqDiff, Nat.reduceAdd, Int.reduceEq, Int.reduceLT, Int.reduceLE, Int.reduceNeg, Int.reduceAdd, Int.reduceSub, Int.reduceMul, reduceCtorEq, iA, iS, iM, iD, iR, iN, lA, lS, lM, lD, lR, h.k, (hw _).p0, h.a1, h.n1, (hw _).p15, h.a16, h.n16, vf_is, vf_vu, eB, e16, o1, wM_of (hown _), m0, m1, wM_of hrk, c1]
  clear i1 i2
  have hf1 : ∀ k, k ≠ 51 + a → (if f (51 + a) < lg then fu f (51 + a) (f (51 + a) + 1) else f) k = f k := fun k q => by
    split
    · exact fu_ne q
    · rfl
  generalize (if f (51 + a) < lg then fu f (51 + a) (f (51 + a) + 1) else f) = f1 at *
  simp only [wE_I, wE_V, wE_F, wE_A, wE_N, wE_1, wE_2, wE_D, wE_B, wE_If, wE_C, wE_CV, wE_SL, wE_SA, wA_0, wA_1, wC_B, wC_E, wC_And, wC_Or, wC_Not, wS_Skip, wS_Brk, wS_Cnt, wS_RetV, wS_Ret, wS_Seq, wS_Set, wS_Inc, wS_Do, wS_Put, wS_PutC, wS_Arr, wS_ArrC, wS_If, wS_Sw, wS_F0, wS_F1, wM_q, lu_ap, aL_ap, ct_0, ct_1, ct_2, ct_3, ct_4, ct_5, headD_1, List.mem_cons, List.not_mem_nil, or_false, false_or, or_true, true_or, true_and, and_true, false_and, and_false, not_true_eq_false, not_false_eq_true, if_true, if_false, nr_20, nr_24, nr_40, nr_41, nr_44, pt_lt, pt_ge, pt_eq, pt_ne, pt_gt, pt_le, pt_E, pt_N, pt_F, ite_10, ite_11, ne_eq, and_self, or_self, decide_true, decide_false, Bool.not_true, Bool.not_false, Bool.false_eq_true, Nat.reduceEqDiff, Nat.reduceAdd, Int.reduceEq, Int.reduceLT, Int.reduceLE, Int.reduceNeg, Int.reduceAdd, Int.reduceSub, Int.reduceMul, reduceCtorEq, iA, iS, iM, iD, iR, iN, lA, lS, lM, lD, lR]
  refine wS_For n.toNat (fun j L' w => (L' 0 = M ∧ L' 1 = a ∧ L' 2 = j) ∧ w = vf v (M + 1) (itF (fun m => rowS v M B a m) j f1)) (by omega) ?_ ?_ ?_
  · exact ⟨⟨by simp [lu_ap, m0], by simp [lu_ap, m1], by simp [lu_ap]⟩, rfl⟩
  · rintro j L' w hj ⟨⟨l0, l1, l2⟩, rfl⟩
    have hjn : (j : Int) < n := by omega
    have hm : 0 ≤ (j : Int) ∧ (j : Int) < 4 := by omega
    obtain ⟨N, N0, N1, ht⟩ := hg j (by omega) hjn
    have e1 : w32 ((j : Int) + 1) = j + 1 := w32_e (by omega)
    have fr : ∀ i, 0 ≤ i → i < 7 → shF (167 + 30 * (4 * a + (j : Int))) 0 (itF (fun m => rowS v M B a m) j f1) (55 + 7 * (4 * a + (j : Int)) + i) = f (55 + 7 * (4 * a + (j : Int)) + i) := fun i i0 i1 => by
      clear e1
      unfold shF
      rw [if_neg (by omega), rowI_fr j (fun m m0 m1 => ⟨by omega, by omega⟩), hf1 _ (by omega)]
    have ht2 := ht.cong fr
    have sh := f_shift (S := S) (f := itF (fun m => rowS v M B a m) j f1) h ha hm l0 l1 l2
    have fin : itF (fun m => rowS v M B a m) (j + 1) f1 = clF (55 + 7 * (4 * a + (j : Int))) 7 (fu (shF (167 + 30 * (4 * a + (j : Int))) 0 (itF (fun m => rowS v M B a m) j f1)) (167 + 30 * (4 * a + (j : Int)) + 0) (gathF (v (M + 14) (4 * B + a)) (v (M + 15) (4 * B + a)) (v (M + 17) (4 * B + a)) (55 + 7 * (4 * a + (j : Int))) (shF (167 + 30 * (4 * a + (j : Int))) 0 (itF (fun m => rowS v M B a m) j f1)))) := rfl
    rw [fin]
    clear fin fr ht
    generalize shF (167 + 30 * (4 * a + (j : Int))) 0 (itF (fun m => rowS v M B a m) j f1) = g at *
    obtain ⟨⟨t5, t6, tN⟩, tu, ts, tc⟩ := ht2
    have gb := m_gatheredBy (S := S) (f := g) h hB hB2 ha hm pshare pper phow ⟨ts.1, by clear e1; omega⟩ ⟨t6, by clear e1; omega⟩ (fun q => by clear e1; omega)
    have r0 : 0 ≤ (0 : Int) ∧ (0 : Int) < 30 := by decide
    have q0 : 0 ≤ 167 + 30 * (4 * a + (j : Int)) + 0 ∧ 167 + 30 * (4 * a + (j : Int)) + 0 < 1095 := by clear e1; omega
    simp only [cX12_closeRow_1, wE_I, wE_V, wE_F, wE_A, wE_N, wE_1, wE_2, wE_D, wE_B, wE_If, wE_C, wE_CV, wE_SL, wE_SA, wA_0, wA_1, wC_B, wC_E, wC_And, wC_Or, wC_Not, wS_Skip, wS_Brk, wS_Cnt, wS_RetV, wS_Ret, wS_Seq, wS_Set, wS_Inc, wS_Do, wS_Put, wS_PutC, wS_Arr, wS_ArrC, wS_If, wS_Sw, wS_F0, wS_F1, wM_q, lu_ap, aL_ap, ct_0, ct_1, ct_2, ct_3, ct_4, ct_5, headD_1, List.mem_cons, List.not_mem_nil, or_false, false_or, or_true, true_or, true_and, and_true, false_and, and_false, not_true_eq_false, not_false_eq_true, if_true, if_false, nr_20, nr_24, nr_40, nr_41, nr_44, pt_lt, pt_ge, pt_eq, pt_ne, pt_gt, pt_le, pt_E, pt_N, pt_F, ite_10, ite_11, ne_eq, and_self, or_self, decide_true, decide_false, Bool.not_true, Bool.not_false, Bool.false_eq_true, Nat.reduceEqDiff, Nat.reduceAdd, Int.reduceEq, Int.reduceLT, Int.reduceLE, Int.reduceNeg, Int.reduceAdd, Int.reduceSub, Int.reduceMul, reduceCtorEq, iA, iS, iM, iD, iR, iN, lA, lS, lM, lD, lR, h.k, l0, l2, wM_of (hmany _), hjn]
    unfold bX12_closeRow_1
    refine ws_step sh ?_
    have n0 : lu L' 3 0 0 = M := by simp [lu_ap, l0]
    have n1 : lu L' 3 0 1 = a := by simp [lu_ap, l1]
    have n2 : lu L' 3 0 2 = j := by simp [lu_ap, l2]
    generalize lu L' 3 0 = L3 at *
    refine ws_step (L' := L3) (w := vf v (M + 1) (fu g (167 + 30 * (4 * a + (j : Int)) + 0) (gathF (v (M + 14) (4 * B + a)) (v (M + 15) (4 * B + a)) (v (M + 17) (4 * B + a)) (55 + 7 * (4 * a + (j : Int))) g))) (by simp only [wE_I, wE_V, wE_F, wE_A, wE_N, wE_1, wE_2, wE_D, wE_B, wE_If, wE_C, wE_CV, wE_SL, wE_SA, wA_0, wA_1, wC_B, wC_E, wC_And, wC_Or, wC_Not, wS_Skip, wS_Brk, wS_Cnt, wS_RetV, wS_Ret, wS_Seq, wS_Set, wS_Inc, wS_Do, wS_Put, wS_PutC, wS_Arr, wS_ArrC, wS_If, wS_Sw, wS_F0, wS_F1, wM_q, lu_ap, aL_ap, ct_0, ct_1, ct_2, ct_3, ct_4, ct_5, headD_1, List.mem_cons, List.not_mem_nil, or_false, false_or, or_true, true_or, true_and, and_true, false_and, and_false, not_true_eq_false, not_false_eq_true, if_true, if_false, nr_20, nr_24, nr_40, nr_41, nr_44, pt_lt, pt_ge, pt_eq, pt_ne, pt_gt, pt_le, pt_E, pt_N, pt_F, ite_10, ite_11, ne_eq, and_self, or_self, decide_true, decide_false, Bool.not_true, Bool.not_false, Bool.false_eq_true, Nat.reduceEqDiff, Nat.reduceAdd, Int.reduceEq, Int.reduceLT, Int.reduceLE, Int.reduceNeg, Int.reduceAdd, Int.reduceSub, Int.reduceMul, reduceCtorEq, iA, iS, iM, iD, iR, iN, lA, lS, lM, lD, lR, h.k, (hw _).p0, h.a1, h.n1, vf_is, vf_vu, n0, n1, n2, wM_of (aR _ _ _ hm r0), q0, wM_of gb]) ?_
    refine wS_mono (f_clear h ha hm n0 n1 n2) ?_
    rintro k z L4 w4 ⟨rfl, rfl, rfl⟩
    simp only [uX12_closeRow_1, wE_I, wE_V, wE_F, wE_A, wE_N, wE_1, wE_2, wE_D, wE_B, wE_If, wE_C, wE_CV, wE_SL, wE_SA, wA_0, wA_1, wC_B, wC_E, wC_And, wC_Or, wC_Not, wS_Skip, wS_Brk, wS_Cnt, wS_RetV, wS_Ret, wS_Seq, wS_Set, wS_Inc, wS_Do, wS_Put, wS_PutC, wS_Arr, wS_ArrC, wS_If, wS_Sw, wS_F0, wS_F1, wM_q, lu_ap, aL_ap, ct_0, ct_1, ct_2, ct_3, ct_4, ct_5, headD_1, List.mem_cons, List.not_mem_nil, or_false, false_or, or_true, true_or, true_and, and_true, false_and, and_false, not_true_eq_false, not_false_eq_true, if_true, if_false, nr_20, nr_24, nr_40, nr_41, nr_44, pt_lt, pt_ge, pt_eq, pt_ne, pt_gt, pt_le, pt_E, pt_N, pt_F, ite_10, ite_11, ne_eq, and_self, or_self, decide_true, decide_false, Bool.not_true, Bool.not_false, Bool.false_eq_true, Nat.reduceEqDiff, Nat.reduceAdd, Int.reduceEq, Int.reduceLT, Int.reduceLE, Int.reduceNeg, Int.reduceAdd, Int.reduceSub, Int.reduceMul, reduceCtorEq, iA, iS, iM, iD, iR, iN, lA, lS, lM, lD, lR, n0, n1, n2, e1]
    rfl
  · rintro L' w ⟨⟨l0, l1, l2⟩, rfl⟩
    have l2' : L' 2 = n := by omega
    simp only [cX12_closeRow_1, wE_I, wE_V, wE_F, wE_A, wE_N, wE_1, wE_2, wE_D, wE_B, wE_If, wE_C, wE_CV, wE_SL, wE_SA, wA_0, wA_1, wC_B, wC_E, wC_And, wC_Or, wC_Not, wS_Skip, wS_Brk, wS_Cnt, wS_RetV, wS_Ret, wS_Seq, wS_Set, wS_Inc, wS_Do, wS_Put, wS_PutC, wS_Arr, wS_ArrC, wS_If, wS_Sw, wS_F0, wS_F1, wM_q, lu_ap, aL_ap, ct_0, ct_1, ct_2, ct_3, ct_4, ct_5, headD_1, List.mem_cons, List.not_mem_nil, or_false, false_or, or_true, true_or, true_and, and_true, false_and, and_false, not_true_eq_false, not_false_eq_true, if_true, if_false, nr_20, nr_24, nr_40, nr_41, nr_44, pt_lt, pt_ge, pt_eq, pt_ne, pt_gt, pt_le, pt_E, pt_N, pt_F, ite_10, ite_11, ne_eq, and_self, or_self, decide_true, decide_false, Bool.not_true, Bool.not_false, Bool.false_eq_true, Nat.reduceEqDiff, Nat.reduceAdd, Int.reduceEq, Int.reduceLT, Int.reduceLE, Int.reduceNeg, Int.reduceAdd, Int.reduceSub, Int.reduceMul, reduceCtorEq, iA, iS, iM, iD, iR, iN, lA, lS, lM, lD, lR, h.k, l0, l2', wM_of (hmany _)]
    exact Int.lt_irrefl _
end CR
