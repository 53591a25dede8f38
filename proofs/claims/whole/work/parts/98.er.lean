/-! A ROW ENDED: the class's -/
def byV (v : QV) (t how : Int) : Int := if how = 0 then (if v t 1 = 0 then -2147483648 else w32 (w64 ((v t 0).tdiv (v t 1)))) else if how = 1 then v t 3 else if how = 2 then v t 4 else v t 5
def crV (v : QV) (t how per share : Int) : Int := if w32 (10 * w32 (per - v t 2)) ≤ w32 (share * per) then byV v t how else -2147483648
theorem byV_eq {v w : QV} {t how : Int} (h : ∀ k, w t k = v t k) : byV w t how = byV v t how := by
  unfold byV
  simp only [h]
theorem crV_eq {v w : QV} {t how per share : Int} (h : ∀ k, w t k = v t k) : crV w t how per share = crV v t how per share := by
  unfold crV
  rw [byV_eq h, h]
theorem crV_g {v : QV} {t how per share G : Int} {f : Int → Int} (hh : 0 ≤ how ∧ how ≤ 3) (hp : 1 ≤ per ∧ per ≤ 12) (hs : 0 ≤ share ∧ share ≤ 9) (h : HTt v t f G per) : crV v t how per share = gathF how per share G f := by
  obtain ⟨⟨h5, h5a, h6, hN⟩, ⟨h1, h1a, h1b⟩, ⟨h0, h0a, h0b⟩, hc⟩ := h
  have b1 := Int.mul_le_mul hs.2 hp.2 (by omega) (by omega)
  have b2 : 0 ≤ share * per := Int.mul_nonneg hs.1 (by omega)
  have b3 : share * per ≤ 9 * per := Int.mul_le_mul_of_nonneg_right hs.2 (by omega)
  unfold crV gathF
  generalize hy : share * per = y at *
  have i1 : w32 (per - v t 2) = per - v t 2 := w32_e (by omega)
  have i2 : w32 (10 * (per - v t 2)) = 10 * (per - v t 2) := by clear i1; exact w32_e (by omega)
  have i3 : w32 y = y := by clear i1 i2; exact w32_e (by omega)
  rw [i1, i2, i3]
  clear i1 i2 i3
  by_cases c : f (G + 5) = 0 ∨ y < 10 * f (G + 6)
  · rw [if_pos c, if_neg (by omega)]
  · rw [if_neg c, if_pos (by omega)]
    have c5 : ¬ v t 2 = 0 := by omega
    obtain ⟨⟨q2, q3, q4⟩, -⟩ := hc c5
    have n1 : ¬ v t 1 = 0 := by omega
    have d0 := Int.ediv_nonneg h0a (show 0 ≤ v t 1 by omega)
    have d1 := Int.ediv_le_of_le_mul (show 0 < v t 1 by omega) h0b
    have e0 : w32 (w64 ((v t 0).tdiv (v t 1))) = v t 0 / v t 1 := by
      rw [tdiv_n h0a]
      have i1 : w64 (v t 0 / v t 1) = v t 0 / v t 1 := w64_e (by omega)
      rw [i1]
      clear i1
      exact w32_e (by omega)
    unfold byV
    rw [if_neg n1, e0, h0, h1, q2, q3, q4]
section ER
variable {S : QS} {v w : QV} {b M P B s : Int} {f F : Int → Int}
theorem q_meanT {t : Int} (ht : S.1 t = 10) : mX9_mean [t] S v = some (if v t 1 = 0 then -2147483648 else w32 (w64 ((v t 0).tdiv (v t 1))), v) := by
  apply wM_eq
  by_cases c : v t 1 = 0 <;> simp only [mX9_mean, sX9_mean, wE_I, wE_V, wE_F, wE_A, wE_N, wE_1, wE_2, wE_D, wE_B, wE_If, wE_C, wE_CV, wE_SL, wE_SA, wA_0, wA_1, wC_B, wC_E, wC_And, wC_Or, wC_Not, wS_Skip, wS_Brk, wS_Cnt, wS_RetV, wS_Ret, wS_Seq, wS_Set, wS_Inc, wS_Do, wS_Put, wS_PutC, wS_Arr, wS_ArrC, wS_If, wS_Sw, wS_F0, wS_F1, wM_q, lu_ap, aL_ap, ct_0, ct_1, ct_2, ct_3, ct_4, ct_5, headD_1, List.mem_cons, List.not_mem_nil, or_false, false_or, or_true, true_or, true_and, and_true, false_and, and_false, not_true_eq_false, not_false_eq_true, if_true, if_false, nr_20, nr_24, nr_40, nr_41, nr_44, pt_lt, pt_ge, pt_eq, pt_ne, pt_gt, pt_le, pt_E, pt_N, pt_F, ite_10, ite_11, ne_eq, and_self, or_self, decide_true, decide_false, Bool.not_true, Bool.not_false, Bool.false_eq_true, Nat.reduceEqDiff, Nat.reduceAdd, Int.reduceEq, Int.reduceLT, Int.reduceLE, Int.reduceNeg, Int.reduceAdd, Int.reduceSub, Int.reduceMul, reduceCtorEq, iA, iS, iM, iD, iR, iN, lA, lS, lM, lD, lR, ht, c]
theorem q_by {t how : Int} (ht : S.1 t = 10) (hh : 0 ≤ how ∧ how ≤ 3) : mX9_by [t, how] S v = some (byV v t how, v) := by
  have : how = 0 ∨ how = 1 ∨ how = 2 ∨ how = 3 := by omega
  unfold byV
  apply wM_eq
  rcases this with rfl | rfl | rfl | rfl <;> simp only [mX9_by, sX9_by, wE_I, wE_V, wE_F, wE_A, wE_N, wE_1, wE_2, wE_D, wE_B, wE_If, wE_C, wE_CV, wE_SL, wE_SA, wA_0, wA_1, wC_B, wC_E, wC_And, wC_Or, wC_Not, wS_Skip, wS_Brk, wS_Cnt, wS_RetV, wS_Ret, wS_Seq, wS_Set, wS_Inc, wS_Do, wS_Put, wS_PutC, wS_Arr, wS_ArrC, wS_If, wS_Sw, wS_F0, wS_F1, wM_q, lu_ap, aL_ap, ct_0, ct_1, ct_2, ct_3, ct_4, ct_5, headD_1, List.mem_cons, List.not_mem_nil, or_false, false_or, or_true, true_or, true_and, and_true, false_and, and_false, not_true_eq_false, not_false_eq_true, if_true, if_false, nr_20, nr_24, nr_40, nr_41, nr_44, pt_lt, pt_ge, pt_eq, pt_ne, pt_gt, pt_le, pt_E, pt_N, pt_F, ite_10, ite_11, ne_eq, and_self, or_self, decide_true, decide_false, Bool.not_true, Bool.not_false, Bool.false_eq_true, Nat.reduceEqDiff, Nat.reduceAdd, Int.reduceEq, Int.reduceLT, Int.reduceLE, Int.reduceNeg, Int.reduceAdd, Int.reduceSub, Int.reduceMul, reduceCtorEq, iA, iS, iM, iD, iR, iN, lA, lS, lM, lD, lR, ht, wM_of (q_meanT ht)]
theorem c_clearParts {r : Int} (hR : LRi S v r) : wM mX7_clearParts [r] S v (fun _ w => (∀ m, 0 ≤ m → m < 4 → w (r + (3 + m)) 0 = 0 ∧ w (r + (3 + m)) 1 = 0 ∧ w (r + (3 + m)) 2 = 0) ∧ ∀ a k, a < r + 3 ∨ r + 7 ≤ a → w a k = v a k) := by
  simp only [mX7_clearParts, sX7_clearParts, wE_I, wE_V, wE_F, wE_A, wE_N, wE_1, wE_2, wE_D, wE_B, wE_If, wE_C, wE_CV, wE_SL, wE_SA, wA_0, wA_1, wC_B, wC_E, wC_And, wC_Or, wC_Not, wS_Skip, wS_Brk, wS_Cnt, wS_RetV, wS_Ret, wS_Seq, wS_Set, wS_Inc, wS_Do, wS_Put, wS_PutC, wS_Arr, wS_ArrC, wS_If, wS_Sw, wS_F0, wS_F1, wM_q, lu_ap, aL_ap, ct_0, ct_1, ct_2, ct_3, ct_4, ct_5, headD_1, List.mem_cons, List.not_mem_nil, or_false, false_or, or_true, true_or, true_and, and_true, false_and, and_false, not_true_eq_false, not_false_eq_true, if_true, if_false, nr_20, nr_24, nr_40, nr_41, nr_44, pt_lt, pt_ge, pt_eq, pt_ne, pt_gt, pt_le, pt_E, pt_N, pt_F, ite_10, ite_11, ne_eq, and_self, or_self, decide_true, decide_false, Bool.not_true, Bool.not_false, Bool.false_eq_true, Nat.reduceEqDiff, Nat.reduceAdd, Int.reduceEq, Int.reduceLT, Int.reduceLE, Int.reduceNeg, Int.reduceAdd, Int.reduceSub, Int.reduceMul, reduceCtorEq, iA, iS, iM, iD, iR, iN, lA, lS, lM, lD, lR]
  refine wS_For 4 (fun j L w => (L 0 = r ∧ L 1 = j) ∧ LRi S w r ∧ (∀ m, 0 ≤ m → m < (j : Int) → w (r + (3 + m)) 0 = 0 ∧ w (r + (3 + m)) 1 = 0 ∧ w (r + (3 + m)) 2 = 0) ∧ ∀ a k, a < r + 3 ∨ r + 7 ≤ a → w a k = v a k) (by decide) ?_ ?_ ?_
  · exact ⟨⟨by simp [lu_ap, aL_ap, ct_0, ct_1, ct_2], by simp [lu_ap, aL_ap, ct_0, ct_1, ct_2]⟩, hR, fun m m0 m1 => by omega, fun _ _ _ => rfl⟩
  · rintro j L w hj ⟨⟨m0, m1⟩, hRw, hc, hf⟩
    have hj4 : (j : Int) < 4 := by omega
    have hj0 : 0 ≤ (j : Int) := by omega
    have hjr : 0 ≤ (j : Int) ∧ (j : Int) < 4 := ⟨hj0, hj4⟩
    have ht := hRw.t j hj0 hj4
    have e1 : w32 ((j : Int) + 1) = j + 1 := w32_e (by omega)
    have hcl := q_clear (S := S) (v := w) ht
    have hk := (Kc.of kX9_clear hcl).p
    have e : ∀ k, vu (vu (vu (vu (vu (vu w (r + (3 + (j : Int))) 0 0) (r + (3 + (j : Int))) 1 0) (r + (3 + (j : Int))) 2 0) (r + (3 + (j : Int))) 3 (-2147483648)) (r + (3 + (j : Int))) 4 (-2147483648)) (r + (3 + (j : Int))) 5 (-2147483648) (r + (3 + (j : Int))) k = if k = 5 then -2147483648 else if k = 4 then -2147483648 else if k = 3 then -2147483648 else if k = 2 then 0 else if k = 1 then 0 else if k = 0 then 0 else w (r + (3 + (j : Int))) k := fun k => by
      simp only [vu_ap, true_and]
    have ef : ∀ a k, a ≠ r + (3 + (j : Int)) → vu (vu (vu (vu (vu (vu w (r + (3 + (j : Int))) 0 0) (r + (3 + (j : Int))) 1 0) (r + (3 + (j : Int))) 2 0) (r + (3 + (j : Int))) 3 (-2147483648)) (r + (3 + (j : Int))) 4 (-2147483648)) (r + (3 + (j : Int))) 5 (-2147483648) a k = w a k := fun a k ha => by
      rw [vu_ne (fun q => ha q.1), vu_ne (fun q => ha q.1), vu_ne (fun q => ha q.1), vu_ne (fun q => ha q.1), vu_ne (fun q => ha q.1), vu_ne (fun q => ha q.1)]
    simp only [cX7_clearParts_1, bX7_clearParts_1, uX7_clearParts_1, wE_I, wE_V, wE_F, wE_A, wE_N, wE_1, wE_2, wE_D, wE_B, wE_If, wE_C, wE_CV, wE_SL, wE_SA, wA_0, wA_1, wC_B, wC_E, wC_And, wC_Or, wC_Not, wS_Skip, wS_Brk, wS_Cnt, wS_RetV, wS_Ret, wS_Seq, wS_Set, wS_Inc, wS_Do, wS_Put, wS_PutC, wS_Arr, wS_ArrC, wS_If, wS_Sw, wS_F0, wS_F1, wM_q, lu_ap, aL_ap, ct_0, ct_1, ct_2, ct_3, ct_4, ct_5, headD_1, List.mem_cons, List.not_mem_nil, or_false, false_or, or_true, true_or, true_and, and_true, false_and, and_false, not_true_eq_false, not_false_eq_true, if_true, if_false, nr_20, nr_24, nr_40, nr_41, nr_44, pt_lt, pt_ge, pt_eq, pt_ne, pt_gt, pt_le, pt_E, pt_N, pt_F, ite_10, ite_11, ne_eq, and_self, or_self, decide_true, decide_false, Bool.not_true, Bool.not_false, Bool.false_eq_true, Nat.reduceEqDiff, Nat.reduceAdd, Int.reduceEq, Int.reduceLT, Int.reduceLE, Int.reduceNeg, Int.reduceAdd, Int.reduceSub, Int.reduceMul, reduceCtorEq, iA, iS, iM, iD, iR, iN, lA, lS, lM, lD, lR, m0, m1, hj4, hjr, hRw.k, hRw.p1, hRw.a2, hRw.n2, hRw.e j hj0 hj4, ht, wM_of hcl, e1]
    clear e1
    generalize vu (vu (vu (vu (vu (vu w (r + (3 + (j : Int))) 0 0) (r + (3 + (j : Int))) 1 0) (r + (3 + (j : Int))) 2 0) (r + (3 + (j : Int))) 3 (-2147483648)) (r + (3 + (j : Int))) 4 (-2147483648)) (r + (3 + (j : Int))) 5 (-2147483648) = w' at *
    refine ⟨rfl, hRw.keep hk, fun m q0 q1 => ?_, fun a k ha => ?_⟩
    · by_cases c : m = j
      · rw [c, e, e, e]; simp
      · rw [ef _ _ (by omega), ef _ _ (by omega), ef _ _ (by omega)]
        exact hc m q0 (by omega)
    · rw [ef _ _ (by omega)]
      exact hf a k ha
  · rintro L w ⟨⟨m0, m1⟩, hRw, hc, hf⟩
    have l2 : L 1 = 4 := by omega
    simp only [cX7_clearParts_1, wE_I, wE_V, wE_F, wE_A, wE_N, wE_1, wE_2, wE_D, wE_B, wE_If, wE_C, wE_CV, wE_SL, wE_SA, wA_0, wA_1, wC_B, wC_E, wC_And, wC_Or, wC_Not, wS_Skip, wS_Brk, wS_Cnt, wS_RetV, wS_Ret, wS_Seq, wS_Set, wS_Inc, wS_Do, wS_Put, wS_PutC, wS_Arr, wS_ArrC, wS_If, wS_Sw, wS_F0, wS_F1, wM_q, lu_ap, aL_ap, ct_0, ct_1, ct_2, ct_3, ct_4, ct_5, headD_1, List.mem_cons, List.not_mem_nil, or_false, false_or, or_true, true_or, true_and, and_true, false_and, and_false, not_true_eq_false, not_false_eq_true, if_true, if_false, nr_20, nr_24, nr_40, nr_41, nr_44, pt_lt, pt_ge, pt_eq, pt_ne, pt_gt, pt_le, pt_E, pt_N, pt_F, ite_10, ite_11, ne_eq, and_self, or_self, decide_true, decide_false, Bool.not_true, Bool.not_false, Bool.false_eq_true, Nat.reduceEqDiff, Nat.reduceAdd, Int.reduceEq, Int.reduceLT, Int.reduceLE, Int.reduceNeg, Int.reduceAdd, Int.reduceSub, Int.reduceMul, reduceCtorEq, iA, iS, iM, iD, iR, iN, lA, lS, lM, lD, lR, l2]
    exact ⟨hc, hf⟩
theorem c_endRow {r p D : Int} (hR : LRi S v r) (hp : S.1 p = 1) (hpr : p < r) (hD : 0 ≤ D ∧ D ≤ 200000) (hh : 0 ≤ v p 0 ∧ v p 0 ≤ 3) : wM mX7_endRow [r, p, D] S v (fun _ w => (∀ m, 0 ≤ m → m < 4 → w (r + 1) (D % 30 * 4 + m) = crV v (r + (3 + m)) (v p 0) (v p 1) (v p 3)) ∧ (∀ k, (k < D % 30 * 4 ∨ D % 30 * 4 + 4 ≤ k) → w (r + 1) k = v (r + 1) k) ∧ (∀ m, 0 ≤ m → m < 4 → w (r + (3 + m)) 0 = 0 ∧ w (r + (3 + m)) 1 = 0 ∧ w (r + (3 + m)) 2 = 0) ∧ ∀ a k, a ≠ r + 1 → a < r + 3 ∨ r + 7 ≤ a → w a k = v a k) := by
  have hn : ¬ D < 0 := by omega
  simp only [mX7_endRow, sX7_endRow, wM_q]
  generalize hL : aL 0 [2, 2, 0] [r, p, D] = L
  have m0 : L 0 = r := by rw [← hL]; simp [lu_ap, aL_ap, ct_0, ct_1, ct_2]
  have m1 : L 1 = p := by rw [← hL]; simp [lu_ap, aL_ap, ct_0, ct_1, ct_2]
  have m2 : L 2 = D := by rw [← hL]; simp [lu_ap, aL_ap, ct_0, ct_1, ct_2]
  clear hL
  refine ws_step (L' := L) (w := v) (by simp only [wE_I, wE_V, wE_F, wE_A, wE_N, wE_1, wE_2, wE_D, wE_B, wE_If, wE_C, wE_CV, wE_SL, wE_SA, wA_0, wA_1, wC_B, wC_E, wC_And, wC_Or, wC_Not, wS_Skip, wS_Brk, wS_Cnt, wS_RetV, wS_Ret, wS_Seq, wS_Set, wS_Inc, wS_Do, wS_Put, wS_PutC, wS_Arr, wS_ArrC, wS_If, wS_Sw, wS_F0, wS_F1, wM_q, lu_ap, aL_ap, ct_0, ct_1, ct_2, ct_3, ct_4, ct_5, headD_1, List.mem_cons, List.not_mem_nil, or_false, false_or, or_true, true_or, true_and, and_true, false_and, and_false, not_true_eq_false, not_false_eq_true, if_true, if_false, nr_20, nr_24, nr_40, nr_41, nr_44, pt_lt, pt_ge, pt_eq, pt_ne, pt_gt, pt_le, pt_E, pt_N, pt_F, ite_10, ite_11, ne_eq, and_self, or_self, decide_true, decide_false, Bool.not_true, Bool.not_false, Bool.false_eq_true, Nat.reduceEqDiff, Nat.reduceAdd, Int.reduceEq, Int.reduceLT, Int.reduceLE, Int.reduceNeg, Int.reduceAdd, Int.reduceSub, Int.reduceMul, reduceCtorEq, iA, iS, iM, iD, iR, iN, lA, lS, lM, lD, lR, m2, hn]) ?_
  rw [wS_Seq]
  refine wS_mono (Q' := fun k _ L' w => k = 0 ∧ L' 0 = r ∧ LRi S w r ∧ (∀ m, 0 ≤ m → m < 4 → w (r + 1) (D % 30 * 4 + m) = crV v (r + (3 + m)) (v p 0) (v p 1) (v p 3)) ∧ (∀ k, (k < D % 30 * 4 ∨ D % 30 * 4 + 4 ≤ k) → w (r + 1) k = v (r + 1) k) ∧ ∀ a k, a ≠ r + 1 → w a k = v a k) ?_ ?_
  · simp only [wE_I, wE_V, wE_F, wE_A, wE_N, wE_1, wE_2, wE_D, wE_B, wE_If, wE_C, wE_CV, wE_SL, wE_SA, wA_0, wA_1, wC_B, wC_E, wC_And, wC_Or, wC_Not, wS_Skip, wS_Brk, wS_Cnt, wS_RetV, wS_Ret, wS_Seq, wS_Set, wS_Inc, wS_Do, wS_Put, wS_PutC, wS_Arr, wS_ArrC, wS_If, wS_Sw, wS_F0, wS_F1, wM_q, lu_ap, aL_ap, ct_0, ct_1, ct_2, ct_3, ct_4, ct_5, headD_1, List.mem_cons, List.not_mem_nil, or_false, false_or, or_true, true_or, true_and, and_true, false_and, and_false, not_true_eq_false, not_false_eq_true, if_true, if_false, nr_20, nr_24, nr_40, nr_41, nr_44, pt_lt, pt_ge, pt_eq, pt_ne, pt_gt, pt_le, pt_E, pt_N, pt_F, ite_10, ite_11, ne_eq, and_self, or_self, decide_true, decide_false, Bool.not_true, Bool.not_false, Bool.false_eq_true, Nat.reduceEqDiff, Nat.reduceAdd, Int.reduceEq, Int.reduceLT, Int.reduceLE, Int.reduceNeg, Int.reduceAdd, Int.reduceSub, Int.reduceMul, reduceCtorEq, iA, iS, iM, iD, iR, iN, lA, lS, lM, lD, lR]
    refine wS_For 4 (fun j L w => (L 0 = r ∧ L 1 = p ∧ L 2 = D ∧ L 3 = j) ∧ LRi S w r ∧ (∀ m, 0 ≤ m → m < (j : Int) → w (r + 1) (D % 30 * 4 + m) = crV v (r + (3 + m)) (v p 0) (v p 1) (v p 3)) ∧ (∀ k, (k < D % 30 * 4 ∨ D % 30 * 4 + 4 ≤ k) → w (r + 1) k = v (r + 1) k) ∧ ∀ a k, a ≠ r + 1 → w a k = v a k) (by decide) ?_ ?_ ?_
    · exact ⟨⟨by simp [lu_ap, m0], by simp [lu_ap, m1], by simp [lu_ap, m2], by simp [lu_ap]⟩, hR, fun m q0 q1 => by omega, fun _ _ => rfl, fun _ _ _ => rfl⟩
    · rintro j L' w hj ⟨⟨l0, l1, l2, l3⟩, hRw, hc, ho, hf⟩
      have hj4 : (j : Int) < 4 := by omega
      have hj0 : 0 ≤ (j : Int) := by omega
      have hjr : 0 ≤ (j : Int) ∧ (j : Int) < 4 := ⟨hj0, hj4⟩
      have ht := hRw.t j hj0 hj4
      have e1 : w32 ((j : Int) + 1) = j + 1 := w32_e (by omega)
      have e2 : w32 (D % 30) = D % 30 := by clear e1; exact w32_e (by omega)
      have e3 : w32 (D % 30 * 4) = D % 30 * 4 := by clear e1 e2; exact w32_e (by omega)
      have e4 : w32 (D % 30 * 4 + j) = D % 30 * 4 + j := by clear e1 e2 e3; exact w32_e (by omega)
      have o4 : 0 ≤ D % 30 * 4 + (j : Int) ∧ D % 30 * 4 + (j : Int) < 120 := by clear e1 e2 e3 e4; omega
      have wp : ∀ k, w p k = v p k := fun k => hf p k (by clear e1 e2 e3 e4; omega)
      have hby := q_by (S := S) (v := w) (how := v p 0) ht hh
      have hcr : crV w (r + (3 + (j : Int))) (v p 0) (v p 1) (v p 3) = crV v (r + (3 + (j : Int))) (v p 0) (v p 1) (v p 3) := crV_eq (fun k => hf _ k (by clear e1 e2 e3 e4; omega))
      have hk : Kp S w (vu w (r + 1) (D % 30 * 4 + j) (crV v (r + (3 + (j : Int))) (v p 0) (v p 1) (v p 3))) := Kp.vuc Kp.rf (by rw [hRw.a1]; rfl)
      have fin : ∀ x, x = crV v (r + (3 + (j : Int))) (v p 0) (v p 1) (v p 3) → LRi S (vu w (r + 1) (D % 30 * 4 + j) x) r ∧ (∀ m, 0 ≤ m → m < ((j + 1 : Nat) : Int) → vu w (r + 1) (D % 30 * 4 + j) x (r + 1) (D % 30 * 4 + m) = crV v (r + (3 + m)) (v p 0) (v p 1) (v p 3)) ∧ (∀ k, (k < D % 30 * 4 ∨ D % 30 * 4 + 4 ≤ k) → vu w (r + 1) (D % 30 * 4 + j) x (r + 1) k = v (r + 1) k) ∧ ∀ a k, a ≠ r + 1 → vu w (r + 1) (D % 30 * 4 + j) x a k = v a k := by
        clear e1 e2 e3 e4
        rintro x rfl
        refine ⟨hRw.keep hk, fun m q0 q1 => ?_, fun k hk2 => ?_, fun a k ha => ?_⟩
        · by_cases c : m = j
          · rw [c, vu_is]
          · rw [vu_ne (by omega)]; exact hc m q0 (by omega)
        · rw [vu_ne (by omega)]; exact ho k hk2
        · rw [vu_ne (fun q => ha q.1)]; exact hf a k ha
      unfold crV at hcr fin
      by_cases c : w32 (10 * w32 (v p 1 - w (r + (3 + (j : Int))) 2)) ≤ w32 (v p 3 * v p 1)
      · rw [if_pos c] at hcr
        simp only [cX7_endRow_1, bX7_endRow_1, uX7_endRow_1, wE_I, wE_V, wE_F, wE_A, wE_N, wE_1, wE_2, wE_D, wE_B, wE_If, wE_C, wE_CV, wE_SL, wE_SA, wA_0, wA_1, wC_B, wC_E, wC_And, wC_Or, wC_Not, wS_Skip, wS_Brk, wS_Cnt, wS_RetV, wS_Ret, wS_Seq, wS_Set, wS_Inc, wS_Do, wS_Put, wS_PutC, wS_Arr, wS_ArrC, wS_If, wS_Sw, wS_F0, wS_F1, wM_q, lu_ap, aL_ap, ct_0, ct_1, ct_2, ct_3, ct_4, ct_5, headD_1, List.mem_cons, List.not_mem_nil, or_false, false_or, or_true, true_or, true_and, and_true, false_and, and_false, not_true_eq_false, not_false_eq_true, if_true, if_false, nr_20, nr_24, nr_40, nr_41, nr_44, pt_lt, pt_ge, pt_eq, pt_ne, pt_gt, pt_le, pt_E, pt_N, pt_F, ite_10, ite_11, ne_eq, and_self, or_self, decide_true, decide_false, Bool.not_true, Bool.not_false, Bool.false_eq_true, Nat.reduceEqDiff, Nat.reduceAdd, Int.reduceEq, Int.reduceLT, Int.reduceLE, Int.reduceNeg, Int.reduceAdd, Int.reduceSub, Int.reduceMul, reduceCtorEq, iA, iS, iM, iD, iR, iN, lA, lS, lM, lD, lR, l0, l1, l2, l3, hj4, hjr, hp, wp, hRw.k, hRw.p0, hRw.p1, hRw.a1, hRw.n1, hRw.a2, hRw.n2, hRw.e j hj0 hj4, ht, tmod_n hD.1, e1, e2, e3, e4, o4, c, wM_of hby]
        exact ⟨rfl, fin _ hcr⟩
      · rw [if_neg c] at hcr
        simp only [cX7_endRow_1, bX7_endRow_1, uX7_endRow_1, wE_I, wE_V, wE_F, wE_A, wE_N, wE_1, wE_2, wE_D, wE_B, wE_If, wE_C, wE_CV, wE_SL, wE_SA, wA_0, wA_1, wC_B, wC_E, wC_And, wC_Or, wC_Not, wS_Skip, wS_Brk, wS_Cnt, wS_RetV, wS_Ret, wS_Seq, wS_Set, wS_Inc, wS_Do, wS_Put, wS_PutC, wS_Arr, wS_ArrC, wS_If, wS_Sw, wS_F0, wS_F1, wM_q, lu_ap, aL_ap, ct_0, ct_1, ct_2, ct_3, ct_4, ct_5, headD_1, List.mem_cons, List.not_mem_nil, or_false, false_or, or_true, true_or, true_and, and_true, false_and, and_false, not_true_eq_false, not_false_eq_true, if_true, if_false, nr_20, nr_24, nr_40, nr_41, nr_44, pt_lt, pt_ge, pt_eq, pt_ne, pt_gt, pt_le, pt_E, pt_N, pt_F, ite_10, ite_11, ne_eq, and_self, or_self, decide_true, decide_false, Bool.not_true, Bool.not_false, Bool.false_eq_true, Nat.reduceEqDiff, Nat.reduceAdd, Int.reduceEq, Int.reduceLT, Int.reduceLE, Int.reduceNeg, Int.reduceAdd, Int.reduceSub, Int.reduceMul, reduceCtorEq, iA, iS, iM, iD, iR, iN, lA, lS, lM, lD, lR, l0, l1, l2, l3, hj4, hjr, hp, wp, hRw.k, hRw.p0, hRw.p1, hRw.a1, hRw.n1, hRw.a2, hRw.n2, hRw.e j hj0 hj4, ht, tmod_n hD.1, e1, e2, e3, e4, o4, c]
        exact ⟨rfl, fin _ hcr⟩
    · rintro L' w ⟨⟨l0, l1, l2, l3⟩, hRw, hc, ho, hf⟩
      have l4 : L' 3 = 4 := by omega
      simp only [cX7_endRow_1, wE_I, wE_V, wE_F, wE_A, wE_N, wE_1, wE_2, wE_D, wE_B, wE_If, wE_C, wE_CV, wE_SL, wE_SA, wA_0, wA_1, wC_B, wC_E, wC_And, wC_Or, wC_Not, wS_Skip, wS_Brk, wS_Cnt, wS_RetV, wS_Ret, wS_Seq, wS_Set, wS_Inc, wS_Do, wS_Put, wS_PutC, wS_Arr, wS_ArrC, wS_If, wS_Sw, wS_F0, wS_F1, wM_q, lu_ap, aL_ap, ct_0, ct_1, ct_2, ct_3, ct_4, ct_5, headD_1, List.mem_cons, List.not_mem_nil, or_false, false_or, or_true, true_or, true_and, and_true, false_and, and_false, not_true_eq_false, not_false_eq_true, if_true, if_false, nr_20, nr_24, nr_40, nr_41, nr_44, pt_lt, pt_ge, pt_eq, pt_ne, pt_gt, pt_le, pt_E, pt_N, pt_F, ite_10, ite_11, ne_eq, and_self, or_self, decide_true, decide_false, Bool.not_true, Bool.not_false, Bool.false_eq_true, Nat.reduceEqDiff, Nat.reduceAdd, Int.reduceEq, Int.reduceLT, Int.reduceLE, Int.reduceNeg, Int.reduceAdd, Int.reduceSub, Int.reduceMul, reduceCtorEq, iA, iS, iM, iD, iR, iN, lA, lS, lM, lD, lR, l4]
      exact ⟨l0, hRw, hc, ho, hf⟩
  · rintro k z L' w ⟨rfl, l0, hRw, hc, ho, hf⟩
    rw [if_pos rfl]
    simp only [wE_I, wE_V, wE_F, wE_A, wE_N, wE_1, wE_2, wE_D, wE_B, wE_If, wE_C, wE_CV, wE_SL, wE_SA, wA_0, wA_1, wC_B, wC_E, wC_And, wC_Or, wC_Not, wS_Skip, wS_Brk, wS_Cnt, wS_RetV, wS_Ret, wS_Seq, wS_Set, wS_Inc, wS_Do, wS_Put, wS_PutC, wS_Arr, wS_ArrC, wS_If, wS_Sw, wS_F0, wS_F1, wM_q, lu_ap, aL_ap, ct_0, ct_1, ct_2, ct_3, ct_4, ct_5, headD_1, List.mem_cons, List.not_mem_nil, or_false, false_or, or_true, true_or, true_and, and_true, false_and, and_false, not_true_eq_false, not_false_eq_true, if_true, if_false, nr_20, nr_24, nr_40, nr_41, nr_44, pt_lt, pt_ge, pt_eq, pt_ne, pt_gt, pt_le, pt_E, pt_N, pt_F, ite_10, ite_11, ne_eq, and_self, or_self, decide_true, decide_false, Bool.not_true, Bool.not_false, Bool.false_eq_true, Nat.reduceEqDiff, Nat.reduceAdd, Int.reduceEq, Int.reduceLT, Int.reduceLE, Int.reduceNeg, Int.reduceAdd, Int.reduceSub, Int.reduceMul, reduceCtorEq, iA, iS, iM, iD, iR, iN, lA, lS, lM, lD, lR, l0, hRw.k]
    refine wM_mono (c_clearParts hRw) ?_
    rintro r' w' e ⟨h1, h2⟩
    exact ⟨fun m q0 q1 => by rw [h2 _ _ (by omega)]; exact hc m q0 q1, fun k hk => by rw [h2 _ _ (by omega)]; exact ho k hk, h1, fun a k ha hb => by rw [h2 _ _ hb]; exact hf a k ha⟩
end ER
