/-! FEED: both held together -/
/-- byte j of four (0 the highest) -/
def by4 (x j : Int) : Int := x / 2 ^ (24 - 8 * j).toNat % 256
theorem and_255 (n : Nat) : n &&& 255 = n % 256 := by
  have := Nat.and_two_pow_sub_one_eq_mod n 8
  simpa using this
theorem and_3 (n : Nat) : n &&& 3 = n % 4 := by
  have := Nat.and_two_pow_sub_one_eq_mod n 2
  simpa using this
theorem iAn_255 {x : Int} (h : -2147483648 ≤ x ∧ x ≤ 2147483647) : iAn x 255 = x % 256 := by
  unfold iAn
  have e : ((255 : Int) % 4294967296).toNat = 255 := by decide
  rw [e, and_255]
  rw [w32_e (by omega)]
  omega
theorem iAn_3 {x : Int} (h : 0 ≤ x ∧ x ≤ 2147483647) : iAn x 3 = x % 4 := by
  unfold iAn
  have e : ((3 : Int) % 4294967296).toNat = 3 := by decide
  rw [e, and_3]
  rw [w32_e (by omega)]
  omega
theorem iUs_b (x y : Int) : -2147483648 ≤ iUs x y ∧ iUs x y ≤ 2147483647 := by
  have := w32_ir (x % 4294967296 / 2 ^ (y % 32).toNat)
  have h : _ ∧ _ := this
  unfold iUs
  omega
theorem w32_256 (x : Int) : w32 x % 256 = x % 256 := by unfold w32; omega
theorem ch_by {x j : Int} (hj : 0 ≤ j ∧ j ≤ 3) : i2c (iAn (iUs x (24 - 8 * j)) 255) % 65536 = by4 x j := by
  rw [iAn_255 (iUs_b _ _)]
  have : j = 0 ∨ j = 1 ∨ j = 2 ∨ j = 3 := by omega
  unfold i2c iUs by4
  rw [w32_256]
  rcases this with rfl | rfl | rfl | rfl
  · have e : (2 : Int) ^ ((24 - 8 * 0 : Int) % 32).toNat = 16777216 := by decide
    have e' : (2 : Int) ^ (24 - 8 * 0 : Int).toNat = 16777216 := by decide
    rw [e, e']; omega
  · have e : (2 : Int) ^ ((24 - 8 * 1 : Int) % 32).toNat = 65536 := by decide
    have e' : (2 : Int) ^ (24 - 8 * 1 : Int).toNat = 65536 := by decide
    rw [e, e']; omega
  · have e : (2 : Int) ^ ((24 - 8 * 2 : Int) % 32).toNat = 256 := by decide
    have e' : (2 : Int) ^ (24 - 8 * 2 : Int).toNat = 256 := by decide
    rw [e, e']; omega
  · have e : (2 : Int) ^ ((24 - 8 * 3 : Int) % 32).toNat = 1 := by decide
    have e' : (2 : Int) ^ (24 - 8 * 3 : Int).toNat = 1 := by decide
    rw [e, e']; omega
theorem bt_by {x j : Int} (hj : 0 ≤ j ∧ j ≤ 3) : w8 (w8 (iSr x (24 - 8 * j))) % 256 = by4 x j ∧ -128 ≤ w8 (w8 (iSr x (24 - 8 * j))) ∧ w8 (w8 (iSr x (24 - 8 * j))) < 128 := by
  have : j = 0 ∨ j = 1 ∨ j = 2 ∨ j = 3 := by omega
  unfold by4 iSr w8
  rcases this with rfl | rfl | rfl | rfl
  · have e : (2 : Int) ^ ((24 - 8 * 0 : Int) % 32).toNat = 16777216 := by decide
    have e' : (2 : Int) ^ (24 - 8 * 0 : Int).toNat = 16777216 := by decide
    rw [e, e']; omega
  · have e : (2 : Int) ^ ((24 - 8 * 1 : Int) % 32).toNat = 65536 := by decide
    have e' : (2 : Int) ^ (24 - 8 * 1 : Int).toNat = 65536 := by decide
    rw [e, e']; omega
  · have e : (2 : Int) ^ ((24 - 8 * 2 : Int) % 32).toNat = 256 := by decide
    have e' : (2 : Int) ^ (24 - 8 * 2 : Int).toNat = 256 := by decide
    rw [e, e']; omega
  · have e : (2 : Int) ^ ((24 - 8 * 3 : Int) % 32).toNat = 1 := by decide
    have e' : (2 : Int) ^ (24 - 8 * 3 : Int).toNat = 1 := by decide
    rw [e, e']; omega
section FD
variable {S : QS} {v w : QV} {b M P B s : Int}
theorem c_put4 {T x n : Int} (hT : LTp S v T) (hn : v T 1 = n) (hb : 0 ≤ n ∧ n ≤ 996) : wM mX10_put [T, x] S v (fun _ w => w T 1 = n + 4 ∧ (∀ j, 0 ≤ j → j < 4 → w (T + 1) (n + j) = by4 x j) ∧ (∀ k, k < n ∨ n + 4 ≤ k → w (T + 1) k = v (T + 1) k) ∧ ∀ a k, (a = T → k ≠ 1) → a ≠ T + 1 → w a k = v a k) := by
  simp only [mX10_put, sX10_put, wE_I, wE_V, wE_F, wE_A, wE_N, wE_1, wE_2, wE_D, wE_B, wE_If, wE_C, wE_CV, wE_SL, wE_SA, wA_0, wA_1, wC_B, wC_E, wC_And, wC_Or, wC_Not, wS_Skip, wS_Brk, wS_Cnt, wS_RetV, wS_Ret, wS_Seq, wS_Set, wS_Inc, wS_Do, wS_Put, wS_PutC, wS_Arr, wS_ArrC, wS_If, wS_Sw, wS_F0, wS_F1, wM_q, lu_ap, aL_ap, ct_0, ct_1, ct_2, ct_3, ct_4, ct_5, headD_1, List.mem_cons, List.not_mem_nil, or_false, false_or, or_true, true_or, true_and, and_true, false_and, and_false, not_true_eq_false, not_false_eq_true, if_true, if_false, nr_20, nr_24, nr_40, nr_41, nr_44, pt_lt, pt_ge, pt_eq, pt_ne, pt_gt, pt_le, pt_E, pt_N, pt_F, ite_10, ite_11, ne_eq, and_self, or_self, decide_true, decide_false, Bool.not_true, Bool.not_false, Bool.false_eq_true, Nat.reduceEqDiff, Nat.reduceAdd, Int.reduceEq, Int.reduceLT, Int.reduceLE, Int.reduceNeg, Int.reduceAdd, Int.reduceSub, Int.reduceMul, reduceCtorEq, iA, iS, iM, iD, iR, iN, lA, lS, lM, lD, lR]
  refine wS_For 4 (fun j L w => (L 0 = T ∧ L 1 = x ∧ L 2 = 24 - 8 * j) ∧ w T 1 = n + j ∧ (∀ i : Int, 0 ≤ i → i < j → w (T + 1) (n + i) = by4 x i) ∧ (∀ k, k < n ∨ n + j ≤ k → w (T + 1) k = v (T + 1) k) ∧ (∀ a k, (a = T → k ≠ 1) → a ≠ T + 1 → w a k = v a k) ∧ Kp S v w) (by decide) ?_ ?_ ?_
  · refine ⟨by simp [lu_ap, aL_ap, ct_0, ct_2], by rw [hn]; simp, fun i i0 i1 => by omega, fun _ _ => rfl, fun _ _ _ _ => rfl, Kp.rf⟩
  · rintro j L w hj ⟨⟨m0, m1, m2⟩, h1, h2, h3, h4, hk⟩
    have hw := hT.keep hk
    have q1 : 0 ≤ 24 - 8 * (j : Int) := by omega
    have q2 : n + (j : Int) < 1000 := by omega
    have q3 : 0 ≤ n + (j : Int) := by omega
    have q4 : 20 ≤ S.1 (T + 1) := by rw [hw.a1]; decide
    have e1 : w32 (n + (j : Int) + 1) = n + ((j + 1 : Nat) : Int) := by rw [w32_e (by omega)]; omega
    have e2 : w32 (24 - 8 * (j : Int) + -8) = 24 - 8 * ((j + 1 : Nat) : Int) := by clear e1; rw [w32_e (by omega)]; omega
    have n1 : ¬ T = T + 1 := by clear e1 e2; omega
    have hch := ch_by (x := x) (j := j) (by clear e1 e2; omega)
    simp only [cX10_put_1, bX10_put_1, uX10_put_1, wE_I, wE_V, wE_F, wE_A, wE_N, wE_1, wE_2, wE_D, wE_B, wE_If, wE_C, wE_CV, wE_SL, wE_SA, wA_0, wA_1, wC_B, wC_E, wC_And, wC_Or, wC_Not, wS_Skip, wS_Brk, wS_Cnt, wS_RetV, wS_Ret, wS_Seq, wS_Set, wS_Inc, wS_Do, wS_Put, wS_PutC, wS_Arr, wS_ArrC, wS_If, wS_Sw, wS_F0, wS_F1, wM_q, lu_ap, aL_ap, ct_0, ct_1, ct_2, ct_3, ct_4, ct_5, headD_1, List.mem_cons, List.not_mem_nil, or_false, false_or, or_true, true_or, true_and, and_true, false_and, and_false, not_true_eq_false, not_false_eq_true, if_true, if_false, nr_20, nr_24, nr_40, nr_41, nr_44, pt_lt, pt_ge, pt_eq, pt_ne, pt_gt, pt_le, pt_E, pt_N, pt_F, ite_10, ite_11, ne_eq, and_self, or_self, decide_true, decide_false, Bool.not_true, Bool.not_false, Bool.false_eq_true, Nat.reduceEqDiff, Nat.reduceAdd, Int.reduceEq, Int.reduceLT, Int.reduceLE, Int.reduceNeg, Int.reduceAdd, Int.reduceSub, Int.reduceMul, reduceCtorEq, iA, iS, iM, iD, iR, iN, lA, lS, lM, lD, lR, m0, m1, m2, q1, q2, q3, q4, hw.k, hw.p0, hw.a1, hw.n1, h1, n1, vu_ne, e1, e2, nr_23, hch, Nat.reduceLeDiff]
    clear e1 e2
    refine ⟨vu_is, fun i i0 i1 => ?_, fun k hk2 => ?_, fun a k ha hb2 => ?_, ?_⟩
    · rw [vu_ne (by omega), vu_ap]
      by_cases e : i = j
      · rw [if_pos ⟨rfl, by omega⟩, e]
      · rw [if_neg (fun z => e (by omega))]
        exact h2 i i0 (by omega)
    · rw [vu_ne (by omega), vu_ne (by omega)]
      exact h3 k (by omega)
    · rw [vu_ne (fun z => ha z.1 z.2), vu_ne (fun z => hb2 z.1)]
      exact h4 a k ha hb2
    · exact (hk.vuc (by rw [hw.a1]; rfl)).vuc (by rw [hw.k]; rfl)
  · rintro L w ⟨⟨m0, m1, m2⟩, h1, h2, h3, h4, hk⟩
    simp only [cX10_put_1, wE_I, wE_V, wE_F, wE_A, wE_N, wE_1, wE_2, wE_D, wE_B, wE_If, wE_C, wE_CV, wE_SL, wE_SA, wA_0, wA_1, wC_B, wC_E, wC_And, wC_Or, wC_Not, wS_Skip, wS_Brk, wS_Cnt, wS_RetV, wS_Ret, wS_Seq, wS_Set, wS_Inc, wS_Do, wS_Put, wS_PutC, wS_Arr, wS_ArrC, wS_If, wS_Sw, wS_F0, wS_F1, wM_q, lu_ap, aL_ap, ct_0, ct_1, ct_2, ct_3, ct_4, ct_5, headD_1, List.mem_cons, List.not_mem_nil, or_false, false_or, or_true, true_or, true_and, and_true, false_and, and_false, not_true_eq_false, not_false_eq_true, if_true, if_false, nr_20, nr_24, nr_40, nr_41, nr_44, pt_lt, pt_ge, pt_eq, pt_ne, pt_gt, pt_le, pt_E, pt_N, pt_F, ite_10, ite_11, ne_eq, and_self, or_self, decide_true, decide_false, Bool.not_true, Bool.not_false, Bool.false_eq_true, Nat.reduceEqDiff, Nat.reduceAdd, Int.reduceEq, Int.reduceLT, Int.reduceLE, Int.reduceNeg, Int.reduceAdd, Int.reduceSub, Int.reduceMul, reduceCtorEq, iA, iS, iM, iD, iR, iN, lA, lS, lM, lD, lR, m2]
    refine ⟨by decide, h1, fun j j0 j1 => h2 j j0 (by omega), fun k hk2 => h3 k (by omega), h4⟩
/-- number j of five, byte k of it -/
def five (x1 x2 x3 x4 x5 j : Int) : Int := if j < 4 then x1 else if j < 8 then x2 else if j < 12 then x3 else if j < 16 then x4 else x5
theorem c_feed (h : LCl S v b) {x1 x2 x3 x4 x5 n : Int} (hn : v (b + 1) 1 = n) (hb : 0 ≤ n ∧ n ≤ 980) : wM mX11_feed [b, x1, x2, x3, x4, x5] S v (fun r w => r = n + 20 ∧ w (b + 1) 1 = n + 20 ∧ (∀ j, 0 ≤ j → j < 20 → w (b + 2) (n + j) = by4 (five x1 x2 x3 x4 x5 j) (j % 4)) ∧ (∀ k, k < n ∨ n + 20 ≤ k → w (b + 2) k = v (b + 2) k) ∧ ∀ a k, (a = b + 1 → k ≠ 1) → a ≠ b + 2 → w a k = v a k) := by
  have e1 : w32 (n + 20) = n + 20 := w32_e (by omega)
  have e2 : ¬ 1000 < n + 20 := by clear e1; omega
  have eb : b + 1 + 1 = b + 2 := by clear e1; omega
  simp only [mX11_feed, sX11_feed, wE_I, wE_V, wE_F, wE_A, wE_N, wE_1, wE_2, wE_D, wE_B, wE_If, wE_C, wE_CV, wE_SL, wE_SA, wA_0, wA_1, wC_B, wC_E, wC_And, wC_Or, wC_Not, wS_Skip, wS_Brk, wS_Cnt, wS_RetV, wS_Ret, wS_Seq, wS_Set, wS_Inc, wS_Do, wS_Put, wS_PutC, wS_Arr, wS_ArrC, wS_If, wS_Sw, wS_F0, wS_F1, wM_q, lu_ap, aL_ap, ct_0, ct_1, ct_2, ct_3, ct_4, ct_5, headD_1, List.mem_cons, List.not_mem_nil, or_false, false_or, or_true, true_or, true_and, and_true, false_and, and_false, not_true_eq_false, not_false_eq_true, if_true, if_false, nr_20, nr_24, nr_40, nr_41, nr_44, pt_lt, pt_ge, pt_eq, pt_ne, pt_gt, pt_le, pt_E, pt_N, pt_F, ite_10, ite_11, ne_eq, and_self, or_self, decide_true, decide_false, Bool.not_true, Bool.not_false, Bool.false_eq_true, Nat.reduceEqDiff, Nat.reduceAdd, Int.reduceEq, Int.reduceLT, Int.reduceLE, Int.reduceNeg, Int.reduceAdd, Int.reduceSub, Int.reduceMul, reduceCtorEq, iA, iS, iM, iD, iR, iN, lA, lS, lM, lD, lR, h.k, h.p0, h.t.k, hn, e1, e2]
  clear e1
  refine wM_mono (c_put4 h.t hn (by omega)) ?_
  rintro r1 w1 g1 ⟨a1, a2, a3, a4⟩
  have k1 := (Kc.of kX10_put g1).p
  have h1 := h.keep k1
  simp only [h1.k, h1.p0, h1.t.k, wE_I, wE_V, wE_F, wE_A, wE_N, wE_1, wE_2, wE_D, wE_B, wE_If, wE_C, wE_CV, wE_SL, wE_SA, wA_0, wA_1, wC_B, wC_E, wC_And, wC_Or, wC_Not, wS_Skip, wS_Brk, wS_Cnt, wS_RetV, wS_Ret, wS_Seq, wS_Set, wS_Inc, wS_Do, wS_Put, wS_PutC, wS_Arr, wS_ArrC, wS_If, wS_Sw, wS_F0, wS_F1, wM_q, lu_ap, aL_ap, ct_0, ct_1, ct_2, ct_3, ct_4, ct_5, headD_1, List.mem_cons, List.not_mem_nil, or_false, false_or, or_true, true_or, true_and, and_true, false_and, and_false, not_true_eq_false, not_false_eq_true, if_true, if_false, nr_20, nr_24, nr_40, nr_41, nr_44, pt_lt, pt_ge, pt_eq, pt_ne, pt_gt, pt_le, pt_E, pt_N, pt_F, ite_10, ite_11, ne_eq, and_self, or_self, decide_true, decide_false, Bool.not_true, Bool.not_false, Bool.false_eq_true, Nat.reduceEqDiff, Nat.reduceAdd, Int.reduceEq, Int.reduceLT, Int.reduceLE, Int.reduceNeg, Int.reduceAdd, Int.reduceSub, Int.reduceMul, reduceCtorEq]
  refine wM_mono (c_put4 h1.t a1 (by omega)) ?_
  rintro r2 w2 g2 ⟨b1, b2, b3, b4⟩
  have k2 := k1.tr (Kc.of kX10_put g2).p
  have h2 := h.keep k2
  simp only [h2.k, h2.p0, h2.t.k, wE_I, wE_V, wE_F, wE_A, wE_N, wE_1, wE_2, wE_D, wE_B, wE_If, wE_C, wE_CV, wE_SL, wE_SA, wA_0, wA_1, wC_B, wC_E, wC_And, wC_Or, wC_Not, wS_Skip, wS_Brk, wS_Cnt, wS_RetV, wS_Ret, wS_Seq, wS_Set, wS_Inc, wS_Do, wS_Put, wS_PutC, wS_Arr, wS_ArrC, wS_If, wS_Sw, wS_F0, wS_F1, wM_q, lu_ap, aL_ap, ct_0, ct_1, ct_2, ct_3, ct_4, ct_5, headD_1, List.mem_cons, List.not_mem_nil, or_false, false_or, or_true, true_or, true_and, and_true, false_and, and_false, not_true_eq_false, not_false_eq_true, if_true, if_false, nr_20, nr_24, nr_40, nr_41, nr_44, pt_lt, pt_ge, pt_eq, pt_ne, pt_gt, pt_le, pt_E, pt_N, pt_F, ite_10, ite_11, ne_eq, and_self, or_self, decide_true, decide_false, Bool.not_true, Bool.not_false, Bool.false_eq_true, Nat.reduceEqDiff, Nat.reduceAdd, Int.reduceEq, Int.reduceLT, Int.reduceLE, Int.reduceNeg, Int.reduceAdd, Int.reduceSub, Int.reduceMul, reduceCtorEq]
  refine wM_mono (c_put4 h2.t b1 (by omega)) ?_
  rintro r3 w3 g3 ⟨c1, c2, c3, c4⟩
  have k3 := k2.tr (Kc.of kX10_put g3).p
  have h3 := h.keep k3
  simp only [h3.k, h3.p0, h3.t.k, wE_I, wE_V, wE_F, wE_A, wE_N, wE_1, wE_2, wE_D, wE_B, wE_If, wE_C, wE_CV, wE_SL, wE_SA, wA_0, wA_1, wC_B, wC_E, wC_And, wC_Or, wC_Not, wS_Skip, wS_Brk, wS_Cnt, wS_RetV, wS_Ret, wS_Seq, wS_Set, wS_Inc, wS_Do, wS_Put, wS_PutC, wS_Arr, wS_ArrC, wS_If, wS_Sw, wS_F0, wS_F1, wM_q, lu_ap, aL_ap, ct_0, ct_1, ct_2, ct_3, ct_4, ct_5, headD_1, List.mem_cons, List.not_mem_nil, or_false, false_or, or_true, true_or, true_and, and_true, false_and, and_false, not_true_eq_false, not_false_eq_true, if_true, if_false, nr_20, nr_24, nr_40, nr_41, nr_44, pt_lt, pt_ge, pt_eq, pt_ne, pt_gt, pt_le, pt_E, pt_N, pt_F, ite_10, ite_11, ne_eq, and_self, or_self, decide_true, decide_false, Bool.not_true, Bool.not_false, Bool.false_eq_true, Nat.reduceEqDiff, Nat.reduceAdd, Int.reduceEq, Int.reduceLT, Int.reduceLE, Int.reduceNeg, Int.reduceAdd, Int.reduceSub, Int.reduceMul, reduceCtorEq]
  refine wM_mono (c_put4 h3.t c1 (by omega)) ?_
  rintro r4 w4 g4 ⟨d1, d2, d3, d4⟩
  have k4 := k3.tr (Kc.of kX10_put g4).p
  have h4 := h.keep k4
  simp only [h4.k, h4.p0, h4.t.k, wE_I, wE_V, wE_F, wE_A, wE_N, wE_1, wE_2, wE_D, wE_B, wE_If, wE_C, wE_CV, wE_SL, wE_SA, wA_0, wA_1, wC_B, wC_E, wC_And, wC_Or, wC_Not, wS_Skip, wS_Brk, wS_Cnt, wS_RetV, wS_Ret, wS_Seq, wS_Set, wS_Inc, wS_Do, wS_Put, wS_PutC, wS_Arr, wS_ArrC, wS_If, wS_Sw, wS_F0, wS_F1, wM_q, lu_ap, aL_ap, ct_0, ct_1, ct_2, ct_3, ct_4, ct_5, headD_1, List.mem_cons, List.not_mem_nil, or_false, false_or, or_true, true_or, true_and, and_true, false_and, and_false, not_true_eq_false, not_false_eq_true, if_true, if_false, nr_20, nr_24, nr_40, nr_41, nr_44, pt_lt, pt_ge, pt_eq, pt_ne, pt_gt, pt_le, pt_E, pt_N, pt_F, ite_10, ite_11, ne_eq, and_self, or_self, decide_true, decide_false, Bool.not_true, Bool.not_false, Bool.false_eq_true, Nat.reduceEqDiff, Nat.reduceAdd, Int.reduceEq, Int.reduceLT, Int.reduceLE, Int.reduceNeg, Int.reduceAdd, Int.reduceSub, Int.reduceMul, reduceCtorEq]
  refine wM_mono (c_put4 h4.t d1 (by omega)) ?_
  rintro r5 w5 g5 ⟨e1, e2, e3, e4⟩
  have k5 := k4.tr (Kc.of kX10_put g5).p
  have h5 := h.keep k5
  simp only [h5.k, h5.p0, h5.t.k, wE_I, wE_V, wE_F, wE_A, wE_N, wE_1, wE_2, wE_D, wE_B, wE_If, wE_C, wE_CV, wE_SL, wE_SA, wA_0, wA_1, wC_B, wC_E, wC_And, wC_Or, wC_Not, wS_Skip, wS_Brk, wS_Cnt, wS_RetV, wS_Ret, wS_Seq, wS_Set, wS_Inc, wS_Do, wS_Put, wS_PutC, wS_Arr, wS_ArrC, wS_If, wS_Sw, wS_F0, wS_F1, wM_q, lu_ap, aL_ap, ct_0, ct_1, ct_2, ct_3, ct_4, ct_5, headD_1, List.mem_cons, List.not_mem_nil, or_false, false_or, or_true, true_or, true_and, and_true, false_and, and_false, not_true_eq_false, not_false_eq_true, if_true, if_false, nr_20, nr_24, nr_40, nr_41, nr_44, pt_lt, pt_ge, pt_eq, pt_ne, pt_gt, pt_le, pt_E, pt_N, pt_F, ite_10, ite_11, ne_eq, and_self, or_self, decide_true, decide_false, Bool.not_true, Bool.not_false, Bool.false_eq_true, Nat.reduceEqDiff, Nat.reduceAdd, Int.reduceEq, Int.reduceLT, Int.reduceLE, Int.reduceNeg, Int.reduceAdd, Int.reduceSub, Int.reduceMul, reduceCtorEq]
  rw [eb] at a2 a3 a4 b2 b3 b4 c2 c3 c4 d2 d3 d4 e2 e3 e4
  refine ⟨by rw [e1]; omega, by rw [e1]; omega, fun j j0 j1 => ?_, fun k hk => ?_, fun a k ha hb2 => ?_⟩
  · have hj : (j < 4 ∨ (4 ≤ j ∧ j < 8) ∨ (8 ≤ j ∧ j < 12) ∨ (12 ≤ j ∧ j < 16) ∨ (16 ≤ j ∧ j < 20)) := by omega
    unfold five
    rcases hj with q | q | q | q | q
    · rw [if_pos q, e3 _ (by omega), d3 _ (by omega), c3 _ (by omega), b3 _ (by omega), a2 j j0 q]
      congr 1
      omega
    · rw [if_neg (by omega), if_pos (by omega), e3 _ (by omega), d3 _ (by omega), c3 _ (by omega), show n + j = n + 4 + (j - 4) by omega, b2 _ (by omega) (by omega)]
      congr 1
      omega
    · rw [if_neg (by omega), if_neg (by omega), if_pos (by omega), e3 _ (by omega), d3 _ (by omega), show n + j = n + 4 + 4 + (j - 8) by omega, c2 _ (by omega) (by omega)]
      congr 1
      omega
    · rw [if_neg (by omega), if_neg (by omega), if_neg (by omega), if_pos (by omega), e3 _ (by omega), show n + j = n + 4 + 4 + 4 + (j - 12) by omega, d2 _ (by omega) (by omega)]
      congr 1
      omega
    · rw [if_neg (by omega), if_neg (by omega), if_neg (by omega), if_neg (by omega), show n + j = n + 4 + 4 + 4 + 4 + (j - 16) by omega, e2 _ (by omega) (by omega)]
      congr 1
      omega
  · rw [e3 _ (by omega), d3 _ (by omega), c3 _ (by omega), b3 _ (by omega), a3 _ (by omega)]
  · rw [e4 _ _ ha hb2, d4 _ _ ha hb2, c4 _ _ ha hb2, b4 _ _ ha hb2, a4 _ _ ha hb2]
theorem m_feed (h : LMo S v M) {x1 x2 x3 x4 x5 n : Int} (hn : v M 30 = n) (hb : 0 ≤ n ∧ n ≤ 980) : wM mX12_feed [M, x1, x2, x3, x4, x5] S v (fun r w => r = n + 20 ∧ w M 30 = n + 20 ∧ (∀ j, 0 ≤ j → j < 20 → w (M + 28) (n + j) % 256 = by4 (five x1 x2 x3 x4 x5 j) (j % 4) ∧ -128 ≤ w (M + 28) (n + j) ∧ w (M + 28) (n + j) < 128) ∧ (∀ k, k < n ∨ n + 20 ≤ k → w (M + 28) k = v (M + 28) k) ∧ ∀ a k, (a = M → k ≠ 30) → a ≠ M + 28 → w a k = v a k) := by
  have e1 : w32 (n + 20) = n + 20 := w32_e (by omega)
  have e2 : ¬ 1000 < n + 20 := by clear e1; omega
  have n1 : ¬ M = M + 28 := by clear e1; omega
  simp only [mX12_feed, sX12_feed, wE_I, wE_V, wE_F, wE_A, wE_N, wE_1, wE_2, wE_D, wE_B, wE_If, wE_C, wE_CV, wE_SL, wE_SA, wA_0, wA_1, wC_B, wC_E, wC_And, wC_Or, wC_Not, wS_Skip, wS_Brk, wS_Cnt, wS_RetV, wS_Ret, wS_Seq, wS_Set, wS_Inc, wS_Do, wS_Put, wS_PutC, wS_Arr, wS_ArrC, wS_If, wS_Sw, wS_F0, wS_F1, wM_q, lu_ap, aL_ap, ct_0, ct_1, ct_2, ct_3, ct_4, ct_5, headD_1, List.mem_cons, List.not_mem_nil, or_false, false_or, or_true, true_or, true_and, and_true, false_and, and_false, not_true_eq_false, not_false_eq_true, if_true, if_false, nr_20, nr_24, nr_40, nr_41, nr_44, pt_lt, pt_ge, pt_eq, pt_ne, pt_gt, pt_le, pt_E, pt_N, pt_F, ite_10, ite_11, ne_eq, and_self, or_self, decide_true, decide_false, Bool.not_true, Bool.not_false, Bool.false_eq_true, Nat.reduceEqDiff, Nat.reduceAdd, Int.reduceEq, Int.reduceLT, Int.reduceLE, Int.reduceNeg, Int.reduceAdd, Int.reduceSub, Int.reduceMul, reduceCtorEq, iA, iS, iM, iD, iR, iN, lA, lS, lM, lD, lR, h.k, hn, e1, e2]
  refine wS_For 20 (fun j L w => (L 0 = M ∧ L 1 = x1 ∧ L 2 = x2 ∧ L 3 = x3 ∧ L 4 = x4 ∧ L 5 = x5 ∧ L 6 = j) ∧ (∀ i : Int, 0 ≤ i → i < j → w (M + 28) (n + i) % 256 = by4 (five x1 x2 x3 x4 x5 i) (i % 4) ∧ -128 ≤ w (M + 28) (n + i) ∧ w (M + 28) (n + i) < 128) ∧ (∀ k, k < n ∨ n + j ≤ k → w (M + 28) k = v (M + 28) k) ∧ (∀ a k, a ≠ M + 28 → w a k = v a k) ∧ Kp S v w) (by decide) ?_ ?_ ?_
  · refine ⟨by simp [lu_ap, aL_ap, ct_0, ct_2], fun i i0 i1 => by omega, fun _ _ => rfl, fun _ _ _ => rfl, Kp.rf⟩
  · clear e1
    rintro j L w hj ⟨⟨m0, m1, m2, m3, m4, m5, m6⟩, f1, f2, f3, hk⟩
    have hw := h.keep hk
    have h30 : w M 30 = n := (f3 _ _ n1).trans hn
    have q0 : (j : Int) < 20 := by omega
    have e3 : w32 (n + (j : Int)) = n + j := w32_e (by omega)
    have q1 : 0 ≤ n + (j : Int) ∧ n + (j : Int) < 1000 := by clear e3; omega
    have e4 : iAn (j : Int) 3 = (j : Int) % 4 := by clear e3; exact iAn_3 (by omega)
    have e5 : w32 (8 * ((j : Int) % 4)) = 8 * ((j : Int) % 4) := by clear e3 e4; exact w32_e (by omega)
    have e6 : w32 (24 - 8 * ((j : Int) % 4)) = 24 - 8 * ((j : Int) % 4) := by clear e3 e4 e5; exact w32_e (by omega)
    have hby := bt_by (x := five x1 x2 x3 x4 x5 j) (j := (j : Int) % 4) (by clear e3 e4 e5 e6; omega)
    have fin : ∀ z : Int, z = five x1 x2 x3 x4 x5 j → (∀ i : Int, 0 ≤ i → i < ((j + 1 : Nat) : Int) → vu w (M + 28) (n + j) (w8 (w8 (iSr z (24 - 8 * ((j : Int) % 4))))) (M + 28) (n + i) % 256 = by4 (five x1 x2 x3 x4 x5 i) (i % 4) ∧ -128 ≤ vu w (M + 28) (n + j) (w8 (w8 (iSr z (24 - 8 * ((j : Int) % 4))))) (M + 28) (n + i) ∧ vu w (M + 28) (n + j) (w8 (w8 (iSr z (24 - 8 * ((j : Int) % 4))))) (M + 28) (n + i) < 128) ∧ (∀ k, k < n ∨ n + ((j + 1 : Nat) : Int) ≤ k → vu w (M + 28) (n + j) (w8 (w8 (iSr z (24 - 8 * ((j : Int) % 4))))) (M + 28) k = v (M + 28) k) ∧ (∀ a k, a ≠ M + 28 → vu w (M + 28) (n + j) (w8 (w8 (iSr z (24 - 8 * ((j : Int) % 4))))) a k = v a k) ∧ Kp S v (vu w (M + 28) (n + j) (w8 (w8 (iSr z (24 - 8 * ((j : Int) % 4)))))) := by
      clear e3 e4 e5 e6
      rintro z rfl
      refine ⟨fun i i0 i1 => ?_, fun k hk2 => ?_, fun a k ha => ?_, ?_⟩
      · rw [vu_ap]
        by_cases e : i = j
        · rw [if_pos ⟨rfl, by omega⟩, e]
          exact hby
        · rw [if_neg (fun q => e (by omega))]
          exact f1 i i0 (by omega)
      · rw [vu_ne (by omega)]
        exact f2 k (by omega)
      · rw [vu_ne (fun q => ha q.1)]
        exact f3 a k ha
      · exact hk.tr (Km.vu Km.rf (by rw [hw.a28]; rfl)).p
    have fin' : ∀ z : Int, z = five x1 x2 x3 x4 x5 j → (w32 ((j : Int) + 1) = ((j + 1 : Nat) : Int)) ∧ _ := fun z hz => ⟨w32_s (by clear e3 e4 e5 e6; omega), fin z hz⟩
    simp only [cX12_feed_1, bX12_feed_1, uX12_feed_1, wE_I, wE_V, wE_F, wE_A, wE_N, wE_1, wE_2, wE_D, wE_B, wE_If, wE_C, wE_CV, wE_SL, wE_SA, wA_0, wA_1, wC_B, wC_E, wC_And, wC_Or, wC_Not, wS_Skip, wS_Brk, wS_Cnt, wS_RetV, wS_Ret, wS_Seq, wS_Set, wS_Inc, wS_Do, wS_Put, wS_PutC, wS_Arr, wS_ArrC, wS_If, wS_Sw, wS_F0, wS_F1, wM_q, lu_ap, aL_ap, ct_0, ct_1, ct_2, ct_3, ct_4, ct_5, headD_1, List.mem_cons, List.not_mem_nil, or_false, false_or, or_true, true_or, true_and, and_true, false_and, and_false, not_true_eq_false, not_false_eq_true, if_true, if_false, nr_20, nr_24, nr_40, nr_41, nr_44, pt_lt, pt_ge, pt_eq, pt_ne, pt_gt, pt_le, pt_E, pt_N, pt_F, ite_10, ite_11, ne_eq, and_self, or_self, decide_true, decide_false, Bool.not_true, Bool.not_false, Bool.false_eq_true, Nat.reduceEqDiff, Nat.reduceAdd, Int.reduceEq, Int.reduceLT, Int.reduceLE, Int.reduceNeg, Int.reduceAdd, Int.reduceSub, Int.reduceMul, reduceCtorEq, iA, iS, iM, iD, iR, iN, lA, lS, lM, lD, lR, m0, m1, m2, m3, m4, m5, m6, q0, hw.k, hw.p29, hw.a28, hw.n28, h30, e3, q1, e4, e5, e6, nr_42, w32_s (show j < 1000 by clear e3 e4 e5 e6; omega)]
    clear e3 e4 e5 e6
    have fi : five x1 x2 x3 x4 x5 j = if (j : Int) < 4 then x1 else if (j : Int) < 8 then x2 else if (j : Int) < 12 then x3 else if (j : Int) < 16 then x4 else x5 := rfl
    by_cases z1 : (j : Int) < 4
    · simp only [z1, if_true] at fi ⊢
      exact fin x1 fi.symm
    · by_cases z2 : (j : Int) < 8
      · simp only [z1, z2, if_true, if_false] at fi ⊢
        exact fin x2 fi.symm
      · by_cases z3 : (j : Int) < 12
        · simp only [z1, z2, z3, if_true, if_false] at fi ⊢
          exact fin x3 fi.symm
        · by_cases z4 : (j : Int) < 16
          · simp only [z1, z2, z3, z4, if_true, if_false] at fi ⊢
            exact fin x4 fi.symm
          · simp only [z1, z2, z3, z4, if_true, if_false] at fi ⊢
            exact fin x5 fi.symm
  · rintro L w ⟨⟨m0, m1, m2, m3, m4, m5, m6⟩, f1, f2, f3, hk⟩
    have hw := h.keep hk
    have h30 : w M 30 = n := (f3 _ _ n1).trans hn
    simp only [cX12_feed_1, wE_I, wE_V, wE_F, wE_A, wE_N, wE_1, wE_2, wE_D, wE_B, wE_If, wE_C, wE_CV, wE_SL, wE_SA, wA_0, wA_1, wC_B, wC_E, wC_And, wC_Or, wC_Not, wS_Skip, wS_Brk, wS_Cnt, wS_RetV, wS_Ret, wS_Seq, wS_Set, wS_Inc, wS_Do, wS_Put, wS_PutC, wS_Arr, wS_ArrC, wS_If, wS_Sw, wS_F0, wS_F1, wM_q, lu_ap, aL_ap, ct_0, ct_1, ct_2, ct_3, ct_4, ct_5, headD_1, List.mem_cons, List.not_mem_nil, or_false, false_or, or_true, true_or, true_and, and_true, false_and, and_false, not_true_eq_false, not_false_eq_true, if_true, if_false, nr_20, nr_24, nr_40, nr_41, nr_44, pt_lt, pt_ge, pt_eq, pt_ne, pt_gt, pt_le, pt_E, pt_N, pt_F, ite_10, ite_11, ne_eq, and_self, or_self, decide_true, decide_false, Bool.not_true, Bool.not_false, Bool.false_eq_true, Nat.reduceEqDiff, Nat.reduceAdd, Int.reduceEq, Int.reduceLT, Int.reduceLE, Int.reduceNeg, Int.reduceAdd, Int.reduceSub, Int.reduceMul, reduceCtorEq, iA, iS, iM, iD, iR, iN, lA, lS, lM, lD, lR, m0, m6, hw.k, h30, e1, vu_is]
    clear e1
    refine ⟨by decide, fun j j0 j1 => by rw [vu_ne (by omega)]; exact f1 j j0 (by omega), fun k hk2 => by rw [vu_ne (by omega)]; exact f2 k (by omega), fun a k ha hb2 => by rw [vu_ne (fun q => ha q.1 q.2)]; exact f3 a k hb2⟩
end FD
