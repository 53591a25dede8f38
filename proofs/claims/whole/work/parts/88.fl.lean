/-! A FORECAST FOLLOWS: the reference's -/
def keepF (C x t : Int) (f : Int → Int) : Int → Int := fun k => if k = C + 52 then x else if k = C + 82 then (if t = 0 then 0 else 1) else if k = C + 3 then (if f (C + 3) < 30 then f (C + 3) + 1 else f (C + 3)) else if (C + 53 ≤ k ∧ k ≤ C + 81) ∨ (C + 83 ≤ k ∧ k ≤ C + 111) then f (k - 1) else f k
theorem keepF_lo {C x t k : Int} {f : Int → Int} (h : k < C + 52 ∨ C + 112 ≤ k) (h3 : k ≠ C + 3) : keepF C x t f k = f k := by
  unfold keepF
  rw [if_neg (by omega), if_neg (by omega), if_neg h3, if_neg (by omega)]
def followF (v : QV) (M B m x : Int) (f : Int → Int) : Int → Int :=
  if f (647 + 112 * m + 2) = 0 then (if x = -2147483648 then f else fu (fu f (647 + 112 * m + 2) 1) (647 + 112 * m + 0) (hd x)) else
  let p := f 1 % v (M + 19) (4 * B + m)
  let t := hd (f (647 + 112 * m + 0) + f (647 + 112 * m + 1) + f (647 + 112 * m + (4 + p)))
  let off := if t < x then x - t else t - x
  let g := keepF (647 + 112 * m) t (if (¬ x = -2147483648 ∧ 0 < f (647 + 112 * m + (28 + p))) ∧ v (M + 23) (4 * B + m) * f (647 + 112 * m + (28 + p)) < off then 1 else 0) f
  if x = -2147483648 then fu g (647 + 112 * m + 0) (hd (g (647 + 112 * m + 0) + g (647 + 112 * m + 1))) else learnF (v (M + 20) (4 * B + m)) (v (M + 21) (4 * B + m)) (v (M + 22) (4 * B + m)) (647 + 112 * m) p x off g
/-- a forecast's line and cells within bounds -/
def PBf (v : QV) (M k : Int) : Prop := (2 ≤ v (M + 19) k ∧ v (M + 19) k ≤ 24) ∧ (0 ≤ v (M + 20) k ∧ v (M + 20) k ≤ 16) ∧ (0 ≤ v (M + 21) k ∧ v (M + 21) k ≤ 16) ∧ (0 ≤ v (M + 22) k ∧ v (M + 22) k ≤ 16) ∧ (1 ≤ v (M + 23) k ∧ v (M + 23) k ≤ 9)
def FIf (f : Int → Int) (C : Int) : Prop := in2 (f (C + 0)) ∧ in2 (f (C + 1)) ∧ (∀ j, 0 ≤ j → j < 24 → in2 (f (C + (4 + j))) ∧ 0 ≤ f (C + (28 + j)) ∧ f (C + (28 + j)) ≤ 2000000000) ∧ 0 ≤ f (C + 3)
section FL
variable {S : QS} {v w : QV} {b M P B s : Int} {f : Int → Int}
theorem f_keepTold (h : LMo S v M) {m x t : Int} (hm : 0 ≤ m ∧ m < 4) (h3 : 0 ≤ f (647 + 112 * m + 3)) : wM mX12_keepTold [M, m, x, t] S (vf v (M + 1) f) (fun _ w => w = vf v (M + 1) (keepF (647 + 112 * m) x t f)) := by
  refine wM_mono (m_keepTold h hm h3) ?_
  rintro r w e ⟨g, rfl, g1, g2, g3, g4, g5⟩
  congr 1
  funext k
  unfold keepF
  generalize 647 + 112 * m = C at *
  by_cases k1 : k = C + 52
  · rw [if_pos k1, k1, g2]
  rw [if_neg k1]
  by_cases k2 : k = C + 82
  · rw [if_pos k2, k2, g3]
  rw [if_neg k2]
  by_cases k3 : k = C + 3
  · rw [if_pos k3, k3, g4]
  rw [if_neg k3]
  by_cases k4 : C + 53 ≤ k ∧ k ≤ C + 81
  · rw [if_pos (Or.inl k4)]
    have := (g1 (k - (C + 53)) (by omega) (by omega)).1
    rw [show C + (53 + (k - (C + 53))) = k by omega, show C + (52 + (k - (C + 53))) = k - 1 by omega] at this
    exact this
  by_cases k5 : C + 83 ≤ k ∧ k ≤ C + 111
  · rw [if_pos (Or.inr k5)]
    have := (g1 (k - (C + 83)) (by omega) (by omega)).2
    rw [show C + (83 + (k - (C + 83))) = k by omega, show C + (82 + (k - (C + 83))) = k - 1 by omega] at this
    exact this
  rw [if_neg (by omega)]
  exact g5 k (by omega) k3
theorem f_follow (h : LMo S v M) (hB : v M 28 = B) (hB2 : B = 0 ∨ B = 1) {m x : Int} (hm : 0 ≤ m ∧ m < 4) (hx : tv x) (h1 : 0 ≤ f 1 ∧ f 1 ≤ 1000000) (hp : PBf v M (4 * B + m)) (hf : FIf f (647 + 112 * m)) : mX12_follow [M, m, x] S (vf v (M + 1) f) = some (0, vf v (M + 1) (followF v M B m x f)) := by
  obtain ⟨hss, hlb, htb, hsb, hbd⟩ := hp
  obtain ⟨f0, f1, fj, f3⟩ := hf
  have hw := fun g => h.keep (Kp.vf h (f := g))
  have aF := fun g z (q : 0 ≤ z ∧ z < 112) => m_atForecast (S := S) (v := vf v (M + 1) g) hm q
  have qF : ∀ z, 0 ≤ z ∧ z < 112 → 0 ≤ 647 + 112 * m + z ∧ 647 + 112 * m + z < 1095 := fun z q => by omega
  have hh := fun g x => m_held (S := S) (v := vf v (M + 1) g) (x := x)
  have hown := fun g => m_own (S := S) (v := vf v (M + 1) g) hB2 (show 0 ≤ m ∧ m ≤ 1000 by omega)
  have o1 : 0 ≤ 4 * B + m ∧ 4 * B + m < 8 := by omega
  have eB : ∀ g, vf v (M + 1) g M 28 = B := fun g => by rw [vf_ne (by omega)]; exact hB
  have e23 : ∀ g, vf v (M + 1) g (M + 23) (4 * B + m) = v (M + 23) (4 * B + m) := fun g => vf_ne (by omega)
  have hpl := f_placeNow h hB hB2 hm (show 0 ≤ (0 : Int) ∧ (0 : Int) ≤ 1000 by decide) h1 hss
  rw [Int.add_zero] at hpl
  have p1 := Int.emod_nonneg (f 1) (show v (M + 19) (4 * B + m) ≠ 0 by omega)
  have p2 := Int.emod_lt_of_pos (f 1) (show 0 < v (M + 19) (4 * B + m) by omega)
  have r0 : 0 ≤ (0 : Int) ∧ (0 : Int) < 112 := by decide
  have r1 : 0 ≤ (1 : Int) ∧ (1 : Int) < 112 := by decide
  have r2 : 0 ≤ (2 : Int) ∧ (2 : Int) < 112 := by decide
  unfold followF
  dsimp only
  have ht := m_tells (p := f 1 % v (M + 19) (4 * B + m)) h hm (by omega) f0 f1 (fj _ p1 (by omega)).1
  have hj := fj _ p1 (show f 1 % v (M + 19) (4 * B + m) < 24 by omega)
  generalize f 1 % v (M + 19) (4 * B + m) = p at *
  generalize hT : hd (f (647 + 112 * m + 0) + f (647 + 112 * m + 1) + f (647 + 112 * m + (4 + p))) = t at *
  have tb : -2000000000 ≤ t ∧ t ≤ 2000000000 := by rw [← hT]; exact hd_in _
  clear hT
  apply wM_eq
  simp only [mX12_follow, sX12_follow, wM_q]
  generalize hL : aL 0 [2, 0, 1] [M, m, x] = L
  have m0 : L 0 = M := by rw [← hL]; simp [lu_ap, aL_ap, ct_0, ct_1, ct_2]
  have m1 : L 1 = m := by rw [← hL]; simp [lu_ap, aL_ap, ct_0, ct_1, ct_2]
  have m2 : L 2 = x := by rw [← hL]; simp [lu_ap, aL_ap, ct_0, ct_1, ct_2]
  clear hL
  by_cases c2 : f (647 + 112 * m + 2) = 0
  · by_cases cx : x = -2147483648
    · simp only [wE_I, wE_V, wE_F, wE_A, wE_N, wE_1, wE_2, wE_D, wE_B, wE_If, wE_C, wE_CV, wE_SL, wE_SA, wA_0, wA_1, wC_B, wC_E, wC_And, wC_Or, wC_Not, wS_Skip, wS_Brk, wS_Cnt, wS_RetV, wS_Ret, wS_Seq, wS_Set, wS_Inc, wS_Do, wS_Put, wS_PutC, wS_Arr, wS_ArrC, wS_If, wS_Sw, wS_F0, wS_F1, wM_q, lu_ap, aL_ap, ct_0, ct_1, ct_2, ct_3, ct_4, ct_5, headD_1, List.mem_cons, List.not_mem_nil, or_false, false_or, or_true, true_or, true_and, and_true, false_and, and_false, not_true_eq_false, not_false_eq_true, if_true, if_false, nr_20, nr_24, nr_40, nr_41, nr_44, pt_lt, pt_ge, pt_eq, pt_ne, pt_gt, pt_le, pt_E, pt_N, pt_F, ite_10, ite_11, ne_eq, and_self, or_self, decide_true, decide_false, Bool.not_true, Bool.not_false, Bool.false_eq_true, Nat.reduceEqDiff, Nat.reduceAdd, Int.reduceEq, Int.reduceLT, Int.reduceLE, Int.reduceNeg, Int.reduceAdd, Int.reduceSub, Int.reduceMul, reduceCtorEq, iA, iS, iM, iD, iR, iN, lA, lS, lM, lD, lR, h.k, (hw _).p0, h.a1, h.n1, vf_is, vf_vu, m0, m1, m2, wM_of (aF _ _ r2), qF _ r2, c2, cx]
    · simp only [wE_I, wE_V, wE_F, wE_A, wE_N, wE_1, wE_2, wE_D, wE_B, wE_If, wE_C, wE_CV, wE_SL, wE_SA, wA_0, wA_1, wC_B, wC_E, wC_And, wC_Or, wC_Not, wS_Skip, wS_Brk, wS_Cnt, wS_RetV, wS_Ret, wS_Seq, wS_Set, wS_Inc, wS_Do, wS_Put, wS_PutC, wS_Arr, wS_ArrC, wS_If, wS_Sw, wS_F0, wS_F1, wM_q, lu_ap, aL_ap, ct_0, ct_1, ct_2, ct_3, ct_4, ct_5, headD_1, List.mem_cons, List.not_mem_nil, or_false, false_or, or_true, true_or, true_and, and_true, false_and, and_false, not_true_eq_false, not_false_eq_true, if_true, if_false, nr_20, nr_24, nr_40, nr_41, nr_44, pt_lt, pt_ge, pt_eq, pt_ne, pt_gt, pt_le, pt_E, pt_N, pt_F, ite_10, ite_11, ne_eq, and_self, or_self, decide_true, decide_false, Bool.not_true, Bool.not_false, Bool.false_eq_true, Nat.reduceEqDiff, Nat.reduceAdd, Int.reduceEq, Int.reduceLT, Int.reduceLE, Int.reduceNeg, Int.reduceAdd, Int.reduceSub, Int.reduceMul, reduceCtorEq, iA, iS, iM, iD, iR, iN, lA, lS, lM, lD, lR, h.k, (hw _).p0, h.a1, h.n1, vf_is, vf_vu, m0, m1, m2, wM_of (aF _ _ r2), qF _ r2, wM_of (aF _ _ r0), qF _ r0, wM_of (hh _ _), c2, cx]
  · rw [if_neg c2]
    refine ws_step (L' := L) (w := vf v (M + 1) f) (by simp only [wE_I, wE_V, wE_F, wE_A, wE_N, wE_1, wE_2, wE_D, wE_B, wE_If, wE_C, wE_CV, wE_SL, wE_SA, wA_0, wA_1, wC_B, wC_E, wC_And, wC_Or, wC_Not, wS_Skip, wS_Brk, wS_Cnt, wS_RetV, wS_Ret, wS_Seq, wS_Set, wS_Inc, wS_Do, wS_Put, wS_PutC, wS_Arr, wS_ArrC, wS_If, wS_Sw, wS_F0, wS_F1, wM_q, lu_ap, aL_ap, ct_0, ct_1, ct_2, ct_3, ct_4, ct_5, headD_1, List.mem_cons, List.not_mem_nil, or_false, false_or, or_true, true_or, true_and, and_true, false_and, and_false, not_true_eq_false, not_false_eq_true, if_true, if_false, nr_20, nr_24, nr_40, nr_41, nr_44, pt_lt, pt_ge, pt_eq, pt_ne, pt_gt, pt_le, pt_E, pt_N, pt_F, ite_10, ite_11, ne_eq, and_self, or_self, decide_true, decide_false, Bool.not_true, Bool.not_false, Bool.false_eq_true, Nat.reduceEqDiff, Nat.reduceAdd, Int.reduceEq, Int.reduceLT, Int.reduceLE, Int.reduceNeg, Int.reduceAdd, Int.reduceSub, Int.reduceMul, reduceCtorEq, iA, iS, iM, iD, iR, iN, lA, lS, lM, lD, lR, h.k, (hw _).p0, h.a1, h.n1, vf_is, vf_vu, m0, m1, m2, wM_of (aF _ _ r2), qF _ r2, c2]) ?_
    refine ws_step (L' := lu L 4 p) (w := vf v (M + 1) f) (by simp only [wE_I, wE_V, wE_F, wE_A, wE_N, wE_1, wE_2, wE_D, wE_B, wE_If, wE_C, wE_CV, wE_SL, wE_SA, wA_0, wA_1, wC_B, wC_E, wC_And, wC_Or, wC_Not, wS_Skip, wS_Brk, wS_Cnt, wS_RetV, wS_Ret, wS_Seq, wS_Set, wS_Inc, wS_Do, wS_Put, wS_PutC, wS_Arr, wS_ArrC, wS_If, wS_Sw, wS_F0, wS_F1, wM_q, lu_ap, aL_ap, ct_0, ct_1, ct_2, ct_3, ct_4, ct_5, headD_1, List.mem_cons, List.not_mem_nil, or_false, false_or, or_true, true_or, true_and, and_true, false_and, and_false, not_true_eq_false, not_false_eq_true, if_true, if_false, nr_20, nr_24, nr_40, nr_41, nr_44, pt_lt, pt_ge, pt_eq, pt_ne, pt_gt, pt_le, pt_E, pt_N, pt_F, ite_10, ite_11, ne_eq, and_self, or_self, decide_true, decide_false, Bool.not_true, Bool.not_false, Bool.false_eq_true, Nat.reduceEqDiff, Nat.reduceAdd, Int.reduceEq, Int.reduceLT, Int.reduceLE, Int.reduceNeg, Int.reduceAdd, Int.reduceSub, Int.reduceMul, reduceCtorEq, iA, iS, iM, iD, iR, iN, lA, lS, lM, lD, lR, h.k, m0, m1, m2, wM_of hpl]) ?_
    refine ws_step (L' := lu (lu L 4 p) 5 t) (w := vf v (M + 1) f) (by simp only [wE_I, wE_V, wE_F, wE_A, wE_N, wE_1, wE_2, wE_D, wE_B, wE_If, wE_C, wE_CV, wE_SL, wE_SA, wA_0, wA_1, wC_B, wC_E, wC_And, wC_Or, wC_Not, wS_Skip, wS_Brk, wS_Cnt, wS_RetV, wS_Ret, wS_Seq, wS_Set, wS_Inc, wS_Do, wS_Put, wS_PutC, wS_Arr, wS_ArrC, wS_If, wS_Sw, wS_F0, wS_F1, wM_q, lu_ap, aL_ap, ct_0, ct_1, ct_2, ct_3, ct_4, ct_5, headD_1, List.mem_cons, List.not_mem_nil, or_false, false_or, or_true, true_or, true_and, and_true, false_and, and_false, not_true_eq_false, not_false_eq_true, if_true, if_false, nr_20, nr_24, nr_40, nr_41, nr_44, pt_lt, pt_ge, pt_eq, pt_ne, pt_gt, pt_le, pt_E, pt_N, pt_F, ite_10, ite_11, ne_eq, and_self, or_self, decide_true, decide_false, Bool.not_true, Bool.not_false, Bool.false_eq_true, Nat.reduceEqDiff, Nat.reduceAdd, Int.reduceEq, Int.reduceLT, Int.reduceLE, Int.reduceNeg, Int.reduceAdd, Int.reduceSub, Int.reduceMul, reduceCtorEq, iA, iS, iM, iD, iR, iN, lA, lS, lM, lD, lR, h.k, m0, m1, m2, wM_of ht]) ?_
    have oe1 : t < x → w64 (x - t) = x - t := fun q => w64_e (by unfold tv at hx; omega)
    have oe2 : ¬ t < x → w64 (t - x) = t - x := fun q => w64_e (by unfold tv at hx; omega)
    have ob : 0 ≤ (if t < x then x - t else t - x) ∧ (if t < x then x - t else t - x) ≤ 5000000000 ∧ (¬ x = -2147483648 → (if t < x then x - t else t - x) ≤ 4000000000) := by
      unfold tv at hx
      split <;> omega
    refine ws_step (L' := lu (lu (lu L 4 p) 5 t) 7 (if t < x then x - t else t - x)) (w := vf v (M + 1) f) ?_ ?_
    · by_cases co : t < x
      · simp only [wE_I, wE_V, wE_F, wE_A, wE_N, wE_1, wE_2, wE_D, wE_B, wE_If, wE_C, wE_CV, wE_SL, wE_SA, wA_0, wA_1, wC_B, wC_E, wC_And, wC_Or, wC_Not, wS_Skip, wS_Brk, wS_Cnt, wS_RetV, wS_Ret, wS_Seq, wS_Set, wS_Inc, wS_Do, wS_Put, wS_PutC, wS_Arr, wS_ArrC, wS_If, wS_Sw, wS_F0, wS_F1, wM_q, lu_ap, aL_ap, ct_0, ct_1, ct_2, ct_3, ct_4, ct_5, headD_1, List.mem_cons, List.not_mem_nil, or_false, false_or, or_true, true_or, true_and, and_true, false_and, and_false, not_true_eq_false, not_false_eq_true, if_true, if_false, nr_20, nr_24, nr_40, nr_41, nr_44, pt_lt, pt_ge, pt_eq, pt_ne, pt_gt, pt_le, pt_E, pt_N, pt_F, ite_10, ite_11, ne_eq, and_self, or_self, decide_true, decide_false, Bool.not_true, Bool.not_false, Bool.false_eq_true, Nat.reduceEqDiff, Nat.reduceAdd, Int.reduceEq, Int.reduceLT, Int.reduceLE, Int.reduceNeg, Int.reduceAdd, Int.reduceSub, Int.reduceMul, reduceCtorEq, iA, iS, iM, iD, iR, iN, lA, lS, lM, lD, lR, h.k, m0, m1, m2, co, oe1 co]
      · simp only [wE_I, wE_V, wE_F, wE_A, wE_N, wE_1, wE_2, wE_D, wE_B, wE_If, wE_C, wE_CV, wE_SL, wE_SA, wA_0, wA_1, wC_B, wC_E, wC_And, wC_Or, wC_Not, wS_Skip, wS_Brk, wS_Cnt, wS_RetV, wS_Ret, wS_Seq, wS_Set, wS_Inc, wS_Do, wS_Put, wS_PutC, wS_Arr, wS_ArrC, wS_If, wS_Sw, wS_F0, wS_F1, wM_q, lu_ap, aL_ap, ct_0, ct_1, ct_2, ct_3, ct_4, ct_5, headD_1, List.mem_cons, List.not_mem_nil, or_false, false_or, or_true, true_or, true_and, and_true, false_and, and_false, not_true_eq_false, not_false_eq_true, if_true, if_false, nr_20, nr_24, nr_40, nr_41, nr_44, pt_lt, pt_ge, pt_eq, pt_ne, pt_gt, pt_le, pt_E, pt_N, pt_F, ite_10, ite_11, ne_eq, and_self, or_self, decide_true, decide_false, Bool.not_true, Bool.not_false, Bool.false_eq_true, Nat.reduceEqDiff, Nat.reduceAdd, Int.reduceEq, Int.reduceLT, Int.reduceLE, Int.reduceNeg, Int.reduceAdd, Int.reduceSub, Int.reduceMul, reduceCtorEq, iA, iS, iM, iD, iR, iN, lA, lS, lM, lD, lR, h.k, m0, m1, m2, co, oe2 co]
    clear oe1 oe2
    generalize (if t < x then x - t else t - x) = off at *
    generalize hL7 : lu (lu (lu L 4 p) 5 t) 7 off = L7
    have k0 : L7 0 = M := by rw [← hL7]; simp [lu_ap, m0]
    have k1 : L7 1 = m := by rw [← hL7]; simp [lu_ap, m1]
    have k2 : L7 2 = x := by rw [← hL7]; simp [lu_ap, m2]
    have k4 : L7 4 = p := by rw [← hL7]; simp [lu_ap]
    have k5 : L7 5 = t := by rw [← hL7]; simp [lu_ap]
    have k7 : L7 7 = off := by rw [← hL7]; simp [lu_ap]
    clear hL7
    have i28 : w32 (28 + p) = 28 + p := w32_e (by omega)
    have r28 : 0 ≤ 28 + p ∧ 28 + p < 112 := by clear i28; omega
    refine ws_step (L' := lu L7 9 (f (647 + 112 * m + (28 + p)))) (w := vf v (M + 1) f) (by simp only [wE_I, wE_V, wE_F, wE_A, wE_N, wE_1, wE_2, wE_D, wE_B, wE_If, wE_C, wE_CV, wE_SL, wE_SA, wA_0, wA_1, wC_B, wC_E, wC_And, wC_Or, wC_Not, wS_Skip, wS_Brk, wS_Cnt, wS_RetV, wS_Ret, wS_Seq, wS_Set, wS_Inc, wS_Do, wS_Put, wS_PutC, wS_Arr, wS_ArrC, wS_If, wS_Sw, wS_F0, wS_F1, wM_q, lu_ap, aL_ap, ct_0, ct_1, ct_2, ct_3, ct_4, ct_5, headD_1, List.mem_cons, List.not_mem_nil, or_false, false_or, or_true, true_or, true_and, and_true, false_and, and_false, not_true_eq_false, not_false_eq_true, if_true, if_false, nr_20, nr_24, nr_40, nr_41, nr_44, pt_lt, pt_ge, pt_eq, pt_ne, pt_gt, pt_le, pt_E, pt_N, pt_F, ite_10, ite_11, ne_eq, and_self, or_self, decide_true, decide_false, Bool.not_true, Bool.not_false, Bool.false_eq_true, Nat.reduceEqDiff, Nat.reduceAdd, Int.reduceEq, Int.reduceLT, Int.reduceLE, Int.reduceNeg, Int.reduceAdd, Int.reduceSub, Int.reduceMul, reduceCtorEq, iA, iS, iM, iD, iR, iN, lA, lS, lM, lD, lR, h.k, (hw _).p0, h.a1, h.n1, vf_is, k0, k1, k4, i28, wM_of (aF _ _ r28), qF _ r28]) ?_
    clear i28 r28
    generalize hS : f (647 + 112 * m + (28 + p)) = sp at *
    generalize hL9 : lu L7 9 sp = L9
    have n0 : L9 0 = M := by rw [← hL9]; simp [lu_ap, k0]
    have n1 : L9 1 = m := by rw [← hL9]; simp [lu_ap, k1]
    have n2 : L9 2 = x := by rw [← hL9]; simp [lu_ap, k2]
    have n4 : L9 4 = p := by rw [← hL9]; simp [lu_ap, k4]
    have n5 : L9 5 = t := by rw [← hL9]; simp [lu_ap, k5]
    have n7 : L9 7 = off := by rw [← hL9]; simp [lu_ap, k7]
    have n9 : L9 9 = sp := by rw [← hL9]; simp [lu_ap]
    clear hL9
    have kt := fun z => f_keepTold (S := S) (f := f) (x := t) (t := z) h hm f3
    have bs1 := Int.mul_le_mul hbd.2 hj.2.2 hj.2.1 (by omega)
    have bs2 : 0 ≤ v (M + 23) (4 * B + m) * sp := Int.mul_nonneg (by omega) hj.2.1
    have ib : w64 (v (M + 23) (4 * B + m) * sp) = v (M + 23) (4 * B + m) * sp := w64_e (by omega)
    refine ws_step (L' := L9) (w := vf v (M + 1) (keepF (647 + 112 * m) t (if (¬ x = -2147483648 ∧ 0 < sp) ∧ v (M + 23) (4 * B + m) * sp < off then 1 else 0) f)) ?_ ?_
    · by_cases cx : x = -2147483648
      · simp only [wE_I, wE_V, wE_F, wE_A, wE_N, wE_1, wE_2, wE_D, wE_B, wE_If, wE_C, wE_CV, wE_SL, wE_SA, wA_0, wA_1, wC_B, wC_E, wC_And, wC_Or, wC_Not, wS_Skip, wS_Brk, wS_Cnt, wS_RetV, wS_Ret, wS_Seq, wS_Set, wS_Inc, wS_Do, wS_Put, wS_PutC, wS_Arr, wS_ArrC, wS_If, wS_Sw, wS_F0, wS_F1, wM_q, lu_ap, aL_ap, ct_0, ct_1, ct_2, ct_3, ct_4, ct_5, headD_1, List.mem_cons, List.not_mem_nil, or_false, false_or, or_true, true_or, true_and, and_true, false_and, and_false, not_true_eq_false, not_false_eq_true, if_true, if_false, nr_20, nr_24, nr_40, nr_41, nr_44, pt_lt, pt_ge, pt_eq, pt_ne, pt_gt, pt_le, pt_E, pt_N, pt_F, ite_10, ite_11, ne_eq, and_self, or_self, decide_true, decide_false, Bool.not_true, Bool.not_false, Bool.false_eq_true, Nat.reduceEqDiff, Nat.reduceAdd, Int.reduceEq, Int.reduceLT, Int.reduceLE, Int.reduceNeg, Int.reduceAdd, Int.reduceSub, Int.reduceMul, reduceCtorEq, iA, iS, iM, iD, iR, iN, lA, lS, lM, lD, lR, h.k, (hw _).p22, h.a23, h.n23, eB, e23, o1, wM_of (hown _), n0, n1, n2, n4, n5, n7, n9, cx]
        exact kt 0
      · by_cases cs : 0 < sp
        · by_cases co : v (M + 23) (4 * B + m) * sp < off
          · simp only [wE_I, wE_V, wE_F, wE_A, wE_N, wE_1, wE_2, wE_D, wE_B, wE_If, wE_C, wE_CV, wE_SL, wE_SA, wA_0, wA_1, wC_B, wC_E, wC_And, wC_Or, wC_Not, wS_Skip, wS_Brk, wS_Cnt, wS_RetV, wS_Ret, wS_Seq, wS_Set, wS_Inc, wS_Do, wS_Put, wS_PutC, wS_Arr, wS_ArrC, wS_If, wS_Sw, wS_F0, wS_F1, wM_q, lu_ap, aL_ap, ct_0, ct_1, ct_2, ct_3, ct_4, ct_5, headD_1, List.mem_cons, List.not_mem_nil, or_false, false_or, or_true, true_or, true_and, and_true, false_and, and_false, not_true_eq_false, not_false_eq_true, if_true, if_false, nr_20, nr_24, nr_40, nr_41, nr_44, pt_lt, pt_ge, pt_eq, pt_ne, pt_gt, pt_le, pt_E, pt_N, pt_F, ite_10, ite_11, ne_eq, and_self, or_self, decide_true, decide_false, Bool.not_true, Bool.not_false, Bool.false_eq_true, Nat.reduceEqDiff, Nat.reduceAdd, Int.reduceEq, Int.reduceLT, Int.reduceLE, Int.reduceNeg, Int.reduceAdd, Int.reduceSub, Int.reduceMul, reduceCtorEq, iA, iS, iM, iD, iR, iN, lA, lS, lM, lD, lR, h.k, (hw _).p22, h.a23, h.n23, eB, e23, o1, wM_of (hown _), n0, n1, n2, n4, n5, n7, n9, cx, cs, co, ib]
            exact kt 1
          · simp only [wE_I, wE_V, wE_F, wE_A, wE_N, wE_1, wE_2, wE_D, wE_B, wE_If, wE_C, wE_CV, wE_SL, wE_SA, wA_0, wA_1, wC_B, wC_E, wC_And, wC_Or, wC_Not, wS_Skip, wS_Brk, wS_Cnt, wS_RetV, wS_Ret, wS_Seq, wS_Set, wS_Inc, wS_Do, wS_Put, wS_PutC, wS_Arr, wS_ArrC, wS_If, wS_Sw, wS_F0, wS_F1, wM_q, lu_ap, aL_ap, ct_0, ct_1, ct_2, ct_3, ct_4, ct_5, headD_1, List.mem_cons, List.not_mem_nil, or_false, false_or, or_true, true_or, true_and, and_true, false_and, and_false, not_true_eq_false, not_false_eq_true, if_true, if_false, nr_20, nr_24, nr_40, nr_41, nr_44, pt_lt, pt_ge, pt_eq, pt_ne, pt_gt, pt_le, pt_E, pt_N, pt_F, ite_10, ite_11, ne_eq, and_self, or_self, decide_true, decide_false, Bool.not_true, Bool.not_false, Bool.false_eq_true, Nat.reduceEqDiff, Nat.reduceAdd, Int.reduceEq, Int.reduceLT, Int.reduceLE, Int.reduceNeg, Int.reduceAdd, Int.reduceSub, Int.reduceMul, reduceCtorEq, iA, iS, iM, iD, iR, iN, lA, lS, lM, lD, lR, h.k, (hw _).p22, h.a23, h.n23, eB, e23, o1, wM_of (hown _), n0, n1, n2, n4, n5, n7, n9, cx, cs, co, ib]
            exact kt 0
        · simp only [wE_I, wE_V, wE_F, wE_A, wE_N, wE_1, wE_2, wE_D, wE_B, wE_If, wE_C, wE_CV, wE_SL, wE_SA, wA_0, wA_1, wC_B, wC_E, wC_And, wC_Or, wC_Not, wS_Skip, wS_Brk, wS_Cnt, wS_RetV, wS_Ret, wS_Seq, wS_Set, wS_Inc, wS_Do, wS_Put, wS_PutC, wS_Arr, wS_ArrC, wS_If, wS_Sw, wS_F0, wS_F1, wM_q, lu_ap, aL_ap, ct_0, ct_1, ct_2, ct_3, ct_4, ct_5, headD_1, List.mem_cons, List.not_mem_nil, or_false, false_or, or_true, true_or, true_and, and_true, false_and, and_false, not_true_eq_false, not_false_eq_true, if_true, if_false, nr_20, nr_24, nr_40, nr_41, nr_44, pt_lt, pt_ge, pt_eq, pt_ne, pt_gt, pt_le, pt_E, pt_N, pt_F, ite_10, ite_11, ne_eq, and_self, or_self, decide_true, decide_false, Bool.not_true, Bool.not_false, Bool.false_eq_true, Nat.reduceEqDiff, Nat.reduceAdd, Int.reduceEq, Int.reduceLT, Int.reduceLE, Int.reduceNeg, Int.reduceAdd, Int.reduceSub, Int.reduceMul, reduceCtorEq, iA, iS, iM, iD, iR, iN, lA, lS, lM, lD, lR, h.k, (hw _).p22, h.a23, h.n23, eB, e23, o1, wM_of (hown _), n0, n1, n2, n4, n5, n7, n9, cx, cs]
          exact kt 0
    clear ib bs1 bs2
    generalize hz : (if (¬ x = -2147483648 ∧ 0 < sp) ∧ v (M + 23) (4 * B + m) * sp < off then (1 : Int) else 0) = z
    have lo : ∀ k, k < 647 + 112 * m + 52 → k ≠ 647 + 112 * m + 3 → keepF (647 + 112 * m) t z f k = f k := fun k q q3 => keepF_lo (Or.inl q) q3
    have l0 := lo (647 + 112 * m + 0) (by omega) (by omega)
    have l1 := lo (647 + 112 * m + 1) (by omega) (by omega)
    have l4 := lo (647 + 112 * m + (4 + p)) (by omega) (by omega)
    have l28 := lo (647 + 112 * m + (28 + p)) (by omega) (by omega)
    clear lo hz
    generalize keepF (647 + 112 * m) t z f = g at *
    rw [← l0] at f0
    rw [← l1] at f1
    by_cases cx : x = -2147483648
    · have ia : w64 (g (647 + 112 * m + 0) + g (647 + 112 * m + 1)) = g (647 + 112 * m + 0) + g (647 + 112 * m + 1) := by
        unfold in2 at f0 f1
        exact w64_e (by omega)
      simp only [wE_I, wE_V, wE_F, wE_A, wE_N, wE_1, wE_2, wE_D, wE_B, wE_If, wE_C, wE_CV, wE_SL, wE_SA, wA_0, wA_1, wC_B, wC_E, wC_And, wC_Or, wC_Not, wS_Skip, wS_Brk, wS_Cnt, wS_RetV, wS_Ret, wS_Seq, wS_Set, wS_Inc, wS_Do, wS_Put, wS_PutC, wS_Arr, wS_ArrC, wS_If, wS_Sw, wS_F0, wS_F1, wM_q, lu_ap, aL_ap, ct_0, ct_1, ct_2, ct_3, ct_4, ct_5, headD_1, List.mem_cons, List.not_mem_nil, or_false, false_or, or_true, true_or, true_and, and_true, false_and, and_false, not_true_eq_false, not_false_eq_true, if_true, if_false, nr_20, nr_24, nr_40, nr_41, nr_44, pt_lt, pt_ge, pt_eq, pt_ne, pt_gt, pt_le, pt_E, pt_N, pt_F, ite_10, ite_11, ne_eq, and_self, or_self, decide_true, decide_false, Bool.not_true, Bool.not_false, Bool.false_eq_true, Nat.reduceEqDiff, Nat.reduceAdd, Int.reduceEq, Int.reduceLT, Int.reduceLE, Int.reduceNeg, Int.reduceAdd, Int.reduceSub, Int.reduceMul, reduceCtorEq, iA, iS, iM, iD, iR, iN, lA, lS, lM, lD, lR, h.k, (hw _).p0, h.a1, h.n1, vf_is, vf_vu, n0, n1, n2, n4, n5, n7, n9, cx, wM_of (aF _ _ r0), qF _ r0, wM_of (aF _ _ r1), qF _ r1, ia, wM_of (hh _ _)]
    · have hx0 : 0 ≤ x ∧ x ≤ 999999000 := by unfold tv at hx; omega
      have ln := m_learn (f := g) (p := p) (x := x) (off := off) h hB hB2 hm (by omega) hx0 ⟨ob.1, ob.2.2 cx⟩ hlb htb hsb f0 f1 (by rw [l4]; exact hj.1) (by rw [l28, hS]; unfold in2; omega)
      simp only [wE_I, wE_V, wE_F, wE_A, wE_N, wE_1, wE_2, wE_D, wE_B, wE_If, wE_C, wE_CV, wE_SL, wE_SA, wA_0, wA_1, wC_B, wC_E, wC_And, wC_Or, wC_Not, wS_Skip, wS_Brk, wS_Cnt, wS_RetV, wS_Ret, wS_Seq, wS_Set, wS_Inc, wS_Do, wS_Put, wS_PutC, wS_Arr, wS_ArrC, wS_If, wS_Sw, wS_F0, wS_F1, wM_q, lu_ap, aL_ap, ct_0, ct_1, ct_2, ct_3, ct_4, ct_5, headD_1, List.mem_cons, List.not_mem_nil, or_false, false_or, or_true, true_or, true_and, and_true, false_and, and_false, not_true_eq_false, not_false_eq_true, if_true, if_false, nr_20, nr_24, nr_40, nr_41, nr_44, pt_lt, pt_ge, pt_eq, pt_ne, pt_gt, pt_le, pt_E, pt_N, pt_F, ite_10, ite_11, ne_eq, and_self, or_self, decide_true, decide_false, Bool.not_true, Bool.not_false, Bool.false_eq_true, Nat.reduceEqDiff, Nat.reduceAdd, Int.reduceEq, Int.reduceLT, Int.reduceLE, Int.reduceNeg, Int.reduceAdd, Int.reduceSub, Int.reduceMul, reduceCtorEq, iA, iS, iM, iD, iR, iN, lA, lS, lM, lD, lR, h.k, n0, n1, n2, n4, n5, n7, n9, cx, wM_of ln]
end FL
