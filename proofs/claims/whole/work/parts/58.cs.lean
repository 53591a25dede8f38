/-! THE CLASS'S QUESTIONS: shows -/
def jn (c l r : Int) : Int := if c = 10020 then (if l = -2147483648 then r else l) else if l = -2147483648 ∨ r = -2147483648 ∨ (c = 10024 ∧ r = 0) then -2147483648 else if c = 10021 then hd (l + r) else if c = 10022 then hd (l - r) else if c = 10023 then hd ((l * r).tdiv 1000) else hd ((1000 * l).tdiv r)
def un (res μ : Int → Int) (c : Int) : Int := if 10010 ≤ c then res (c - 10010) else if 10000 ≤ c then μ (c - 10000) else 1000 * c
/-- how many stand on the stack behind j codes from a on -/
def dp (c : Int → Int) (a : Int) : Nat → Int
  | 0 => 0
  | j + 1 => if 10020 ≤ c (a + j) then dp c a j - 1 else dp c a j + 1
def stk (c res μ : Int → Int) (a : Int) : Nat → Int → Int
  | 0, _ => 0
  | j + 1, i => if 10020 ≤ c (a + j) then (if i = dp c a j - 2 then jn (c (a + j)) (stk c res μ a j (dp c a j - 2)) (stk c res μ a j (dp c a j - 1)) else stk c res μ a j i) else (if i = dp c a j then un res μ (c (a + j)) else stk c res μ a j i)
/-- where a show's code begins -/
def ss (e : Int → Int) (s : Nat) : Int := if s = 0 then 0 else e (s - 1 : Int)
def rs (c e μ : Int → Int) : Nat → Int → Int
  | 0, _ => 0
  | s + 1, k => if k = s then stk c (rs c e μ s) μ (ss e s) (e s - ss e s).toNat 0 else rs c e μ s k
def vv (x : Int) : Prop := x = -2147483648 ∨ (-2000000000 ≤ x ∧ x ≤ 2000000000)
/-- a code that may stand there -/
def wc (c : Int → Int) (nm : Int) (s : Nat) (a : Int) (j : Nat) : Prop := (10020 ≤ c (a + j) ∧ c (a + j) ≤ 10024 ∧ 2 ≤ dp c a j ∧ dp c a j ≤ 30) ∨ (0 ≤ dp c a j ∧ dp c a j < 30 ∧ ((0 ≤ c (a + j) ∧ c (a + j) ≤ 9999) ∨ (10000 ≤ c (a + j) ∧ c (a + j) < 10000 + nm) ∨ (10010 ≤ c (a + j) ∧ c (a + j) < 10010 + s)))
def WF (c e : Int → Int) (nm : Int) (ns : Nat) : Prop := ∀ s : Nat, s < ns → (0 ≤ ss e s ∧ ss e s ≤ e s ∧ e s ≤ 60) ∧ (∀ j : Nat, ss e s + j < e s → wc c nm s (ss e s) j) ∧ dp c (ss e s) (e s - ss e s).toNat = 1
/-- a code of the class, its part; that of the reference -/
def crel (x p c : Int) : Prop := (x = 1 ∧ 0 ≤ c ∧ c ≤ 9999 ∧ p = 1000 * c) ∨ (x = 2 ∧ 0 ≤ p ∧ p < 4 ∧ c = 10000 + p) ∨ (x = 3 ∧ 0 ≤ p ∧ p < 4 ∧ c = 10010 + p) ∨ (x = 273 ∧ c = 10020) ∨ (x = 43 ∧ c = 10021) ∨ (x = 45 ∧ c = 10022) ∨ (x = 42 ∧ c = 10023) ∨ (x = 47 ∧ c = 10024)
theorem hd_vv (x : Int) : vv (hd x) := Or.inr (hd_b x)
theorem jn_vv {c l r : Int} (hl : vv l) (hr : vv r) : vv (jn c l r) := by
  unfold jn
  split
  · split <;> assumption
  · split
    · exact Or.inl rfl
    · split
      · exact hd_vv _
      · split
        · exact hd_vv _
        · split <;> exact hd_vv _
theorem mul_abs {l r : Int} (hl : -2000000000 ≤ l ∧ l ≤ 2000000000) (hr : -2000000000 ≤ r ∧ r ≤ 2000000000) : -4000000000000000000 ≤ l * r ∧ l * r ≤ 4000000000000000000 := by
  have h : (l * r).natAbs ≤ 2000000000 * 2000000000 := by
    rw [Int.natAbs_mul]
    exact Nat.mul_le_mul (by omega) (by omega)
  omega
theorem tdiv_abs {z d B : Int} (hz : -B ≤ z ∧ z ≤ B) (hd : d ≠ 0) : -B ≤ z.tdiv d ∧ z.tdiv d ≤ B := by
  have h : (z.tdiv d).natAbs ≤ z.natAbs := by
    rw [Int.natAbs_tdiv]
    exact Nat.div_le_self _ _
  omega
section CS
variable {S : QS} {v w : QV} {b P s : Int}
theorem q_push {F x : Int} (hF : LFo S v F) (hd : 0 ≤ v F 8 ∧ v F 8 < 30) : mX1_push [F, x] S v = some (0, vu (vu v (F + 5) (v F 8) x) F 8 (v F 8 + 1)) := by
  apply wM_eq
  have e1 : w32 (v F 8 + 1) = v F 8 + 1 := w32_e (by omega)
  have e2 : ∀ z, vu v (F + 5) (v F 8) z F 8 = v F 8 := fun z => vu_ne (by omega)
  have e3 : 20 ≤ S.1 (F + 5) := by rw [hF.a5]; decide
  simp only [mX1_push, sX1_push, wE_I, wE_V, wE_F, wE_A, wE_N, wE_1, wE_2, wE_D, wE_B, wE_If, wE_C, wE_CV, wE_SL, wE_SA, wA_0, wA_1, wC_B, wC_E, wC_And, wC_Or, wC_Not, wS_Skip, wS_Brk, wS_Cnt, wS_RetV, wS_Ret, wS_Seq, wS_Set, wS_Inc, wS_Do, wS_Put, wS_PutC, wS_Arr, wS_ArrC, wS_If, wS_Sw, wS_F0, wS_F1, wM_q, lu_ap, aL_ap, ct_0, ct_1, ct_2, ct_3, ct_4, ct_5, headD_1, List.mem_cons, List.not_mem_nil, or_false, false_or, or_true, true_or, true_and, and_true, false_and, and_false, not_true_eq_false, not_false_eq_true, if_true, if_false, nr_20, nr_24, nr_40, nr_41, nr_44, pt_lt, pt_ge, pt_eq, pt_ne, pt_gt, pt_le, pt_E, pt_N, pt_F, ite_10, ite_11, ne_eq, and_self, or_self, decide_true, decide_false, Bool.not_true, Bool.not_false, Bool.false_eq_true, Nat.reduceEqDiff, Nat.reduceAdd, Int.reduceEq, Int.reduceLT, Int.reduceLE, Int.reduceNeg, Int.reduceAdd, Int.reduceSub, Int.reduceMul, reduceCtorEq, iA, iS, iM, iD, iR, iN, lA, lS, lM, lD, lR, hF.k, hF.p7, hF.a5, hF.n5, hd, e1, e2, e3, Nat.le_refl]
theorem q_pop {F : Int} (hF : LFo S v F) (hd : 0 < v F 8 ∧ v F 8 ≤ 30) : mX1_pop [F] S v = some (v (F + 5) (v F 8 - 1), vu v F 8 (v F 8 - 1)) := by
  apply wM_eq
  have e0 : ¬ v F 8 = 0 := by omega
  have e1 : w32 (v F 8 - 1) = v F 8 - 1 := w32_e (by omega)
  have e4 : 0 ≤ v F 8 - 1 ∧ v F 8 - 1 < 30 := by clear e1; omega
  have e2 : ∀ z k, vu v F 8 z (F + 5) k = v (F + 5) k := fun z k => vu_ne (by omega)
  have e3 : ∀ z, vu v F 8 z F 7 = v F 7 := fun z => vu_ne (by omega)
  simp only [mX1_pop, sX1_pop, wE_I, wE_V, wE_F, wE_A, wE_N, wE_1, wE_2, wE_D, wE_B, wE_If, wE_C, wE_CV, wE_SL, wE_SA, wA_0, wA_1, wC_B, wC_E, wC_And, wC_Or, wC_Not, wS_Skip, wS_Brk, wS_Cnt, wS_RetV, wS_Ret, wS_Seq, wS_Set, wS_Inc, wS_Do, wS_Put, wS_PutC, wS_Arr, wS_ArrC, wS_If, wS_Sw, wS_F0, wS_F1, wM_q, lu_ap, aL_ap, ct_0, ct_1, ct_2, ct_3, ct_4, ct_5, headD_1, List.mem_cons, List.not_mem_nil, or_false, false_or, or_true, true_or, true_and, and_true, false_and, and_false, not_true_eq_false, not_false_eq_true, if_true, if_false, nr_20, nr_24, nr_40, nr_41, nr_44, pt_lt, pt_ge, pt_eq, pt_ne, pt_gt, pt_le, pt_E, pt_N, pt_F, ite_10, ite_11, ne_eq, and_self, or_self, decide_true, decide_false, Bool.not_true, Bool.not_false, Bool.false_eq_true, Nat.reduceEqDiff, Nat.reduceAdd, Int.reduceEq, Int.reduceLT, Int.reduceLE, Int.reduceNeg, Int.reduceAdd, Int.reduceSub, Int.reduceMul, reduceCtorEq, iA, iS, iM, iD, iR, iN, lA, lS, lM, lD, lR, hF.k, hF.p7, hF.a5, hF.n5, e0, e1, e2, e3, e4, vu_is]
theorem q_joined {x c l r : Int} (hc : (x = 273 ∧ c = 10020) ∨ (x = 43 ∧ c = 10021) ∨ (x = 45 ∧ c = 10022) ∨ (x = 42 ∧ c = 10023) ∨ (x = 47 ∧ c = 10024)) (hl : vv l) (hr : vv r) : mX1_joined [x, l, r] S v = some (jn c l r, v) := by
  apply wM_eq
  have hb1 : -2147483648 ≤ l ∧ l ≤ 2000000000 := by unfold vv at hl; omega
  have hb2 : -2147483648 ≤ r ∧ r ≤ 2000000000 := by unfold vv at hr; omega
  have el : w32 l = l := w32_e (by omega)
  have er : w32 r = r := w32_e (by omega)
  rcases hc with ⟨rfl, rfl⟩ | hc
  · by_cases h1 : l = -2147483648
    · simp only [mX1_joined, sX1_joined, wE_I, wE_V, wE_F, wE_A, wE_N, wE_1, wE_2, wE_D, wE_B, wE_If, wE_C, wE_CV, wE_SL, wE_SA, wA_0, wA_1, wC_B, wC_E, wC_And, wC_Or, wC_Not, wS_Skip, wS_Brk, wS_Cnt, wS_RetV, wS_Ret, wS_Seq, wS_Set, wS_Inc, wS_Do, wS_Put, wS_PutC, wS_Arr, wS_ArrC, wS_If, wS_Sw, wS_F0, wS_F1, wM_q, lu_ap, aL_ap, ct_0, ct_1, ct_2, ct_3, ct_4, ct_5, headD_1, List.mem_cons, List.not_mem_nil, or_false, false_or, or_true, true_or, true_and, and_true, false_and, and_false, not_true_eq_false, not_false_eq_true, if_true, if_false, nr_20, nr_24, nr_40, nr_41, nr_44, pt_lt, pt_ge, pt_eq, pt_ne, pt_gt, pt_le, pt_E, pt_N, pt_F, ite_10, ite_11, ne_eq, and_self, or_self, decide_true, decide_false, Bool.not_true, Bool.not_false, Bool.false_eq_true, Nat.reduceEqDiff, Nat.reduceAdd, Int.reduceEq, Int.reduceLT, Int.reduceLE, Int.reduceNeg, Int.reduceAdd, Int.reduceSub, Int.reduceMul, reduceCtorEq, iA, iS, iM, iD, iR, iN, lA, lS, lM, lD, lR, h1, er, jn]
    · simp only [mX1_joined, sX1_joined, wE_I, wE_V, wE_F, wE_A, wE_N, wE_1, wE_2, wE_D, wE_B, wE_If, wE_C, wE_CV, wE_SL, wE_SA, wA_0, wA_1, wC_B, wC_E, wC_And, wC_Or, wC_Not, wS_Skip, wS_Brk, wS_Cnt, wS_RetV, wS_Ret, wS_Seq, wS_Set, wS_Inc, wS_Do, wS_Put, wS_PutC, wS_Arr, wS_ArrC, wS_If, wS_Sw, wS_F0, wS_F1, wM_q, lu_ap, aL_ap, ct_0, ct_1, ct_2, ct_3, ct_4, ct_5, headD_1, List.mem_cons, List.not_mem_nil, or_false, false_or, or_true, true_or, true_and, and_true, false_and, and_false, not_true_eq_false, not_false_eq_true, if_true, if_false, nr_20, nr_24, nr_40, nr_41, nr_44, pt_lt, pt_ge, pt_eq, pt_ne, pt_gt, pt_le, pt_E, pt_N, pt_F, ite_10, ite_11, ne_eq, and_self, or_self, decide_true, decide_false, Bool.not_true, Bool.not_false, Bool.false_eq_true, Nat.reduceEqDiff, Nat.reduceAdd, Int.reduceEq, Int.reduceLT, Int.reduceLE, Int.reduceNeg, Int.reduceAdd, Int.reduceSub, Int.reduceMul, reduceCtorEq, iA, iS, iM, iD, iR, iN, lA, lS, lM, lD, lR, h1, el, jn]
  · clear el er
    by_cases h1 : l = -2147483648
    · rcases hc with ⟨rfl, rfl⟩ | ⟨rfl, rfl⟩ | ⟨rfl, rfl⟩ | ⟨rfl, rfl⟩ <;> simp only [mX1_joined, sX1_joined, wE_I, wE_V, wE_F, wE_A, wE_N, wE_1, wE_2, wE_D, wE_B, wE_If, wE_C, wE_CV, wE_SL, wE_SA, wA_0, wA_1, wC_B, wC_E, wC_And, wC_Or, wC_Not, wS_Skip, wS_Brk, wS_Cnt, wS_RetV, wS_Ret, wS_Seq, wS_Set, wS_Inc, wS_Do, wS_Put, wS_PutC, wS_Arr, wS_ArrC, wS_If, wS_Sw, wS_F0, wS_F1, wM_q, lu_ap, aL_ap, ct_0, ct_1, ct_2, ct_3, ct_4, ct_5, headD_1, List.mem_cons, List.not_mem_nil, or_false, false_or, or_true, true_or, true_and, and_true, false_and, and_false, not_true_eq_false, not_false_eq_true, if_true, if_false, nr_20, nr_24, nr_40, nr_41, nr_44, pt_lt, pt_ge, pt_eq, pt_ne, pt_gt, pt_le, pt_E, pt_N, pt_F, ite_10, ite_11, ne_eq, and_self, or_self, decide_true, decide_false, Bool.not_true, Bool.not_false, Bool.false_eq_true, Nat.reduceEqDiff, Nat.reduceAdd, Int.reduceEq, Int.reduceLT, Int.reduceLE, Int.reduceNeg, Int.reduceAdd, Int.reduceSub, Int.reduceMul, reduceCtorEq, iA, iS, iM, iD, iR, iN, lA, lS, lM, lD, lR, h1, jn]
    · by_cases h2 : r = -2147483648
      · rcases hc with ⟨rfl, rfl⟩ | ⟨rfl, rfl⟩ | ⟨rfl, rfl⟩ | ⟨rfl, rfl⟩ <;> simp only [mX1_joined, sX1_joined, wE_I, wE_V, wE_F, wE_A, wE_N, wE_1, wE_2, wE_D, wE_B, wE_If, wE_C, wE_CV, wE_SL, wE_SA, wA_0, wA_1, wC_B, wC_E, wC_And, wC_Or, wC_Not, wS_Skip, wS_Brk, wS_Cnt, wS_RetV, wS_Ret, wS_Seq, wS_Set, wS_Inc, wS_Do, wS_Put, wS_PutC, wS_Arr, wS_ArrC, wS_If, wS_Sw, wS_F0, wS_F1, wM_q, lu_ap, aL_ap, ct_0, ct_1, ct_2, ct_3, ct_4, ct_5, headD_1, List.mem_cons, List.not_mem_nil, or_false, false_or, or_true, true_or, true_and, and_true, false_and, and_false, not_true_eq_false, not_false_eq_true, if_true, if_false, nr_20, nr_24, nr_40, nr_41, nr_44, pt_lt, pt_ge, pt_eq, pt_ne, pt_gt, pt_le, pt_E, pt_N, pt_F, ite_10, ite_11, ne_eq, and_self, or_self, decide_true, decide_false, Bool.not_true, Bool.not_false, Bool.false_eq_true, Nat.reduceEqDiff, Nat.reduceAdd, Int.reduceEq, Int.reduceLT, Int.reduceLE, Int.reduceNeg, Int.reduceAdd, Int.reduceSub, Int.reduceMul, reduceCtorEq, iA, iS, iM, iD, iR, iN, lA, lS, lM, lD, lR, h1, h2, jn]
      · have l1 : -2000000000 ≤ l ∧ l ≤ 2000000000 := by unfold vv at hl; omega
        have r1 : -2000000000 ≤ r ∧ r ≤ 2000000000 := by unfold vv at hr; omega
        rcases hc with ⟨rfl, rfl⟩ | ⟨rfl, rfl⟩ | ⟨rfl, rfl⟩ | ⟨rfl, rfl⟩
        · have e1 : w64 (l + r) = l + r := w64_e (by omega)
          simp only [mX1_joined, sX1_joined, wE_I, wE_V, wE_F, wE_A, wE_N, wE_1, wE_2, wE_D, wE_B, wE_If, wE_C, wE_CV, wE_SL, wE_SA, wA_0, wA_1, wC_B, wC_E, wC_And, wC_Or, wC_Not, wS_Skip, wS_Brk, wS_Cnt, wS_RetV, wS_Ret, wS_Seq, wS_Set, wS_Inc, wS_Do, wS_Put, wS_PutC, wS_Arr, wS_ArrC, wS_If, wS_Sw, wS_F0, wS_F1, wM_q, lu_ap, aL_ap, ct_0, ct_1, ct_2, ct_3, ct_4, ct_5, headD_1, List.mem_cons, List.not_mem_nil, or_false, false_or, or_true, true_or, true_and, and_true, false_and, and_false, not_true_eq_false, not_false_eq_true, if_true, if_false, nr_20, nr_24, nr_40, nr_41, nr_44, pt_lt, pt_ge, pt_eq, pt_ne, pt_gt, pt_le, pt_E, pt_N, pt_F, ite_10, ite_11, ne_eq, and_self, or_self, decide_true, decide_false, Bool.not_true, Bool.not_false, Bool.false_eq_true, Nat.reduceEqDiff, Nat.reduceAdd, Int.reduceEq, Int.reduceLT, Int.reduceLE, Int.reduceNeg, Int.reduceAdd, Int.reduceSub, Int.reduceMul, reduceCtorEq, iA, iS, iM, iD, iR, iN, lA, lS, lM, lD, lR, h1, h2, jn, e1, wM_of q_held]
        · have e1 : w64 (l - r) = l - r := w64_e (by omega)
          simp only [mX1_joined, sX1_joined, wE_I, wE_V, wE_F, wE_A, wE_N, wE_1, wE_2, wE_D, wE_B, wE_If, wE_C, wE_CV, wE_SL, wE_SA, wA_0, wA_1, wC_B, wC_E, wC_And, wC_Or, wC_Not, wS_Skip, wS_Brk, wS_Cnt, wS_RetV, wS_Ret, wS_Seq, wS_Set, wS_Inc, wS_Do, wS_Put, wS_PutC, wS_Arr, wS_ArrC, wS_If, wS_Sw, wS_F0, wS_F1, wM_q, lu_ap, aL_ap, ct_0, ct_1, ct_2, ct_3, ct_4, ct_5, headD_1, List.mem_cons, List.not_mem_nil, or_false, false_or, or_true, true_or, true_and, and_true, false_and, and_false, not_true_eq_false, not_false_eq_true, if_true, if_false, nr_20, nr_24, nr_40, nr_41, nr_44, pt_lt, pt_ge, pt_eq, pt_ne, pt_gt, pt_le, pt_E, pt_N, pt_F, ite_10, ite_11, ne_eq, and_self, or_self, decide_true, decide_false, Bool.not_true, Bool.not_false, Bool.false_eq_true, Nat.reduceEqDiff, Nat.reduceAdd, Int.reduceEq, Int.reduceLT, Int.reduceLE, Int.reduceNeg, Int.reduceAdd, Int.reduceSub, Int.reduceMul, reduceCtorEq, iA, iS, iM, iD, iR, iN, lA, lS, lM, lD, lR, h1, h2, jn, e1, wM_of q_held]
        · have hm := mul_abs l1 r1
          have e1 : w64 (l * r) = l * r := w64_e (by omega)
          have ht := tdiv_abs (z := l * r) (d := 1000) (B := 4000000000000000000) hm (by decide)
          have e2 : w64 ((l * r).tdiv 1000) = (l * r).tdiv 1000 := by clear e1; exact w64_e (by omega)
          simp only [mX1_joined, sX1_joined, wE_I, wE_V, wE_F, wE_A, wE_N, wE_1, wE_2, wE_D, wE_B, wE_If, wE_C, wE_CV, wE_SL, wE_SA, wA_0, wA_1, wC_B, wC_E, wC_And, wC_Or, wC_Not, wS_Skip, wS_Brk, wS_Cnt, wS_RetV, wS_Ret, wS_Seq, wS_Set, wS_Inc, wS_Do, wS_Put, wS_PutC, wS_Arr, wS_ArrC, wS_If, wS_Sw, wS_F0, wS_F1, wM_q, lu_ap, aL_ap, ct_0, ct_1, ct_2, ct_3, ct_4, ct_5, headD_1, List.mem_cons, List.not_mem_nil, or_false, false_or, or_true, true_or, true_and, and_true, false_and, and_false, not_true_eq_false, not_false_eq_true, if_true, if_false, nr_20, nr_24, nr_40, nr_41, nr_44, pt_lt, pt_ge, pt_eq, pt_ne, pt_gt, pt_le, pt_E, pt_N, pt_F, ite_10, ite_11, ne_eq, and_self, or_self, decide_true, decide_false, Bool.not_true, Bool.not_false, Bool.false_eq_true, Nat.reduceEqDiff, Nat.reduceAdd, Int.reduceEq, Int.reduceLT, Int.reduceLE, Int.reduceNeg, Int.reduceAdd, Int.reduceSub, Int.reduceMul, reduceCtorEq, iA, iS, iM, iD, iR, iN, lA, lS, lM, lD, lR, h1, h2, jn, e1, e2, wM_of q_held]
        · have e0 : l * 1000 = 1000 * l := Int.mul_comm _ _
          have e1 : w64 (1000 * l) = 1000 * l := w64_e (by omega)
          by_cases h3 : r = 0
          · simp only [mX1_joined, sX1_joined, wE_I, wE_V, wE_F, wE_A, wE_N, wE_1, wE_2, wE_D, wE_B, wE_If, wE_C, wE_CV, wE_SL, wE_SA, wA_0, wA_1, wC_B, wC_E, wC_And, wC_Or, wC_Not, wS_Skip, wS_Brk, wS_Cnt, wS_RetV, wS_Ret, wS_Seq, wS_Set, wS_Inc, wS_Do, wS_Put, wS_PutC, wS_Arr, wS_ArrC, wS_If, wS_Sw, wS_F0, wS_F1, wM_q, lu_ap, aL_ap, ct_0, ct_1, ct_2, ct_3, ct_4, ct_5, headD_1, List.mem_cons, List.not_mem_nil, or_false, false_or, or_true, true_or, true_and, and_true, false_and, and_false, not_true_eq_false, not_false_eq_true, if_true, if_false, nr_20, nr_24, nr_40, nr_41, nr_44, pt_lt, pt_ge, pt_eq, pt_ne, pt_gt, pt_le, pt_E, pt_N, pt_F, ite_10, ite_11, ne_eq, and_self, or_self, decide_true, decide_false, Bool.not_true, Bool.not_false, Bool.false_eq_true, Nat.reduceEqDiff, Nat.reduceAdd, Int.reduceEq, Int.reduceLT, Int.reduceLE, Int.reduceNeg, Int.reduceAdd, Int.reduceSub, Int.reduceMul, reduceCtorEq, iA, iS, iM, iD, iR, iN, lA, lS, lM, lD, lR, h1, h2, jn, h3]
          · have ht := tdiv_abs (z := 1000 * l) (d := r) (B := 2000000000000) (by clear e1; omega) h3
            have e2 : w64 ((1000 * l).tdiv r) = (1000 * l).tdiv r := by clear e1; exact w64_e (by omega)
            simp only [mX1_joined, sX1_joined, wE_I, wE_V, wE_F, wE_A, wE_N, wE_1, wE_2, wE_D, wE_B, wE_If, wE_C, wE_CV, wE_SL, wE_SA, wA_0, wA_1, wC_B, wC_E, wC_And, wC_Or, wC_Not, wS_Skip, wS_Brk, wS_Cnt, wS_RetV, wS_Ret, wS_Seq, wS_Set, wS_Inc, wS_Do, wS_Put, wS_PutC, wS_Arr, wS_ArrC, wS_If, wS_Sw, wS_F0, wS_F1, wM_q, lu_ap, aL_ap, ct_0, ct_1, ct_2, ct_3, ct_4, ct_5, headD_1, List.mem_cons, List.not_mem_nil, or_false, false_or, or_true, true_or, true_and, and_true, false_and, and_false, not_true_eq_false, not_false_eq_true, if_true, if_false, nr_20, nr_24, nr_40, nr_41, nr_44, pt_lt, pt_ge, pt_eq, pt_ne, pt_gt, pt_le, pt_E, pt_N, pt_F, ite_10, ite_11, ne_eq, and_self, or_self, decide_true, decide_false, Bool.not_true, Bool.not_false, Bool.false_eq_true, Nat.reduceEqDiff, Nat.reduceAdd, Int.reduceEq, Int.reduceLT, Int.reduceLE, Int.reduceNeg, Int.reduceAdd, Int.reduceSub, Int.reduceMul, reduceCtorEq, iA, iS, iM, iD, iR, iN, lA, lS, lM, lD, lR, h1, h2, jn, h3, e0, e1, e2, wM_of q_held]
end CS
