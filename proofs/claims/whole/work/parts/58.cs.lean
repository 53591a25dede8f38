/-! THE CLASS'S QUESTIONS: shows -/
def jn (c l r : Int) : Int := if c = 10020 then (if l = -2147483648 then r else l) else if l = -2147483648 ∨ r = -2147483648 ∨ (c = 10024 ∧ r = 0) then -2147483648 else if c = 10021 then hd (l + r) else if c = 10022 then hd (l - r) else if c = 10023 then hd ((l * r).tdiv 1000) else hd ((1000 * l).tdiv r)
def un (res μ : Int → Int) (c : Int) : Int := if 10010 ≤ c then res (c - 10010) else if 10000 ≤ c then μ (c - 10000) else 1000 * c
/-- how many stand on the stack behind j codes from a on -/
def dp (c : Int → Int) (a : Int) : Nat → Int
  | 0 => 0
  | j + 1 => if 10020 ≤ c (a + j) then dp c a j - 1 else dp c a j + 1
def stk (c res μ : Int → Int) (a : Int) : Nat → Int → Int
  | 0, _ => 0
  | j + 1, i => if 10020 ≤ c (a + j) then (if i = dp c a j - 2 then jn (c (a + j)) (stk c res μ a j (dp c a j - 2)) (stk c res μ a j (dp c a j - 1)) else stk c res μ a j i) else (if i = dp c a j then un res μ (c (a + j)) else stk c res μ a j i)
/-- where a show's code begins -/
def ss (e : Int → Int) (s : Nat) : Int := if s = 0 then 0 else e (s - 1 : Int)
def rs (c e μ : Int → Int) : Nat → Int → Int
  | 0, _ => 0
  | s + 1, k => if k = s then stk c (rs c e μ s) μ (ss e s) (e s - ss e s).toNat 0 else rs c e μ s k
def vv (x : Int) : Prop := x = -2147483648 ∨ (-2000000000 ≤ x ∧ x ≤ 2000000000)
/-- a code that may stand there -/
def wc (c : Int → Int) (nm : Int) (s : Nat) (a : Int) (j : Nat) : Prop := (10020 ≤ c (a + j) ∧ c (a + j) ≤ 10024 ∧ 2 ≤ dp c a j ∧ dp c a j ≤ 30) ∨ (0 ≤ dp c a j ∧ dp c a j < 30 ∧ ((0 ≤ c (a + j) ∧ c (a + j) ≤ 9999) ∨ (10000 ≤ c (a + j) ∧ c (a + j) < 10000 + nm) ∨ (10010 ≤ c (a + j) ∧ c (a + j) < 10010 + s)))
def WF (c e : Int → Int) (nm : Int) (ns : Nat) : Prop := ∀ s : Nat, s < ns → (0 ≤ ss e s ∧ ss e s ≤ e s ∧ e s ≤ 60) ∧ (∀ j : Nat, ss e s + j < e s → wc c nm s (ss e s) j) ∧ dp c (ss e s) (e s - ss e s).toNat = 1
/-- a code of the class, its part; that of the reference -/
def crel (x p c : Int) : Prop := (x = 1 ∧ 0 ≤ c ∧ c ≤ 9999 ∧ p = 1000 * c) ∨ (x = 2 ∧ 0 ≤ p ∧ p < 4 ∧ c = 10000 + p) ∨ (x = 3 ∧ 0 ≤ p ∧ p < 4 ∧ c = 10010 + p) ∨ (x = 273 ∧ c = 10020) ∨ (x = 43 ∧ c = 10021) ∨ (x = 45 ∧ c = 10022) ∨ (x = 42 ∧ c = 10023) ∨ (x = 47 ∧ c = 10024)
theorem hd_vv (x : Int) : vv (hd x) := Or.inr (hd_b x)
theorem jn_vv {c l r : Int} (hl : vv l) (hr : vv r) : vv (jn c l r) := by
  unfold jn
  split
  · split <;> assumption
  · split
    · exact Or.inl rfl
    · split
      · exact hd_vv _
      · split
        · exact hd_vv _
        · split <;> exact hd_vv _
theorem mul_abs {l r : Int} (hl : -2000000000 ≤ l ∧ l ≤ 2000000000) (hr : -2000000000 ≤ r ∧ r ≤ 2000000000) : -4000000000000000000 ≤ l * r ∧ l * r ≤ 4000000000000000000 := by
  have h : (l * r).natAbs ≤ 2000000000 * 2000000000 := by
    rw [Int.natAbs_mul]
    exact Nat.mul_le_mul (by omega) (by omega)
  omega
theorem tdiv_abs {z d B : Int} (hz : -B ≤ z ∧ z ≤ B) (hd : d ≠ 0) : -B ≤ z.tdiv d ∧ z.tdiv d ≤ B := by
  have h : (z.tdiv d).natAbs ≤ z.natAbs := by
    rw [Int.natAbs_tdiv]
    exact Nat.div_le_self _ _
  omega
section CS
variable {S : QS} {v w : QV} {b P s : Int}
theorem q_push {F x : Int} (hF : LFo S v F) (hd : 0 ≤ v F 8 ∧ v F 8 < 30) : mX1_push [F, x] S v = some (0, vu (vu v (F + 5) (v F 8) x) F 8 (v F 8 + 1)) := by
  apply wM_eq
  have e1 : w32 (v F 8 + 1) = v F 8 + 1 := w32_e (by omega)
  have e2 : ∀ z, vu v (F + 5) (v F 8) z F 8 = v F 8 := fun z => vu_ne (by omega)
  have e3 : 20 ≤ S.1 (F + 5) := by rw [hF.a5]; decide
  simp only [mX1_push, sX1_push, wE_I, wE_V, wE_F, wE_A, wE_N, wE_1, wE_2, wE_D, wE_B, wE_If, wE_C, wE_CV, wE_SL, wE_SA, wA_0, wA_1, wC_B, wC_E, wC_And, wC_Or, wC_Not, wS_Skip, wS_Brk, wS_Cnt, wS_RetV, wS_Ret, wS_Seq, wS_Set, wS_Inc, wS_Do, wS_Put, wS_PutC, wS_Arr, wS_ArrC, wS_If, wS_Sw, wS_F0, wS_F1, wM_q, lu_ap, aL_ap, ct_0, ct_1, ct_2, ct_3, ct_4, ct_5, headD_1, List.mem_cons, List.not_mem_nil, or_false, false_or, or_true, true_or, true_and, and_true, false_and, and_false, not_true_eq_false, not_false_eq_true, if_true, if_false, nr_20, nr_24, nr_40, nr_41, nr_44, pt_lt, pt_ge, pt_eq, pt_ne, pt_gt, pt_le, pt_E, pt_N, pt_F, ite_10, ite_11, ne_eq, and_self, or_self, decide_true, decide_false, Bool.not_true, Bool.not_false, Bool.false_eq_true, Nat.reduceEqDiff, Nat.reduceAdd, Int.reduceEq, Int.reduceLT, Int.reduceLE, Int.reduceNeg, Int.reduceAdd, Int.reduceSub, Int.reduceMul, reduceCtorEq, iA, iS, iM, iD, iR, iN, lA, lS, lM, lD, lR, hF.k, hF.p7, hF.a5, hF.n5, hd, e1, e2, e3, Nat.le_refl]
theorem q_pop {F : Int} (hF : LFo S v F) (hd : 0 < v F 8 ∧ v F 8 ≤ 30) : mX1_pop [F] S v = some (v (F + 5) (v F 8 - 1), vu v F 8 (v F 8 - 1)) := by
  apply wM_eq
  have e0 : ¬ v F 8 = 0 := by omega
  have e1 : w32 (v F 8 - 1) = v F 8 - 1 := w32_e (by omega)
  have e4 : 0 ≤ v F 8 - 1 ∧ v F 8 - 1 < 30 := by clear e1; omega
  have e2 : ∀ z k, vu v F 8 z (F + 5) k = v (F + 5) k := fun z k => vu_ne (by omega)
  have e3 : ∀ z, vu v F 8 z F 7 = v F 7 := fun z => vu_ne (by omega)
  simp only [mX1_pop, sX1_pop, wE_I, wE_V, wE_F, wE_A, wE_N, wE_1, wE_2, wE_D, wE_B, wE_If, wE_C, wE_CV, wE_SL, wE_SA, wA_0, wA_1, wC_B, wC_E, wC_And, wC_Or, wC_Not, wS_Skip, wS_Brk, wS_Cnt, wS_RetV, wS_Ret, wS_Seq, wS_Set, wS_Inc, wS_Do, wS_Put, wS_PutC, wS_Arr, wS_ArrC, wS_If, wS_Sw, wS_F0, wS_F1, wM_q, lu_ap, aL_ap, ct_0, ct_1, ct_2, ct_3, ct_4, ct_5, headD_1, List.mem_cons, List.not_mem_nil, or_false, false_or, or_true, true_or, true_and, and_true, false_and, and_false, not_true_eq_false, not_false_eq_true, if_true, if_false, nr_20, nr_24, nr_40, nr_41, nr_44, pt_lt, pt_ge, pt_eq, pt_ne, pt_gt, pt_le, pt_E, pt_N, pt_F, ite_10, ite_11, ne_eq, and_self, or_self, decide_true, decide_false, Bool.not_true, Bool.not_false, Bool.false_eq_true, Nat.reduceEqDiff, Nat.reduceAdd, Int.reduceEq, Int.reduceLT, Int.reduceLE, Int.reduceNeg, Int.reduceAdd, Int.reduceSub, Int.reduceMul, reduceCtorEq, iA, iS, iM, iD, iR, iN, lA, lS, lM, lD, lR, hF.k, hF.p7, hF.a5, hF.n5, e0, e1, e2, e3, e4, vu_is]
theorem q_joined {x c l r : Int} (hc : (x = 273 ∧ c = 10020) ∨ (x = 43 ∧ c = 10021) ∨ (x = 45 ∧ c = 10022) ∨ (x = 42 ∧ c = 10023) ∨ (x = 47 ∧ c = 10024)) (hl : vv l) (hr : vv r) : mX1_joined [x, l, r] S v = some (jn c l r, v) := by
  apply wM_eq
  have hb1 : -2147483648 ≤ l ∧ l ≤ 2000000000 := by unfold vv at hl; omega
  have hb2 : -2147483648 ≤ r ∧ r ≤ 2000000000 := by unfold vv at hr; omega
  have el : w32 l = l := w32_e (by omega)
  have er : w32 r = r := w32_e (by omega)
  rcases hc with ⟨rfl, rfl⟩ | hc
  · by_cases h1 : l = -2147483648
    · simp only [mX1_joined, sX1_joined, wE_I, wE_V, wE_F, wE_A, wE_N, wE_1, wE_2, wE_D, wE_B, wE_If, wE_C, wE_CV, wE_SL, wE_SA, wA_0, wA_1, wC_B, wC_E, wC_And, wC_Or, wC_Not, wS_Skip, wS_Brk, wS_Cnt, wS_RetV, wS_Ret, wS_Seq, wS_Set, wS_Inc, wS_Do, wS_Put, wS_PutC, wS_Arr, wS_ArrC, wS_If, wS_Sw, wS_F0, wS_F1, wM_q, lu_ap, aL_ap, ct_0, ct_1, ct_2, ct_3, ct_4, ct_5, headD_1, List.mem_cons, List.not_mem_nil, or_false, false_or, or_true, true_or, true_and, and_true, false_and, and_false, not_true_eq_false, not_false_eq_true, if_true, if_false, nr_20, nr_24, nr_40, nr_41, nr_44, pt_lt, pt_ge, pt_eq, pt_ne, pt_gt, pt_le, pt_E, pt_N, pt_F, ite_10, ite_11, ne_eq, and_self, or_self, decide_true, decide_false, Bool.not_true, Bool.not_false, Bool.false_eq_true, Nat.reduceEqDiff, Nat.reduceAdd, Int.reduceEq, Int.reduceLT, Int.reduceLE, Int.reduceNeg, Int.reduceAdd, Int.reduceSub, Int.reduceMul, reduceCtorEq, iA, iS, iM, iD, iR, iN, lA, lS, lM, lD, lR, h1, er, jn]
    · simp only [mX1_joined, sX1_joined, wE_I, wE_V, wE_F, wE_A, wE_N, wE_1, wE_2, wE_D, wE_B, wE_If, wE_C, wE_CV, wE_SL, wE_SA, wA_0, wA_1, wC_B, wC_E, wC_And, wC_Or, wC_Not, wS_Skip, wS_Brk, wS_Cnt, wS_RetV, wS_Ret, wS_Seq, wS_Set, wS_Inc, wS_Do, wS_Put, wS_PutC, wS_Arr, wS_ArrC, wS_If, wS_Sw, wS_F0, wS_F1, wM_q, lu_ap, aL_ap, ct_0, ct_1, ct_2, ct_3, ct_4, ct_5, headD_1, List.mem_cons, List.not_mem_nil, or_false, false_or, or_true, true_or, true_and, and_true, false_and, and_false, not_true_eq_false, not_false_eq_true, if_true, if_false, nr_20, nr_24, nr_40, nr_41, nr_44, pt_lt, pt_ge, pt_eq, pt_ne, pt_gt, pt_le, pt_E, pt_N, pt_F, ite_10, ite_11, ne_eq, and_self, or_self, decide_true, decide_false, Bool.not_true, Bool.not_false, Bool.false_eq_true, Nat.reduceEqDiff, Nat.reduceAdd, Int.reduceEq, Int.reduceLT, Int.reduceLE, Int.reduceNeg, Int.reduceAdd, Int.reduceSub, Int.reduceMul, reduceCtorEq, iA, iS, iM, iD, iR, iN, lA, lS, lM, lD, lR, h1, el, jn]
  · clear el er
    by_cases h1 : l = -2147483648
    · rcases hc with ⟨rfl, rfl⟩ | ⟨rfl, rfl⟩ | ⟨rfl, rfl⟩ | ⟨rfl, rfl⟩ <;> simp only [mX1_joined, sX1_joined, wE_I, wE_V, wE_F, wE_A, wE_N, wE_1, wE_2, wE_D, wE_B, wE_If, wE_C, wE_CV, wE_SL, wE_SA, wA_0, wA_1, wC_B, wC_E, wC_And, wC_Or, wC_Not, wS_Skip, wS_Brk, wS_Cnt, wS_RetV, wS_Ret, wS_Seq, wS_Set, wS_Inc, wS_Do, wS_Put, wS_PutC, wS_Arr, wS_ArrC, wS_If, wS_Sw, wS_F0, wS_F1, wM_q, lu_ap, aL_ap, ct_0, ct_1, ct_2, ct_3, ct_4, ct_5, headD_1, List.mem_cons, List.not_mem_nil, or_false, false_or, or_true, true_or, true_and, and_true, false_and, and_false, not_true_eq_false, not_false_eq_true, if_true, if_false, nr_20, nr_24, nr_40, nr_41, nr_44, pt_lt, pt_ge, pt_eq, pt_ne, pt_gt, pt_le, pt_E, pt_N, pt_F, ite_10, ite_11, ne_eq, and_self, or_self, decide_true, decide_false, Bool.not_true, Bool.not_false, Bool.false_eq_true, Nat.reduceEqDiff, Nat.reduceAdd, Int.reduceEq, Int.reduceLT, Int.reduceLE, Int.reduceNeg, Int.reduceAdd, Int.reduceSub, Int.reduceMul, reduceCtorEq, iA, iS, iM, iD, iR, iN, lA, lS, lM, lD, lR, h1, jn]
    · by_cases h2 : r = -2147483648
      · rcases hc with ⟨rfl, rfl⟩ | ⟨rfl, rfl⟩ | ⟨rfl, rfl⟩ | ⟨rfl, rfl⟩ <;> simp only [mX1_joined, sX1_joined, wE_I, wE_V, wE_F, wE_A, wE_N, wE_1, wE_2, wE_D, wE_B, wE_If, wE_C, wE_CV, wE_SL, wE_SA, wA_0, wA_1, wC_B, wC_E, wC_And, wC_Or, wC_Not, wS_Skip, wS_Brk, wS_Cnt, wS_RetV, wS_Ret, wS_Seq, wS_Set, wS_Inc, wS_Do, wS_Put, wS_PutC, wS_Arr, wS_ArrC, wS_If, wS_Sw, wS_F0, wS_F1, wM_q, lu_ap, aL_ap, ct_0, ct_1, ct_2, ct_3, ct_4, ct_5, headD_1, List.mem_cons, List.not_mem_nil, or_false, false_or, or_true, true_or, true_and, and_true, false_and, and_false, not_true_eq_false, not_false_eq_true, if_true, if_false, nr_20, nr_24, nr_40, nr_41, nr_44, pt_lt, pt_ge, pt_eq, pt_ne, pt_gt, pt_le, pt_E, pt_N, pt_F, ite_10, ite_11, ne_eq, and_self, or_self, decide_true, decide_false, Bool.not_true, Bool.not_false, Bool.false_eq_true, Nat.reduceEqDiff, Nat.reduceAdd, Int.reduceEq, Int.reduceLT, Int.reduceLE, Int.reduceNeg, Int.reduceAdd, Int.reduceSub, Int.reduceMul, reduceCtorEq, iA, iS, iM, iD, iR, iN, lA, lS, lM, lD, lR, h1, h2, jn]
      · have l1 : -2000000000 ≤ l ∧ l ≤ 2000000000 := by unfold vv at hl; omega
        have r1 : -2000000000 ≤ r ∧ r ≤ 2000000000 := by unfold vv at hr; omega
        rcases hc with ⟨rfl, rfl⟩ | ⟨rfl, rfl⟩ | ⟨rfl, rfl⟩ | ⟨rfl, rfl⟩
        · have e1 : w64 (l + r) = l + r := w64_e (by omega)
          simp only [mX1_joined, sX1_joined, wE_I, wE_V, wE_F, wE_A, wE_N, wE_1, wE_2, wE_D, wE_B, wE_If, wE_C, wE_CV, wE_SL, wE_SA, wA_0, wA_1, wC_B, wC_E, wC_And, wC_Or, wC_Not, wS_Skip, wS_Brk, wS_Cnt, wS_RetV, wS_Ret, wS_Seq, wS_Set, wS_Inc, wS_Do, wS_Put, wS_PutC, wS_Arr, wS_ArrC, wS_If, wS_Sw, wS_F0, wS_F1, wM_q, lu_ap, aL_ap, ct_0, ct_1, ct_2, ct_3, ct_4, ct_5, headD_1, List.mem_cons, List.not_mem_nil, or_false, false_or, or_true, true_or, true_and, and_true, false_and, and_false, not_true_eq_false, not_false_eq_true, if_true, if_false, nr_20, nr_24, nr_40, nr_41, nr_44, pt_lt, pt_ge, pt_eq, pt_ne, pt_gt, pt_le, pt_E, pt_N, pt_F, ite_10, ite_11, ne_eq, and_self, or_self, decide_true, decide_false, Bool.not_true, Bool.not_false, Bool.false_eq_true, Nat.reduceEqDiff, Nat.reduceAdd, Int.reduceEq, Int.reduceLT, Int.reduceLE, Int.reduceNeg, Int.reduceAdd, Int.reduceSub, Int.reduceMul, reduceCtorEq, iA, iS, iM, iD, iR, iN, lA, lS, lM, lD, lR, h1, h2, jn, e1, wM_of q_held]
        · have e1 : w64 (l - r) = l - r := w64_e (by omega)
          simp only [mX1_joined, sX1_joined, wE_I, wE_V, wE_F, wE_A, wE_N, wE_1, wE_2, wE_D, wE_B, wE_If, wE_C, wE_CV, wE_SL, wE_SA, wA_0, wA_1, wC_B, wC_E, wC_And, wC_Or, wC_Not, wS_Skip, wS_Brk, wS_Cnt, wS_RetV, wS_Ret, wS_Seq, wS_Set, wS_Inc, wS_Do, wS_Put, wS_PutC, wS_Arr, wS_ArrC, wS_If, wS_Sw, wS_F0, wS_F1, wM_q, lu_ap, aL_ap, ct_0, ct_1, ct_2, ct_3, ct_4, ct_5, headD_1, List.mem_cons, List.not_mem_nil, or_false, false_or, or_true, true_or, true_and, and_true, false_and, and_false, not_true_eq_false, not_false_eq_true, if_true, if_false, nr_20, nr_24, nr_40, nr_41, nr_44, pt_lt, pt_ge, pt_eq, pt_ne, pt_gt, pt_le, pt_E, pt_N, pt_F, ite_10, ite_11, ne_eq, and_self, or_self, decide_true, decide_false, Bool.not_true, Bool.not_false, Bool.false_eq_true, Nat.reduceEqDiff, Nat.reduceAdd, Int.reduceEq, Int.reduceLT, Int.reduceLE, Int.reduceNeg, Int.reduceAdd, Int.reduceSub, Int.reduceMul, reduceCtorEq, iA, iS, iM, iD, iR, iN, lA, lS, lM, lD, lR, h1, h2, jn, e1, wM_of q_held]
        · have hm := mul_abs l1 r1
          have e1 : w64 (l * r) = l * r := w64_e (by omega)
          have ht := tdiv_abs (z := l * r) (d := 1000) (B := 4000000000000000000) hm (by decide)
          have e2 : w64 ((l * r).tdiv 1000) = (l * r).tdiv 1000 := by clear e1; exact w64_e (by omega)
          simp only [mX1_joined, sX1_joined, wE_I, wE_V, wE_F, wE_A, wE_N, wE_1, wE_2, wE_D, wE_B, wE_If, wE_C, wE_CV, wE_SL, wE_SA, wA_0, wA_1, wC_B, wC_E, wC_And, wC_Or, wC_Not, wS_Skip, wS_Brk, wS_Cnt, wS_RetV, wS_Ret, wS_Seq, wS_Set, wS_Inc, wS_Do, wS_Put, wS_PutC, wS_Arr, wS_ArrC, wS_If, wS_Sw, wS_F0, wS_F1, wM_q, lu_ap, aL_ap, ct_0, ct_1, ct_2, ct_3, ct_4, ct_5, headD_1, List.mem_cons, List.not_mem_nil, or_false, false_or, or_true, true_or, true_and, and_true, false_and, and_false, not_true_eq_false, not_false_eq_true, if_true, if_false, nr_20, nr_24, nr_40, nr_41, nr_44, pt_lt, pt_ge, pt_eq, pt_ne, pt_gt, pt_le, pt_E, pt_N, pt_F, ite_10, ite_11, ne_eq, and_self, or_self, decide_true, decide_false, Bool.not_true, Bool.not_false, Bool.false_eq_true, Nat.reduceEqDiff, Nat.reduceAdd, Int.reduceEq, Int.reduceLT, Int.reduceLE, Int.reduceNeg, Int.reduceAdd, Int.reduceSub, Int.reduceMul, reduceCtorEq, iA, iS, iM, iD, iR, iN, lA, lS, lM, lD, lR, h1, h2, jn, e1, e2, wM_of q_held]
        · have e0 : l * 1000 = 1000 * l := Int.mul_comm _ _
          have e1 : w64 (1000 * l) = 1000 * l := w64_e (by omega)
          by_cases h3 : r = 0
          · simp only [mX1_joined, sX1_joined, wE_I, wE_V, wE_F, wE_A, wE_N, wE_1, wE_2, wE_D, wE_B, wE_If, wE_C, wE_CV, wE_SL, wE_SA, wA_0, wA_1, wC_B, wC_E, wC_And, wC_Or, wC_Not, wS_Skip, wS_Brk, wS_Cnt, wS_RetV, wS_Ret, wS_Seq, wS_Set, wS_Inc, wS_Do, wS_Put, wS_PutC, wS_Arr, wS_ArrC, wS_If, wS_Sw, wS_F0, wS_F1, wM_q, lu_ap, aL_ap, ct_0, ct_1, ct_2, ct_3, ct_4, ct_5, headD_1, List.mem_cons, List.not_mem_nil, or_false, false_or, or_true, true_or, true_and, and_true, false_and, and_false, not_true_eq_false, not_false_eq_true, if_true, if_false, nr_20, nr_24, nr_40, nr_41, nr_44, pt_lt, pt_ge, pt_eq, pt_ne, pt_gt, pt_le, pt_E, pt_N, pt_F, ite_10, ite_11, ne_eq, and_self, or_self, decide_true, decide_false, Bool.not_true, Bool.not_false, Bool.false_eq_true, Nat.reduceEqDiff, Nat.reduceAdd, Int.reduceEq, Int.reduceLT, Int.reduceLE, Int.reduceNeg, Int.reduceAdd, Int.reduceSub, Int.reduceMul, reduceCtorEq, iA, iS, iM, iD, iR, iN, lA, lS, lM, lD, lR, h1, h2, jn, h3]
          · have ht := tdiv_abs (z := 1000 * l) (d := r) (B := 2000000000000) (by clear e1; omega) h3
            have e2 : w64 ((1000 * l).tdiv r) = (1000 * l).tdiv r := by clear e1; exact w64_e (by omega)
            simp only [mX1_joined, sX1_joined, wE_I, wE_V, wE_F, wE_A, wE_N, wE_1, wE_2, wE_D, wE_B, wE_If, wE_C, wE_CV, wE_SL, wE_SA, wA_0, wA_1, wC_B, wC_E, wC_And, wC_Or, wC_Not, wS_Skip, wS_Brk, wS_Cnt, wS_RetV, wS_Ret, wS_Seq, wS_Set, wS_Inc, wS_Do, wS_Put, wS_PutC, wS_Arr, wS_ArrC, wS_If, wS_Sw, wS_F0, wS_F1, wM_q, lu_ap, aL_ap, ct_0, ct_1, ct_2, ct_3, ct_4, ct_5, headD_1, List.mem_cons, List.not_mem_nil, or_false, false_or, or_true, true_or, true_and, and_true, false_and, and_false, not_true_eq_false, not_false_eq_true, if_true, if_false, nr_20, nr_24, nr_40, nr_41, nr_44, pt_lt, pt_ge, pt_eq, pt_ne, pt_gt, pt_le, pt_E, pt_N, pt_F, ite_10, ite_11, ne_eq, and_self, or_self, decide_true, decide_false, Bool.not_true, Bool.not_false, Bool.false_eq_true, Nat.reduceEqDiff, Nat.reduceAdd, Int.reduceEq, Int.reduceLT, Int.reduceLE, Int.reduceNeg, Int.reduceAdd, Int.reduceSub, Int.reduceMul, reduceCtorEq, iA, iS, iM, iD, iR, iN, lA, lS, lM, lD, lR, h1, h2, jn, h3, e0, e1, e2, wM_of q_held]
theorem q_run {F r n x p c : Int} {res μ : Int → Int} (hF : LFo S v F) (hR : LRi S v r) (hn : 0 ≤ n) (hx : crel x p c) (ho : 10020 ≤ c → (2 ≤ v F 8 ∧ v F 8 ≤ 30) ∧ vv (v (F + 5) (v F 8 - 2)) ∧ vv (v (F + 5) (v F 8 - 1))) (hu : ¬ 10020 ≤ c → 0 ≤ v F 8 ∧ v F 8 < 30) (hm : x = 2 → μ p = v (r + 1) (n % 30 * 4 + p)) (hr : x = 3 → res p = v (F + 4) p) :
    wM mX1_run [F, x, p, r, n] S v (fun _ w => w F 8 = (if 10020 ≤ c then v F 8 - 1 else v F 8 + 1) ∧ (∀ i, w (F + 5) i = if 10020 ≤ c then (if i = v F 8 - 2 then jn c (v (F + 5) (v F 8 - 2)) (v (F + 5) (v F 8 - 1)) else v (F + 5) i) else (if i = v F 8 then un res μ c else v (F + 5) i)) ∧ ∀ a k, (a = F → k ≠ 8) → a ≠ F + 5 → w a k = v a k) := by
  have key : ∀ z, ¬ 10020 ≤ c → z = un res μ c → (vu (vu v (F + 5) (v F 8) z) F 8 (v F 8 + 1) F 8 = (if 10020 ≤ c then v F 8 - 1 else v F 8 + 1) ∧ (∀ i, vu (vu v (F + 5) (v F 8) z) F 8 (v F 8 + 1) (F + 5) i = if 10020 ≤ c then (if i = v F 8 - 2 then jn c (v (F + 5) (v F 8 - 2)) (v (F + 5) (v F 8 - 1)) else v (F + 5) i) else (if i = v F 8 then un res μ c else v (F + 5) i)) ∧ ∀ a k, (a = F → k ≠ 8) → a ≠ F + 5 → vu (vu v (F + 5) (v F 8) z) F 8 (v F 8 + 1) a k = v a k) := by
    intro z h1 h2
    simp only [h1, if_false, vu_is, true_and]
    refine ⟨fun i => ?_, fun a k h3 h4 => ?_⟩
    · rw [vu_ne (by omega), vu_ap, h2]
      simp
    · rw [vu_ne (fun q => h3 q.1 q.2), vu_ne (fun q => h4 q.1)]
  rcases hx with ⟨rfl, h1, h2, rfl⟩ | ⟨rfl, h1, h2, rfl⟩ | ⟨rfl, h1, h2, rfl⟩ | hx
  · have hc : ¬ 10020 ≤ c := by omega
    simp only [mX1_run, sX1_run, wE_I, wE_V, wE_F, wE_A, wE_N, wE_1, wE_2, wE_D, wE_B, wE_If, wE_C, wE_CV, wE_SL, wE_SA, wA_0, wA_1, wC_B, wC_E, wC_And, wC_Or, wC_Not, wS_Skip, wS_Brk, wS_Cnt, wS_RetV, wS_Ret, wS_Seq, wS_Set, wS_Inc, wS_Do, wS_Put, wS_PutC, wS_Arr, wS_ArrC, wS_If, wS_Sw, wS_F0, wS_F1, wM_q, lu_ap, aL_ap, ct_0, ct_1, ct_2, ct_3, ct_4, ct_5, headD_1, List.mem_cons, List.not_mem_nil, or_false, false_or, or_true, true_or, true_and, and_true, false_and, and_false, not_true_eq_false, not_false_eq_true, if_true, if_false, nr_20, nr_24, nr_40, nr_41, nr_44, pt_lt, pt_ge, pt_eq, pt_ne, pt_gt, pt_le, pt_E, pt_N, pt_F, ite_10, ite_11, ne_eq, and_self, or_self, decide_true, decide_false, Bool.not_true, Bool.not_false, Bool.false_eq_true, Nat.reduceEqDiff, Nat.reduceAdd, Int.reduceEq, Int.reduceLT, Int.reduceLE, Int.reduceNeg, Int.reduceAdd, Int.reduceSub, Int.reduceMul, reduceCtorEq, iA, iS, iM, iD, iR, iN, lA, lS, lM, lD, lR, hF.k, wM_of (q_push hF (hu hc))]
    refine key _ hc ?_
    unfold un
    rw [if_neg (by omega), if_neg (by omega)]
  · have hc : ¬ 10020 ≤ 10000 + p := by omega
    simp only [mX1_run, sX1_run, wE_I, wE_V, wE_F, wE_A, wE_N, wE_1, wE_2, wE_D, wE_B, wE_If, wE_C, wE_CV, wE_SL, wE_SA, wA_0, wA_1, wC_B, wC_E, wC_And, wC_Or, wC_Not, wS_Skip, wS_Brk, wS_Cnt, wS_RetV, wS_Ret, wS_Seq, wS_Set, wS_Inc, wS_Do, wS_Put, wS_PutC, wS_Arr, wS_ArrC, wS_If, wS_Sw, wS_F0, wS_F1, wM_q, lu_ap, aL_ap, ct_0, ct_1, ct_2, ct_3, ct_4, ct_5, headD_1, List.mem_cons, List.not_mem_nil, or_false, false_or, or_true, true_or, true_and, and_true, false_and, and_false, not_true_eq_false, not_false_eq_true, if_true, if_false, nr_20, nr_24, nr_40, nr_41, nr_44, pt_lt, pt_ge, pt_eq, pt_ne, pt_gt, pt_le, pt_E, pt_N, pt_F, ite_10, ite_11, ne_eq, and_self, or_self, decide_true, decide_false, Bool.not_true, Bool.not_false, Bool.false_eq_true, Nat.reduceEqDiff, Nat.reduceAdd, Int.reduceEq, Int.reduceLT, Int.reduceLE, Int.reduceNeg, Int.reduceAdd, Int.reduceSub, Int.reduceMul, reduceCtorEq, iA, iS, iM, iD, iR, iN, lA, lS, lM, lD, lR, hF.k, hR.k, wM_of (q_rowOf hR hn ⟨h1, h2⟩), wM_of (q_push hF (hu hc))]
    refine key _ hc ?_
    unfold un
    rw [if_neg (by omega), if_pos (by omega), ← hm rfl]
    congr 1
    omega
  · have hc : ¬ 10020 ≤ 10010 + p := by omega
    have e3 : 20 ≤ S.1 (F + 4) := by rw [hF.a4]; decide
    simp only [mX1_run, sX1_run, wE_I, wE_V, wE_F, wE_A, wE_N, wE_1, wE_2, wE_D, wE_B, wE_If, wE_C, wE_CV, wE_SL, wE_SA, wA_0, wA_1, wC_B, wC_E, wC_And, wC_Or, wC_Not, wS_Skip, wS_Brk, wS_Cnt, wS_RetV, wS_Ret, wS_Seq, wS_Set, wS_Inc, wS_Do, wS_Put, wS_PutC, wS_Arr, wS_ArrC, wS_If, wS_Sw, wS_F0, wS_F1, wM_q, lu_ap, aL_ap, ct_0, ct_1, ct_2, ct_3, ct_4, ct_5, headD_1, List.mem_cons, List.not_mem_nil, or_false, false_or, or_true, true_or, true_and, and_true, false_and, and_false, not_true_eq_false, not_false_eq_true, if_true, if_false, nr_20, nr_24, nr_40, nr_41, nr_44, pt_lt, pt_ge, pt_eq, pt_ne, pt_gt, pt_le, pt_E, pt_N, pt_F, ite_10, ite_11, ne_eq, and_self, or_self, decide_true, decide_false, Bool.not_true, Bool.not_false, Bool.false_eq_true, Nat.reduceEqDiff, Nat.reduceAdd, Int.reduceEq, Int.reduceLT, Int.reduceLE, Int.reduceNeg, Int.reduceAdd, Int.reduceSub, Int.reduceMul, reduceCtorEq, iA, iS, iM, iD, iR, iN, lA, lS, lM, lD, lR, hF.k, hF.p6, hF.a4, hF.n4, h1, h2, e3, Nat.le_refl, wM_of (q_push hF (hu hc))]
    refine key _ hc ?_
    unfold un
    rw [if_pos (by omega), ← hr rfl]
    congr 1
    omega
  · have hc : 10020 ≤ c := by omega
    obtain ⟨hd, hv1, hv2⟩ := ho hc
    have hx1 : ¬ x = 1 := by omega
    have hx2 : ¬ x = 2 := by omega
    have hx3 : ¬ x = 3 := by omega
    have eA : ∀ (w : QV) z, vu w F 8 z F 8 = z := fun _ _ => vu_is
    have kF1 : LFo S (vu v F 8 (v F 8 - 1)) F := hF.keep (Kp.rf.vuc (by rw [hF.k]; rfl))
    have kF2 : LFo S (vu (vu v F 8 (v F 8 - 1)) F 8 (v F 8 - 1 - 1)) F := kF1.keep (Kp.rf.vuc (by rw [hF.k]; rfl))
    have p2 := q_pop (v := vu v F 8 (v F 8 - 1)) kF1 (by rw [eA]; omega)
    rw [eA, vu_ne (show ¬ (F + 5 = F ∧ v F 8 - 1 - 1 = 8) by omega)] at p2
    have e2 : v F 8 - 1 - 1 = v F 8 - 2 := by omega
    have p3 := fun x => q_push (v := vu (vu v F 8 (v F 8 - 1)) F 8 (v F 8 - 1 - 1)) (x := x) kF2 (by rw [eA]; omega)
    rw [eA] at p3
    rw [e2] at p2 p3
    simp only [mX1_run, sX1_run, wE_I, wE_V, wE_F, wE_A, wE_N, wE_1, wE_2, wE_D, wE_B, wE_If, wE_C, wE_CV, wE_SL, wE_SA, wA_0, wA_1, wC_B, wC_E, wC_And, wC_Or, wC_Not, wS_Skip, wS_Brk, wS_Cnt, wS_RetV, wS_Ret, wS_Seq, wS_Set, wS_Inc, wS_Do, wS_Put, wS_PutC, wS_Arr, wS_ArrC, wS_If, wS_Sw, wS_F0, wS_F1, wM_q, lu_ap, aL_ap, ct_0, ct_1, ct_2, ct_3, ct_4, ct_5, headD_1, List.mem_cons, List.not_mem_nil, or_false, false_or, or_true, true_or, true_and, and_true, false_and, and_false, not_true_eq_false, not_false_eq_true, if_true, if_false, nr_20, nr_24, nr_40, nr_41, nr_44, pt_lt, pt_ge, pt_eq, pt_ne, pt_gt, pt_le, pt_E, pt_N, pt_F, ite_10, ite_11, ne_eq, and_self, or_self, decide_true, decide_false, Bool.not_true, Bool.not_false, Bool.false_eq_true, Nat.reduceEqDiff, Nat.reduceAdd, Int.reduceEq, Int.reduceLT, Int.reduceLE, Int.reduceNeg, Int.reduceAdd, Int.reduceSub, Int.reduceMul, reduceCtorEq, iA, iS, iM, iD, iR, iN, lA, lS, lM, lD, lR, hF.k, hx1, hx2, hx3, wM_of (q_pop hF (show 0 < v F 8 ∧ v F 8 ≤ 30 by omega)), wM_of p2, wM_of (q_joined hx hv1 hv2), wM_of (p3 _), hc]
    refine ⟨by rw [vu_is]; omega, fun i => ?_, fun a k h3 h4 => ?_⟩
    · rw [vu_ne (by omega), vu_ap, vu_ne (by omega), vu_ne (by omega)]
      simp
    · rw [vu_ne (fun q => h3 q.1 q.2), vu_ne (fun q => h4 q.1), vu_ne (fun q => h3 q.1 q.2), vu_ne (fun q => h3 q.1 q.2)]
theorem stk_vv {c res μ : Int → Int} {a : Int} {nm : Int} {s : Nat} (hnm : nm ≤ 4) (hs4 : s ≤ 4) (hres : ∀ k : Int, 0 ≤ k → k < s → vv (res k)) (hμ : ∀ k : Int, 0 ≤ k → k < nm → vv (μ k)) : ∀ n : Nat, (∀ j : Nat, j < n → wc c nm s a j) → ∀ i : Int, 0 ≤ i → i < dp c a n → vv (stk c res μ a n i)
  | 0, _, i, h0, h1 => by unfold dp at h1; omega
  | n + 1, hw, i, h0, h1 => by
    have ih := stk_vv hnm hs4 hres hμ n (fun j hj => hw j (by omega))
    have hn := hw n (by omega)
    unfold dp at h1
    unfold stk
    rcases hn with ⟨g1, g2, g3, g4⟩ | ⟨g1, g2, g3⟩
    · rw [if_pos g1] at h1 ⊢
      by_cases hi : i = dp c a n - 2
      · rw [if_pos hi]
        exact jn_vv (ih _ (by omega) (by omega)) (ih _ (by omega) (by omega))
      · rw [if_neg hi]
        exact ih i h0 (by omega)
    · have hc2 : ¬ 10020 ≤ c (a + n) := by omega
      rw [if_neg hc2] at h1 ⊢
      by_cases hi : i = dp c a n
      · rw [if_pos hi]
        unfold un
        by_cases q1 : 10010 ≤ c (a + n)
        · rw [if_pos q1]
          exact hres _ (by omega) (by omega)
        · rw [if_neg q1]
          by_cases q2 : 10000 ≤ c (a + n)
          · rw [if_pos q2]
            exact hμ _ (by omega) (by omega)
          · rw [if_neg q2]
            right; omega
      · rw [if_neg hi]
        exact ih i h0 (by omega)
/-- the shows' code: the class's cells against code and ends -/
def CC (v : QV) (F : Int) (c e : Int → Int) (nm : Int) (ns : Nat) : Prop := v F 0 = ns ∧ ns ≤ 4 ∧ nm ≤ 4 ∧ WF c e nm ns ∧ (∀ s : Int, 0 ≤ s → s < ns → v (F + 3) s = e s) ∧ (∀ k : Int, 0 ≤ k → (∃ s : Nat, s < ns ∧ k < e s) → crel (v (F + 1) k) (v (F + 2) k) (c k))
theorem ss_s {e : Int → Int} {s : Nat} : ss e (s + 1) = e s := by
  unfold ss
  rw [if_neg (by omega)]
  congr 1
  omega
theorem rs_vv {c e μ : Int → Int} {nm : Int} {ns : Nat} (hnm : nm ≤ 4) (hns : ns ≤ 4) (hW : WF c e nm ns) (hμ : ∀ k : Int, 0 ≤ k → k < nm → vv (μ k)) : ∀ s : Nat, s ≤ ns → ∀ k : Int, 0 ≤ k → k < s → vv (rs c e μ s k)
  | 0, _, k, h0, h1 => by omega
  | s + 1, hs, k, h0, h1 => by
    have ih := rs_vv hnm hns hW hμ s (by omega)
    unfold rs
    by_cases hk : k = s
    · rw [if_pos hk]
      obtain ⟨⟨w1, w2, w3⟩, w4, w5⟩ := hW s (by omega)
      refine stk_vv hnm (by omega) ih hμ _ (fun j hj => w4 j (by omega)) 0 (Int.le_refl 0) ?_
      rw [w5]
      decide
    · rw [if_neg hk]
      exact ih k h0 (by omega)
/-- what a question over shows leaves as it is -/
def Sf (F : Int) (v w : QV) : Prop := ∀ a k, (a = F → k ≠ 8) → a ≠ F + 4 → a ≠ F + 5 → w a k = v a k
theorem LFo.sf {F : Int} (hF : LFo S v F) (hq : Sf F v w) : Kp S v w := by
  intro a k h1 h2
  refine hq a k ?_ ?_ ?_
  · rintro rfl rfl; rw [hF.k] at h1; cases h1
  · rintro rfl; rw [hF.a4] at h1; cases h1
  · rintro rfl; rw [hF.a5] at h1; cases h1
theorem q_tell {F r n x : Int} {c e μ : Int → Int} {nm : Int} {ns : Nat} (hF : LFo S v F) (hR : LRi S v r) (hr : F + 6 ≤ r) (hn : 0 ≤ n) (hC : CC v F c e nm ns) (hx : 0 ≤ x ∧ x < ns) (hμ : ∀ k : Int, 0 ≤ k → k < nm → μ k = v (r + 1) (n % 30 * 4 + k)) (hv : ∀ k : Int, 0 ≤ k → k < nm → vv (μ k)) :
    wM mX1_tell [F, x, r, n] S v (fun z w => z = rs c e μ (x.toNat + 1) x ∧ Sf F v w) := by
  obtain ⟨c1, c2, c3, c4, c5, c6⟩ := hC
  have e1 : ¬ x < 0 := by omega
  have e2 : ¬ (ns : Int) ≤ x := by omega
  simp only [mX1_tell, sX1_tell, wE_I, wE_V, wE_F, wE_A, wE_N, wE_1, wE_2, wE_D, wE_B, wE_If, wE_C, wE_CV, wE_SL, wE_SA, wA_0, wA_1, wC_B, wC_E, wC_And, wC_Or, wC_Not, wS_Skip, wS_Brk, wS_Cnt, wS_RetV, wS_Ret, wS_Seq, wS_Set, wS_Inc, wS_Do, wS_Put, wS_PutC, wS_Arr, wS_ArrC, wS_If, wS_Sw, wS_F0, wS_F1, wM_q, lu_ap, aL_ap, ct_0, ct_1, ct_2, ct_3, ct_4, ct_5, headD_1, List.mem_cons, List.not_mem_nil, or_false, false_or, or_true, true_or, true_and, and_true, false_and, and_false, not_true_eq_false, not_false_eq_true, if_true, if_false, nr_20, nr_24, nr_40, nr_41, nr_44, pt_lt, pt_ge, pt_eq, pt_ne, pt_gt, pt_le, pt_E, pt_N, pt_F, ite_10, ite_11, ne_eq, and_self, or_self, decide_true, decide_false, Bool.not_true, Bool.not_false, Bool.false_eq_true, Nat.reduceEqDiff, Nat.reduceAdd, Int.reduceEq, Int.reduceLT, Int.reduceLE, Int.reduceNeg, Int.reduceAdd, Int.reduceSub, Int.reduceMul, reduceCtorEq, iA, iS, iM, iD, iR, iN, lA, lS, lM, lD, lR, hF.k, c1, e1, e2]
  refine wS_For (x.toNat + 1) (fun s M w => (M 0 = F ∧ M 1 = x ∧ M 2 = r ∧ M 3 = n ∧ M 4 = ss e s ∧ M 5 = s) ∧ Sf F v w ∧ ∀ k : Int, 0 ≤ k → k < s → w (F + 4) k = rs c e μ s k) (by omega) ?_ ?_ ?_
  · refine ⟨?_, fun _ _ _ _ _ => rfl, fun k h0 h1 => by omega⟩
    simp [lu_ap, aL_ap, ct_0, ct_2, ss]
  · rintro s M w hs ⟨⟨m0, m1, m2, m3, m4, m5⟩, hq, hrs⟩
    have hsx : (s : Int) ≤ x := by omega
    have hsn : s < ns := by omega
    obtain ⟨⟨w1, w2, w3⟩, w4, w5⟩ := c4 s hsn
    have hFw := hF.keep (hF.sf hq)
    simp only [cX1_tell_1, bX1_tell_1, uX1_tell_1, wE_I, wE_V, wE_F, wE_A, wE_N, wE_1, wE_2, wE_D, wE_B, wE_If, wE_C, wE_CV, wE_SL, wE_SA, wA_0, wA_1, wC_B, wC_E, wC_And, wC_Or, wC_Not, wS_Skip, wS_Brk, wS_Cnt, wS_RetV, wS_Ret, wS_Seq, wS_Set, wS_Inc, wS_Do, wS_Put, wS_PutC, wS_Arr, wS_ArrC, wS_If, wS_Sw, wS_F0, wS_F1, wM_q, lu_ap, aL_ap, ct_0, ct_1, ct_2, ct_3, ct_4, ct_5, headD_1, List.mem_cons, List.not_mem_nil, or_false, false_or, or_true, true_or, true_and, and_true, false_and, and_false, not_true_eq_false, not_false_eq_true, if_true, if_false, nr_20, nr_24, nr_40, nr_41, nr_44, pt_lt, pt_ge, pt_eq, pt_ne, pt_gt, pt_le, pt_E, pt_N, pt_F, ite_10, ite_11, ne_eq, and_self, or_self, decide_true, decide_false, Bool.not_true, Bool.not_false, Bool.false_eq_true, Nat.reduceEqDiff, Nat.reduceAdd, Int.reduceEq, Int.reduceLT, Int.reduceLE, Int.reduceNeg, Int.reduceAdd, Int.reduceSub, Int.reduceMul, reduceCtorEq, iA, iS, iM, iD, iR, iN, lA, lS, lM, lD, lR, m0, m1, m2, m3, m4, m5, hsx, hFw.k]
    have hst := stk_vv (c := c) (a := ss e s) (s := s) (μ := μ) c3 (by omega) (rs_vv c3 c2 c4 hv s (by omega)) hv
    refine wS_For (e s - ss e s).toNat (fun j M w => (M 0 = F ∧ M 1 = x ∧ M 2 = r ∧ M 3 = n ∧ M 4 = ss e s + j ∧ M 5 = s) ∧ Sf F v w ∧ (∀ k : Int, 0 ≤ k → k < s → w (F + 4) k = rs c e μ s k) ∧ w F 8 = dp c (ss e s) j ∧ ∀ i : Int, 0 ≤ i → i < dp c (ss e s) j → w (F + 5) i = stk c (rs c e μ s) μ (ss e s) j i) (by omega) ?_ ?_ ?_
    · refine ⟨?_, ?_, ?_, vu_is, ?_⟩
      · simp [m0, m1, m2, m3, m4, m5]
      · intro a k h1 h2 h3
        rw [vu_ne (fun q => h1 q.1 q.2)]
        exact hq a k h1 h2 h3
      · intro k h0 h1
        rw [vu_ne (by omega)]
        exact hrs k h0 h1
      · intro i h0 h1
        unfold dp at h1
        omega
    · rintro j M w hj ⟨⟨m0, m1, m2, m3, m4, m5⟩, hq, hrs, hd, hsk⟩
      have hFw := hF.keep (hF.sf hq)
      have hRw := hR.keep (hF.sf hq)
      have g1 : w (F + 3) s = e s := (hq _ _ (by omega) (by omega) (by omega)).trans (c5 s (by omega) (by omega))
      have g2 := c6 (ss e s + j) (by omega) ⟨s, hsn, by omega⟩
      have g3 : w (F + 1) (ss e s + j) = v (F + 1) (ss e s + j) := hq _ _ (by omega) (by omega) (by omega)
      have g4 : w (F + 2) (ss e s + j) = v (F + 2) (ss e s + j) := hq _ _ (by omega) (by omega) (by omega)
      have g5 : 0 ≤ (s : Int) ∧ (s : Int) < 4 := by omega
      have g6 : 0 ≤ ss e s + (j : Int) ∧ ss e s + (j : Int) < 60 := by omega
      have g7 : ss e s + (j : Int) < e s := by omega
      have hwc := w4 j (by omega)
      rw [← g3, ← g4] at g2
      simp only [cX1_tell_2, bX1_tell_2, uX1_tell_2, wE_I, wE_V, wE_F, wE_A, wE_N, wE_1, wE_2, wE_D, wE_B, wE_If, wE_C, wE_CV, wE_SL, wE_SA, wA_0, wA_1, wC_B, wC_E, wC_And, wC_Or, wC_Not, wS_Skip, wS_Brk, wS_Cnt, wS_RetV, wS_Ret, wS_Seq, wS_Set, wS_Inc, wS_Do, wS_Put, wS_PutC, wS_Arr, wS_ArrC, wS_If, wS_Sw, wS_F0, wS_F1, wM_q, lu_ap, aL_ap, ct_0, ct_1, ct_2, ct_3, ct_4, ct_5, headD_1, List.mem_cons, List.not_mem_nil, or_false, false_or, or_true, true_or, true_and, and_true, false_and, and_false, not_true_eq_false, not_false_eq_true, if_true, if_false, nr_20, nr_24, nr_40, nr_41, nr_44, pt_lt, pt_ge, pt_eq, pt_ne, pt_gt, pt_le, pt_E, pt_N, pt_F, ite_10, ite_11, ne_eq, and_self, or_self, decide_true, decide_false, Bool.not_true, Bool.not_false, Bool.false_eq_true, Nat.reduceEqDiff, Nat.reduceAdd, Int.reduceEq, Int.reduceLT, Int.reduceLE, Int.reduceNeg, Int.reduceAdd, Int.reduceSub, Int.reduceMul, reduceCtorEq, iA, iS, iM, iD, iR, iN, lA, lS, lM, lD, lR, m0, m1, m2, m3, m4, m5, hFw.k, hFw.p3, hFw.p4, hFw.p5, hFw.a1, hFw.a2, hFw.a3, hFw.n1, hFw.n2, hFw.n3, g1, g5, g6, g7]
      have hvv := hst j (fun i hi => w4 i (by omega))
      refine wM_mono (q_run (res := rs c e μ s) (μ := μ) hFw hRw hn g2 ?_ ?_ ?_ ?_) ?_
      · intro hc
        rcases hwc with ⟨u1, u2, u3, u4⟩ | ⟨u1, u2, u3⟩
        · rw [hd, hsk _ (by omega) (by omega), hsk _ (by omega) (by omega)]
          exact ⟨⟨u3, u4⟩, hvv _ (by omega) (by omega), hvv _ (by omega) (by omega)⟩
        · omega
      · intro hc
        rcases hwc with ⟨u1, u2, u3, u4⟩ | ⟨u1, u2, u3⟩
        · omega
        · rw [hd]; exact ⟨u1, u2⟩
      · intro hx2
        have hp : 0 ≤ w (F + 2) (ss e s + j) ∧ w (F + 2) (ss e s + j) < nm := by
          unfold crel at g2
          rcases hwc with ⟨u1, u2, u3, u4⟩ | ⟨u1, u2, u3⟩ <;> omega
        rw [hμ _ hp.1 hp.2]
        exact (hq _ _ (by omega) (by omega) (by omega)).symm
      · intro hx3
        have hp : 0 ≤ w (F + 2) (ss e s + j) ∧ w (F + 2) (ss e s + j) < s := by
          unfold crel at g2
          rcases hwc with ⟨u1, u2, u3, u4⟩ | ⟨u1, u2, u3⟩ <;> omega
        exact (hrs _ hp.1 hp.2).symm
      · rintro - w' - ⟨k1, k2, k3⟩
        have ej : w32 (ss e s + (j : Int) + 1) = ss e s + ((j + 1 : Nat) : Int) := by
          clear hst hvv
          rw [w32_e (by omega)]; omega
        refine ⟨ej, ?_, ?_, ?_, ?_⟩
        · intro a k h1 h2 h3
          rw [k3 a k h1 h3]
          exact hq a k h1 h2 h3
        · intro k h0 h1
          rw [k3 _ _ (by omega) (by omega)]
          exact hrs k h0 h1
        · rw [k1, hd]
          rfl
        · intro i h0 h1
          rw [k2 i, hd]
          unfold dp at h1
          unfold stk
          rcases hwc with ⟨u1, u2, u3, u4⟩ | ⟨u1, u2, u3⟩
          · simp only [u1, if_true] at h1 ⊢
            rw [hsk (dp c (ss e s) j - 2) (by omega) (by omega), hsk (dp c (ss e s) j - 1) (by omega) (by omega)]
            by_cases hi : i = dp c (ss e s) j - 2
            · rw [if_pos hi, if_pos hi]
            · rw [if_neg hi, if_neg hi]
              exact hsk i h0 (by omega)
          · have hc2 : ¬ 10020 ≤ c (ss e s + j) := by omega
            simp only [hc2, if_false] at h1 ⊢
            by_cases hi : i = dp c (ss e s) j
            · rw [if_pos hi, if_pos hi]
            · rw [if_neg hi, if_neg hi]
              exact hsk i h0 (by omega)
    · rintro M w ⟨⟨m0, m1, m2, m3, m4, m5⟩, hq, hrs, hd, hsk⟩
      have hFw := hF.keep (hF.sf hq)
      have g1 : w (F + 3) s = e s := (hq _ _ (by omega) (by omega) (by omega)).trans (c5 s (by omega) (by omega))
      have g5 : 0 ≤ (s : Int) ∧ (s : Int) < 4 := by omega
      have g7 : ¬ ss e s + ((e s - ss e s).toNat : Int) < e s := by omega
      rw [w5] at hd
      have hpop := q_pop hFw (by rw [hd]; decide)
      rw [hd] at hpop
      have kFw : LFo S (vu w F 8 (1 - 1)) F := hFw.keep (Kp.rf.vuc (by rw [hFw.k]; rfl))
      simp only [cX1_tell_2, wE_I, wE_V, wE_F, wE_A, wE_N, wE_1, wE_2, wE_D, wE_B, wE_If, wE_C, wE_CV, wE_SL, wE_SA, wA_0, wA_1, wC_B, wC_E, wC_And, wC_Or, wC_Not, wS_Skip, wS_Brk, wS_Cnt, wS_RetV, wS_Ret, wS_Seq, wS_Set, wS_Inc, wS_Do, wS_Put, wS_PutC, wS_Arr, wS_ArrC, wS_If, wS_Sw, wS_F0, wS_F1, wM_q, lu_ap, aL_ap, ct_0, ct_1, ct_2, ct_3, ct_4, ct_5, headD_1, List.mem_cons, List.not_mem_nil, or_false, false_or, or_true, true_or, true_and, and_true, false_and, and_false, not_true_eq_false, not_false_eq_true, if_true, if_false, nr_20, nr_24, nr_40, nr_41, nr_44, pt_lt, pt_ge, pt_eq, pt_ne, pt_gt, pt_le, pt_E, pt_N, pt_F, ite_10, ite_11, ne_eq, and_self, or_self, decide_true, decide_false, Bool.not_true, Bool.not_false, Bool.false_eq_true, Nat.reduceEqDiff, Nat.reduceAdd, Int.reduceEq, Int.reduceLT, Int.reduceLE, Int.reduceNeg, Int.reduceAdd, Int.reduceSub, Int.reduceMul, reduceCtorEq, iA, iS, iM, iD, iR, iN, lA, lS, lM, lD, lR, m0, m1, m2, m3, m4, m5, hFw.k, hFw.p5, hFw.p6, hFw.a3, hFw.a4, hFw.n3, hFw.n4, g1, g5, g7, wM_of hpop]
      refine ⟨⟨?_, w32_s (by omega)⟩, ?_, ?_⟩
      · rw [ss_s]; omega
      · intro a k h1 h2 h3
        rw [vu_ne (fun q => h2 q.1), vu_ne (fun q => h1 q.1 q.2)]
        exact hq a k h1 h2 h3
      · intro k h0 h1
        rw [vu_ap]
        unfold rs
        by_cases hk : k = s
        · simp only [hk, and_self, if_true]
          exact hsk 0 (Int.le_refl 0) (by rw [w5]; decide)
        · simp only [hk, and_false, if_false]
          rw [vu_ne (by omega)]
          exact hrs k h0 (by omega)
  · rintro M w ⟨⟨m0, m1, m2, m3, m4, m5⟩, hq, hrs⟩
    have hFw := hF.keep (hF.sf hq)
    have hl : ¬ ((x.toNat + 1 : Nat) : Int) ≤ x := by omega
    have g5 : 0 ≤ x ∧ x < 4 := by omega
    simp only [cX1_tell_1, wE_I, wE_V, wE_F, wE_A, wE_N, wE_1, wE_2, wE_D, wE_B, wE_If, wE_C, wE_CV, wE_SL, wE_SA, wA_0, wA_1, wC_B, wC_E, wC_And, wC_Or, wC_Not, wS_Skip, wS_Brk, wS_Cnt, wS_RetV, wS_Ret, wS_Seq, wS_Set, wS_Inc, wS_Do, wS_Put, wS_PutC, wS_Arr, wS_ArrC, wS_If, wS_Sw, wS_F0, wS_F1, wM_q, lu_ap, aL_ap, ct_0, ct_1, ct_2, ct_3, ct_4, ct_5, headD_1, List.mem_cons, List.not_mem_nil, or_false, false_or, or_true, true_or, true_and, and_true, false_and, and_false, not_true_eq_false, not_false_eq_true, if_true, if_false, nr_20, nr_24, nr_40, nr_41, nr_44, pt_lt, pt_ge, pt_eq, pt_ne, pt_gt, pt_le, pt_E, pt_N, pt_F, ite_10, ite_11, ne_eq, and_self, or_self, decide_true, decide_false, Bool.not_true, Bool.not_false, Bool.false_eq_true, Nat.reduceEqDiff, Nat.reduceAdd, Int.reduceEq, Int.reduceLT, Int.reduceLE, Int.reduceNeg, Int.reduceAdd, Int.reduceSub, Int.reduceMul, reduceCtorEq, iA, iS, iM, iD, iR, iN, lA, lS, lM, lD, lR, m0, m1, m5, hl, hFw.k, hFw.p6, hFw.a4, hFw.n4, g5]
    exact ⟨hrs x hx.1 (by omega), hq⟩
end CS
