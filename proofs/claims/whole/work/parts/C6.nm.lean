/-! STORE: names -/
def smW (v : QV) (T a b : Int) : Prop := spT v T a - stT v T a = spT v T b - stT v T b ∧ ∀ k : Nat, (k : Int) < spT v T a - stT v T a → v (T + 1) (stT v T a + k) = v (T + 1) (stT v T b + k)
/-- for what the name at token i stands -/
def isBe (v : QV) (T x i r : Int) : Prop := (∃ j : Int, (0 ≤ j ∧ j < v x 7) ∧ smW v T (v (x + 1) j) i ∧ (∀ j', 0 ≤ j' → j' < j → ¬ smW v T (v (x + 1) j') i) ∧ r = v (x + 2) j) ∨ (r = -1 ∧ ∀ j, 0 ≤ j → j < v x 7 → ¬ smW v T (v (x + 1) j) i)
def cvB (r : Int) : Int := if r < 4 then r else r + 6
/-- the names told: the class's (u), the reference's (w) -/
def NR (u w : QV) (T x M : Int) : Prop := (w M 27 = u x 7 ∧ 0 ≤ u x 7 ∧ u x 7 ≤ 8) ∧ ∀ j, 0 ≤ j → j < u x 7 → (0 ≤ u (x + 1) j ∧ u (x + 1) j < nTk u T - 1) ∧ (w (M + 26) j = stT u T (u (x + 1) j) ∧ w (M + 27) j = spT u T (u (x + 1) j) - stT u T (u (x + 1) j)) ∧ (0 ≤ u (x + 2) j ∧ u (x + 2) j < 8) ∧ w (M + 30) j = cvB (u (x + 2) j)
/-- the names that the class has told, within bounds -/
def NB (u : QV) (T x : Int) : Prop := (0 ≤ u x 7 ∧ u x 7 ≤ 8) ∧ ∀ j, 0 ≤ j → j < u x 7 → (0 ≤ u (x + 1) j ∧ u (x + 1) j < nTk u T - 1) ∧ (0 ≤ u (x + 2) j ∧ u (x + 2) j < 8)
section NM
variable {S : QS} {v w u : QV} {M T n x : Int} {o : Int × Int}
theorem isBe_b {i r : Int} (hN : NB u T x) (h : isBe u T x i r) : -1 ≤ r ∧ r < 8 := by
  rcases h with ⟨j, hj, -, -, e⟩ | ⟨e, -⟩
  · have := (hN.2 j hj.1 hj.2).2; omega
  · omega
theorem c_sameWord {a b : Int} (h : LTp S v T) (hT : TK v T) (hn : 0 ≤ v T 1 ∧ v T 1 ≤ 1000) (ha : 0 ≤ a ∧ a < nTk v T - 1) (hb : 0 ≤ b ∧ b < nTk v T) (hs : ∀ i, 0 ≤ i → i < nTk v T → 0 ≤ stT v T i ∧ stT v T i ≤ spT v T i ∧ spT v T i ≤ v T 1) : wM mX10_sameWord [T, a, b] S v (fun r w => w = v ∧ ((r = 1 ∧ smW v T a b) ∨ (r = 0 ∧ ¬ smW v T a b))) := by
  have ha5 : a < v T 5 := by unfold nTk at ha; omega
  have qa := q_isT1 h ha.1 ha5
  have o1 : 0 ≤ a ∧ a < 1000 := by have := hT.1; omega
  have sa := hs a ha.1 (by omega)
  have sb := hs b hb.1 hb.2
  by_cases hb5 : b < v T 5
  · have qb := q_isT1 h hb.1 hb5
    have o2 : 0 ≤ b ∧ b < 1000 := by have := hT.1; unfold nTk at this; omega
    have ea3 := (st_r ha5).symm
    have ea4 := (sp_r ha5).symm
    have eb3 := (st_r hb5).symm
    have eb4 := (sp_r hb5).symm
    unfold smW
    generalize stT v T a = a3 at *
    generalize spT v T a = a4 at *
    generalize stT v T b = b3 at *
    generalize spT v T b = b4 at *
    have e1 : w32 (a4 - a3) = a4 - a3 := w32_e (by omega)
    have e2 : w32 (b4 - b3) = b4 - b3 := by clear e1; exact w32_e (by omega)
    by_cases c : a4 - a3 = b4 - b3
    · simp only [mX10_sameWord, sX10_sameWord, wE_I, wE_V, wE_F, wE_A, wE_N, wE_1, wE_2, wE_D, wE_B, wE_If, wE_C, wE_CV, wE_SL, wE_SA, wA_0, wA_1, wC_B, wC_E, wC_And, wC_Or, wC_Not, wS_Skip, wS_Brk, wS_Cnt, wS_RetV, wS_Ret, wS_Seq, wS_Set, wS_Inc, wS_Do, wS_Put, wS_PutC, wS_Arr, wS_ArrC, wS_If, wS_Sw, wS_F0, wS_F1, wM_q, lu_ap, aL_ap, ct_0, ct_1, ct_2, ct_3, ct_4, ct_5, headD_1, List.mem_cons, List.not_mem_nil, or_false, false_or, or_true, true_or, true_and, and_true, false_and, and_false, not_true_eq_false, not_false_eq_true, if_true, if_false, nr_20, nr_24, nr_40, nr_41, nr_44, pt_lt, pt_ge, pt_eq, pt_ne, pt_gt, pt_le, pt_E, pt_N, pt_F, ite_10, ite_11, ne_eq, and_self, or_self, decide_true, decide_false, Bool.not_true, Bool.not_false, Bool.false_eq_true, Nat.reduceEqDiff, Nat.reduceAdd, Int.reduceEq, Int.reduceLT, Int.reduceLE, Int.reduceNeg, Int.reduceAdd, Int.reduceSub, Int.reduceMul, reduceCtorEq, iA, iS, iM, iD, iR, iN, lA, lS, lM, lD, lR, h.k, wM_of qa, wM_of qb, h.p3, h.p4, h.a3, h.n3, h.a4, h.n4, o1, o2, ea3, ea4, eb3, eb4, e1, e2, c]
      clear e1 e2
      refine wS_While (fun k L w => ∃ j : Nat, (L 0 = T ∧ L 1 = a ∧ L 2 = b ∧ L 3 = b4 - b3 ∧ L 4 = j) ∧ ((j : Int) ≤ b4 - b3 ∧ (k : Int) = b4 - b3 - j) ∧ (∀ k : Nat, k < j → v (T + 1) (a3 + k) = v (T + 1) (b3 + k)) ∧ w = v) (b4 - b3).toNat (by omega) ?_ ?_
      · exact ⟨0, ⟨by simp [lu_ap, aL_ap, ct_0, ct_1, ct_2], by simp [lu_ap, aL_ap, ct_0, ct_1, ct_2], by simp [lu_ap, aL_ap, ct_0, ct_1, ct_2], by simp [lu_ap], by simp [lu_ap]⟩, by omega, fun k hk => absurd hk (Nat.not_lt_zero _), rfl⟩
      · rintro k L w ⟨j, ⟨l0, l1, l2, l3, l4⟩, ⟨hj, hk⟩, hall, rfl⟩
        by_cases cj : (j : Int) < b4 - b3
        · have oa : 0 ≤ a3 + (j : Int) ∧ a3 + (j : Int) < 1000 := by omega
          have ob : 0 ≤ b3 + (j : Int) ∧ b3 + (j : Int) < 1000 := by omega
          have nk : k - 1 < k := by omega
          have nj : (((j + 1 : Nat)) : Int) ≤ b4 - b3 ∧ ((k - 1 : Nat) : Int) = b4 - b3 - ((j + 1 : Nat) : Int) := by omega
          have nc : (j : Int) + 1 = ((j + 1 : Nat) : Int) := by omega
          have e3 : w32 (a3 + (j : Int)) = a3 + j := w32_e (by omega)
          have e4 : w32 (b3 + (j : Int)) = b3 + j := by clear e3; exact w32_e (by omega)
          have e5 : w32 ((j : Int) + 1) = j + 1 := by clear e3 e4; exact w32_e (by omega)
          by_cases ce : w (T + 1) (a3 + j) = w (T + 1) (b3 + j)
          · simp only [cX10_sameWord_1, bX10_sameWord_1, uX10_sameWord_1, wE_I, wE_V, wE_F, wE_A, wE_N, wE_1, wE_2, wE_D, wE_B, wE_If, wE_C, wE_CV, wE_SL, wE_SA, wA_0, wA_1, wC_B, wC_E, wC_And, wC_Or, wC_Not, wS_Skip, wS_Brk, wS_Cnt, wS_RetV, wS_Ret, wS_Seq, wS_Set, wS_Inc, wS_Do, wS_Put, wS_PutC, wS_Arr, wS_ArrC, wS_If, wS_Sw, wS_F0, wS_F1, wM_q, lu_ap, aL_ap, ct_0, ct_1, ct_2, ct_3, ct_4, ct_5, headD_1, List.mem_cons, List.not_mem_nil, or_false, false_or, or_true, true_or, true_and, and_true, false_and, and_false, not_true_eq_false, not_false_eq_true, if_true, if_false, nr_20, nr_24, nr_40, nr_41, nr_44, pt_lt, pt_ge, pt_eq, pt_ne, pt_gt, pt_le, pt_E, pt_N, pt_F, ite_10, ite_11, ne_eq, and_self, or_self, decide_true, decide_false, Bool.not_true, Bool.not_false, Bool.false_eq_true, Nat.reduceEqDiff, Nat.reduceAdd, Int.reduceEq, Int.reduceLT, Int.reduceLE, Int.reduceNeg, Int.reduceAdd, Int.reduceSub, Int.reduceMul, reduceCtorEq, iA, iS, iM, iD, iR, iN, lA, lS, lM, lD, lR, l0, l1, l2, l3, l4, cj, h.k, h.p3, h.a3, h.n3, h.p0, h.a1, h.n1, o1, o2, ea3, eb3, oa, ob, e3, e4, e5, ce]
            clear e3 e4 e5
            refine ⟨k - 1, nk, j + 1, nc, nj, fun k2 hk2 => ?_⟩
            by_cases e : k2 = j
            · rw [e]; exact ce
            · exact hall k2 (by omega)
          · simp only [cX10_sameWord_1, bX10_sameWord_1, wE_I, wE_V, wE_F, wE_A, wE_N, wE_1, wE_2, wE_D, wE_B, wE_If, wE_C, wE_CV, wE_SL, wE_SA, wA_0, wA_1, wC_B, wC_E, wC_And, wC_Or, wC_Not, wS_Skip, wS_Brk, wS_Cnt, wS_RetV, wS_Ret, wS_Seq, wS_Set, wS_Inc, wS_Do, wS_Put, wS_PutC, wS_Arr, wS_ArrC, wS_If, wS_Sw, wS_F0, wS_F1, wM_q, lu_ap, aL_ap, ct_0, ct_1, ct_2, ct_3, ct_4, ct_5, headD_1, List.mem_cons, List.not_mem_nil, or_false, false_or, or_true, true_or, true_and, and_true, false_and, and_false, not_true_eq_false, not_false_eq_true, if_true, if_false, nr_20, nr_24, nr_40, nr_41, nr_44, pt_lt, pt_ge, pt_eq, pt_ne, pt_gt, pt_le, pt_E, pt_N, pt_F, ite_10, ite_11, ne_eq, and_self, or_self, decide_true, decide_false, Bool.not_true, Bool.not_false, Bool.false_eq_true, Nat.reduceEqDiff, Nat.reduceAdd, Int.reduceEq, Int.reduceLT, Int.reduceLE, Int.reduceNeg, Int.reduceAdd, Int.reduceSub, Int.reduceMul, reduceCtorEq, iA, iS, iM, iD, iR, iN, lA, lS, lM, lD, lR, l0, l1, l2, l3, l4, cj, h.k, h.p3, h.a3, h.n3, h.p0, h.a1, h.n1, o1, o2, ea3, eb3, oa, ob, e3, e4, ce]
            exact fun z => ce (z j (by clear e3 e4 e5; omega))
        · simp only [cX10_sameWord_1, wE_I, wE_V, wE_F, wE_A, wE_N, wE_1, wE_2, wE_D, wE_B, wE_If, wE_C, wE_CV, wE_SL, wE_SA, wA_0, wA_1, wC_B, wC_E, wC_And, wC_Or, wC_Not, wS_Skip, wS_Brk, wS_Cnt, wS_RetV, wS_Ret, wS_Seq, wS_Set, wS_Inc, wS_Do, wS_Put, wS_PutC, wS_Arr, wS_ArrC, wS_If, wS_Sw, wS_F0, wS_F1, wM_q, lu_ap, aL_ap, ct_0, ct_1, ct_2, ct_3, ct_4, ct_5, headD_1, List.mem_cons, List.not_mem_nil, or_false, false_or, or_true, true_or, true_and, and_true, false_and, and_false, not_true_eq_false, not_false_eq_true, if_true, if_false, nr_20, nr_24, nr_40, nr_41, nr_44, pt_lt, pt_ge, pt_eq, pt_ne, pt_gt, pt_le, pt_E, pt_N, pt_F, ite_10, ite_11, ne_eq, and_self, or_self, decide_true, decide_false, Bool.not_true, Bool.not_false, Bool.false_eq_true, Nat.reduceEqDiff, Nat.reduceAdd, Int.reduceEq, Int.reduceLT, Int.reduceLE, Int.reduceNeg, Int.reduceAdd, Int.reduceSub, Int.reduceMul, reduceCtorEq, iA, iS, iM, iD, iR, iN, lA, lS, lM, lD, lR, l3, l4, cj]
          exact fun k hk => hall k (by omega)
    · simp only [mX10_sameWord, sX10_sameWord, wE_I, wE_V, wE_F, wE_A, wE_N, wE_1, wE_2, wE_D, wE_B, wE_If, wE_C, wE_CV, wE_SL, wE_SA, wA_0, wA_1, wC_B, wC_E, wC_And, wC_Or, wC_Not, wS_Skip, wS_Brk, wS_Cnt, wS_RetV, wS_Ret, wS_Seq, wS_Set, wS_Inc, wS_Do, wS_Put, wS_PutC, wS_Arr, wS_ArrC, wS_If, wS_Sw, wS_F0, wS_F1, wM_q, lu_ap, aL_ap, ct_0, ct_1, ct_2, ct_3, ct_4, ct_5, headD_1, List.mem_cons, List.not_mem_nil, or_false, false_or, or_true, true_or, true_and, and_true, false_and, and_false, not_true_eq_false, not_false_eq_true, if_true, if_false, nr_20, nr_24, nr_40, nr_41, nr_44, pt_lt, pt_ge, pt_eq, pt_ne, pt_gt, pt_le, pt_E, pt_N, pt_F, ite_10, ite_11, ne_eq, and_self, or_self, decide_true, decide_false, Bool.not_true, Bool.not_false, Bool.false_eq_true, Nat.reduceEqDiff, Nat.reduceAdd, Int.reduceEq, Int.reduceLT, Int.reduceLE, Int.reduceNeg, Int.reduceAdd, Int.reduceSub, Int.reduceMul, reduceCtorEq, iA, iS, iM, iD, iR, iN, lA, lS, lM, lD, lR, h.k, wM_of qa, wM_of qb, h.p3, h.p4, h.a3, h.n3, h.a4, h.n4, o1, o2, ea3, ea4, eb3, eb4, e1, e2, c]
  · have qb := q_isT0 h hb.1 hb5
    have hne := (hT.2.2.1 a ha.1 ha.2).1
    have hno : ¬ smW v T a b := fun z => by
      have z1 := z.1
      rw [st_e hb5, sp_e hb5] at z1
      omega
    simp only [mX10_sameWord, sX10_sameWord, wE_I, wE_V, wE_F, wE_A, wE_N, wE_1, wE_2, wE_D, wE_B, wE_If, wE_C, wE_CV, wE_SL, wE_SA, wA_0, wA_1, wC_B, wC_E, wC_And, wC_Or, wC_Not, wS_Skip, wS_Brk, wS_Cnt, wS_RetV, wS_Ret, wS_Seq, wS_Set, wS_Inc, wS_Do, wS_Put, wS_PutC, wS_Arr, wS_ArrC, wS_If, wS_Sw, wS_F0, wS_F1, wM_q, lu_ap, aL_ap, ct_0, ct_1, ct_2, ct_3, ct_4, ct_5, headD_1, List.mem_cons, List.not_mem_nil, or_false, false_or, or_true, true_or, true_and, and_true, false_and, and_false, not_true_eq_false, not_false_eq_true, if_true, if_false, nr_20, nr_24, nr_40, nr_41, nr_44, pt_lt, pt_ge, pt_eq, pt_ne, pt_gt, pt_le, pt_E, pt_N, pt_F, ite_10, ite_11, ne_eq, and_self, or_self, decide_true, decide_false, Bool.not_true, Bool.not_false, Bool.false_eq_true, Nat.reduceEqDiff, Nat.reduceAdd, Int.reduceEq, Int.reduceLT, Int.reduceLE, Int.reduceNeg, Int.reduceAdd, Int.reduceSub, Int.reduceMul, reduceCtorEq, iA, iS, iM, iD, iR, iN, lA, lS, lM, lD, lR, h.k, wM_of qa, wM_of qb]
    exact hno
theorem PS.st {P i : Int} (h : PS S v T x P i) : ∀ i, 0 ≤ i → i < nTk v T → 0 ≤ stT v T i ∧ stT v T i ≤ spT v T i ∧ spT v T i ≤ v T 1 := by
  intro i i0 i1
  obtain ⟨-, -, -, -, -, -, h7, hn, -⟩ := h
  obtain ⟨t1, t2, t3, t4⟩ := h7
  by_cases c : i = nTk v T - 1
  · subst c
    rw [t2.2.1, t2.2.2]
    exact ⟨hn.1, Int.le_refl _, Int.le_refl _⟩
  · have := (t3 i i0 (by omega)).1
    omega
theorem c_bearerHere {P i : Int} (h : PS S v T x P i) (hN : NB v T x) : wM mX5_bearerHere [x] S v (fun r w => w = v ∧ isBe v T x i r) := by
  have hs := h.st
  obtain ⟨h1, h2, h3, h4, h5, h6, h7, h9, h10, h8⟩ := h
  simp only [mX5_bearerHere, sX5_bearerHere, wE_I, wE_V, wE_F, wE_A, wE_N, wE_1, wE_2, wE_D, wE_B, wE_If, wE_C, wE_CV, wE_SL, wE_SA, wA_0, wA_1, wC_B, wC_E, wC_And, wC_Or, wC_Not, wS_Skip, wS_Brk, wS_Cnt, wS_RetV, wS_Ret, wS_Seq, wS_Set, wS_Inc, wS_Do, wS_Put, wS_PutC, wS_Arr, wS_ArrC, wS_If, wS_Sw, wS_F0, wS_F1, wM_q, lu_ap, aL_ap, ct_0, ct_1, ct_2, ct_3, ct_4, ct_5, headD_1, List.mem_cons, List.not_mem_nil, or_false, false_or, or_true, true_or, true_and, and_true, false_and, and_false, not_true_eq_false, not_false_eq_true, if_true, if_false, nr_20, nr_24, nr_40, nr_41, nr_44, pt_lt, pt_ge, pt_eq, pt_ne, pt_gt, pt_le, pt_E, pt_N, pt_F, ite_10, ite_11, ne_eq, and_self, or_self, decide_true, decide_false, Bool.not_true, Bool.not_false, Bool.false_eq_true, Nat.reduceEqDiff, Nat.reduceAdd, Int.reduceEq, Int.reduceLT, Int.reduceLE, Int.reduceNeg, Int.reduceAdd, Int.reduceSub, Int.reduceMul, reduceCtorEq, iA, iS, iM, iD, iR, iN, lA, lS, lM, lD, lR]
  refine wS_While (fun k L w => ∃ j : Int, (L 0 = x ∧ L 1 = j) ∧ (0 ≤ j ∧ j ≤ v x 7 ∧ (k : Int) = v x 7 - j) ∧ (∀ j', 0 ≤ j' → j' < j → ¬ smW v T (v (x + 1) j') i) ∧ w = v) (v x 7).toNat (by have := hN.1; omega) ?_ ?_
  · exact ⟨0, ⟨by simp [lu_ap, aL_ap, ct_0, ct_1, ct_2], by simp [lu_ap]⟩, by have := hN.1; omega, fun j' a b => by omega, rfl⟩
  · rintro k L w ⟨j, ⟨l0, l1⟩, ⟨hj0, hj1, hk⟩, hno, rfl⟩
    by_cases c : j < w x 7
    · obtain ⟨q1, q2⟩ := hN.2 j hj0 c
      have o1 : 0 ≤ j ∧ j < 8 := by have := hN.1; omega
      have nk : (w x 7 - (j + 1)).toNat < k := by omega
      have nk2 : 0 ≤ j + 1 ∧ j + 1 ≤ w x 7 ∧ (((w x 7 - (j + 1)).toNat : Nat) : Int) = w x 7 - (j + 1) := by omega
      have hsw := c_sameWord h1 h7 h9 q1 h6 hs
      have hN8 := hN.1
      simp only [cX5_bearerHere_1, bX5_bearerHere_1, wE_I, wE_V, wE_F, wE_A, wE_N, wE_1, wE_2, wE_D, wE_B, wE_If, wE_C, wE_CV, wE_SL, wE_SA, wA_0, wA_1, wC_B, wC_E, wC_And, wC_Or, wC_Not, wS_Skip, wS_Brk, wS_Cnt, wS_RetV, wS_Ret, wS_Seq, wS_Set, wS_Inc, wS_Do, wS_Put, wS_PutC, wS_Arr, wS_ArrC, wS_If, wS_Sw, wS_F0, wS_F1, wM_q, lu_ap, aL_ap, ct_0, ct_1, ct_2, ct_3, ct_4, ct_5, headD_1, List.mem_cons, List.not_mem_nil, or_false, false_or, or_true, true_or, true_and, and_true, false_and, and_false, not_true_eq_false, not_false_eq_true, if_true, if_false, nr_20, nr_24, nr_40, nr_41, nr_44, pt_lt, pt_ge, pt_eq, pt_ne, pt_gt, pt_le, pt_E, pt_N, pt_F, ite_10, ite_11, ne_eq, and_self, or_self, decide_true, decide_false, Bool.not_true, Bool.not_false, Bool.false_eq_true, Nat.reduceEqDiff, Nat.reduceAdd, Int.reduceEq, Int.reduceLT, Int.reduceLE, Int.reduceNeg, Int.reduceAdd, Int.reduceSub, Int.reduceMul, reduceCtorEq, iA, iS, iM, iD, iR, iN, lA, lS, lM, lD, lR, l0, l1, h2.k, c, h3, h1.k, h2.p5, h2.a1, h2.n1, o1, h5]
      refine wM_mono hsw ?_
      rintro r w' e ⟨rfl, ⟨rfl, hm⟩ | ⟨rfl, hm⟩⟩
      · simp only [wE_I, wE_V, wE_F, wE_A, wE_N, wE_1, wE_2, wE_D, wE_B, wE_If, wE_C, wE_CV, wE_SL, wE_SA, wA_0, wA_1, wC_B, wC_E, wC_And, wC_Or, wC_Not, wS_Skip, wS_Brk, wS_Cnt, wS_RetV, wS_Ret, wS_Seq, wS_Set, wS_Inc, wS_Do, wS_Put, wS_PutC, wS_Arr, wS_ArrC, wS_If, wS_Sw, wS_F0, wS_F1, wM_q, lu_ap, aL_ap, ct_0, ct_1, ct_2, ct_3, ct_4, ct_5, headD_1, List.mem_cons, List.not_mem_nil, or_false, false_or, or_true, true_or, true_and, and_true, false_and, and_false, not_true_eq_false, not_false_eq_true, if_true, if_false, nr_20, nr_24, nr_40, nr_41, nr_44, pt_lt, pt_ge, pt_eq, pt_ne, pt_gt, pt_le, pt_E, pt_N, pt_F, ite_10, ite_11, ne_eq, and_self, or_self, decide_true, decide_false, Bool.not_true, Bool.not_false, Bool.false_eq_true, Nat.reduceEqDiff, Nat.reduceAdd, Int.reduceEq, Int.reduceLT, Int.reduceLE, Int.reduceNeg, Int.reduceAdd, Int.reduceSub, Int.reduceMul, reduceCtorEq, l0, l1, h2.k, h2.p6, h2.a2, h2.n2, o1]
        exact Or.inl ⟨j, ⟨hj0, c⟩, hm, hno, rfl⟩
      · have e5 : w32 (j + 1) = j + 1 := w32_e (by omega)
        simp only [uX5_bearerHere_1, wE_I, wE_V, wE_F, wE_A, wE_N, wE_1, wE_2, wE_D, wE_B, wE_If, wE_C, wE_CV, wE_SL, wE_SA, wA_0, wA_1, wC_B, wC_E, wC_And, wC_Or, wC_Not, wS_Skip, wS_Brk, wS_Cnt, wS_RetV, wS_Ret, wS_Seq, wS_Set, wS_Inc, wS_Do, wS_Put, wS_PutC, wS_Arr, wS_ArrC, wS_If, wS_Sw, wS_F0, wS_F1, wM_q, lu_ap, aL_ap, ct_0, ct_1, ct_2, ct_3, ct_4, ct_5, headD_1, List.mem_cons, List.not_mem_nil, or_false, false_or, or_true, true_or, true_and, and_true, false_and, and_false, not_true_eq_false, not_false_eq_true, if_true, if_false, nr_20, nr_24, nr_40, nr_41, nr_44, pt_lt, pt_ge, pt_eq, pt_ne, pt_gt, pt_le, pt_E, pt_N, pt_F, ite_10, ite_11, ne_eq, and_self, or_self, decide_true, decide_false, Bool.not_true, Bool.not_false, Bool.false_eq_true, Nat.reduceEqDiff, Nat.reduceAdd, Int.reduceEq, Int.reduceLT, Int.reduceLE, Int.reduceNeg, Int.reduceAdd, Int.reduceSub, Int.reduceMul, reduceCtorEq, l0, l1, e5]
        clear e5
        refine ⟨_, nk, j + 1, rfl, nk2, fun j' a b => ?_⟩
        by_cases e : j' = j
        · rw [e]; exact hm
        · exact hno j' a (by omega)
    · simp only [cX5_bearerHere_1, wE_I, wE_V, wE_F, wE_A, wE_N, wE_1, wE_2, wE_D, wE_B, wE_If, wE_C, wE_CV, wE_SL, wE_SA, wA_0, wA_1, wC_B, wC_E, wC_And, wC_Or, wC_Not, wS_Skip, wS_Brk, wS_Cnt, wS_RetV, wS_Ret, wS_Seq, wS_Set, wS_Inc, wS_Do, wS_Put, wS_PutC, wS_Arr, wS_ArrC, wS_If, wS_Sw, wS_F0, wS_F1, wM_q, lu_ap, aL_ap, ct_0, ct_1, ct_2, ct_3, ct_4, ct_5, headD_1, List.mem_cons, List.not_mem_nil, or_false, false_or, or_true, true_or, true_and, and_true, false_and, and_false, not_true_eq_false, not_false_eq_true, if_true, if_false, nr_20, nr_24, nr_40, nr_41, nr_44, pt_lt, pt_ge, pt_eq, pt_ne, pt_gt, pt_le, pt_E, pt_N, pt_F, ite_10, ite_11, ne_eq, and_self, or_self, decide_true, decide_false, Bool.not_true, Bool.not_false, Bool.false_eq_true, Nat.reduceEqDiff, Nat.reduceAdd, Int.reduceEq, Int.reduceLT, Int.reduceLE, Int.reduceNeg, Int.reduceAdd, Int.reduceSub, Int.reduceMul, reduceCtorEq, iA, iS, iM, iD, iR, iN, lA, lS, lM, lD, lR, l0, l1, h2.k, c]
      exact Or.inr ⟨rfl, fun j' a b => hno j' a (by omega)⟩
theorem m_isNamed (hw : Pw S v w M n) (hc : CX v M T n) {i j : Int} (hi : 0 ≤ i ∧ i < nTk v T) (hj : 0 ≤ j ∧ j < 8) {t : Int} (ht : 0 ≤ t ∧ t < nTk v T) (h33 : w M 33 = stT v T i) (h32 : w M 32 = spT v T i) (h26 : w (M + 26) j = stT v T t) (h27 : w (M + 27) j = spT v T t - stT v T t) : wM mX12_isNamed [M, j] S w (fun r w' => w' = w ∧ ((r = 1 ∧ smW v T t i) ∨ (r = 0 ∧ ¬ smW v T t i))) := by
  have si := hc.st hi
  have st := hc.st ht
  have hbr := hc.2.2.2.1
  have hn := hc.2.2.1
  have e1 : w32 (spT v T i - stT v T i) = spT v T i - stT v T i := w32_e (by omega)
  by_cases c : spT v T t - stT v T t = spT v T i - stT v T i
  · simp only [mX12_isNamed, sX12_isNamed, wE_I, wE_V, wE_F, wE_A, wE_N, wE_1, wE_2, wE_D, wE_B, wE_If, wE_C, wE_CV, wE_SL, wE_SA, wA_0, wA_1, wC_B, wC_E, wC_And, wC_Or, wC_Not, wS_Skip, wS_Brk, wS_Cnt, wS_RetV, wS_Ret, wS_Seq, wS_Set, wS_Inc, wS_Do, wS_Put, wS_PutC, wS_Arr, wS_ArrC, wS_If, wS_Sw, wS_F0, wS_F1, wM_q, lu_ap, aL_ap, ct_0, ct_1, ct_2, ct_3, ct_4, ct_5, headD_1, List.mem_cons, List.not_mem_nil, or_false, false_or, or_true, true_or, true_and, and_true, false_and, and_false, not_true_eq_false, not_false_eq_true, if_true, if_false, nr_20, nr_24, nr_40, nr_41, nr_44, pt_lt, pt_ge, pt_eq, pt_ne, pt_gt, pt_le, pt_E, pt_N, pt_F, ite_10, ite_11, ne_eq, and_self, or_self, decide_true, decide_false, Bool.not_true, Bool.not_false, Bool.false_eq_true, Nat.reduceEqDiff, Nat.reduceAdd, Int.reduceEq, Int.reduceLT, Int.reduceLE, Int.reduceNeg, Int.reduceAdd, Int.reduceSub, Int.reduceMul, reduceCtorEq, iA, iS, iM, iD, iR, iN, lA, lS, lM, lD, lR, hw.1.k, hw.1.p26, hw.1.a27, hw.1.n27, hj, h27, h32, h33, e1, c]
    clear e1
    refine wS_While (fun k L w' => ∃ l : Nat, (L 0 = M ∧ L 1 = j ∧ L 2 = l) ∧ ((l : Int) ≤ spT v T i - stT v T i ∧ (k : Int) = spT v T i - stT v T i - l) ∧ (∀ k : Nat, k < l → v (T + 1) (stT v T t + k) = v (T + 1) (stT v T i + k)) ∧ w' = w) (spT v T i - stT v T i).toNat (by omega) ?_ ?_
    · exact ⟨0, ⟨by simp [lu_ap, aL_ap, ct_0, ct_1, ct_2], by simp [lu_ap, aL_ap, ct_0, ct_1, ct_2], by simp [lu_ap]⟩, by omega, fun k hk => absurd hk (Nat.not_lt_zero _), rfl⟩
    · rintro k L w' ⟨l, ⟨l0, l1, l2⟩, ⟨hl, hk⟩, hall, rfl⟩
      by_cases cl : (l : Int) < spT v T i - stT v T i
      · have ot : 0 ≤ stT v T t + (l : Int) ∧ stT v T t + (l : Int) < 1000 := by omega
        have oi : 0 ≤ stT v T i + (l : Int) ∧ stT v T i + (l : Int) < 1000 := by omega
        have bt := hbr (stT v T t + (l : Int)) (by omega) (by omega)
        have bi := hbr (stT v T i + (l : Int)) (by omega) (by omega)
        have rt := (hw.2.2 (stT v T t + (l : Int))).1
        have ri := (hw.2.2 (stT v T i + (l : Int))).1
        have nk : k - 1 < k := by omega
        have nj : (((l + 1 : Nat)) : Int) ≤ spT v T i - stT v T i ∧ ((k - 1 : Nat) : Int) = spT v T i - stT v T i - ((l + 1 : Nat) : Int) := by omega
        have nc : (l : Int) + 1 = ((l + 1 : Nat) : Int) := by omega
        have heq : v (M + 28) (stT v T t + (l : Int)) = v (M + 28) (stT v T i + (l : Int)) ↔ v (T + 1) (stT v T t + (l : Int)) = v (T + 1) (stT v T i + (l : Int)) := by omega
        have e3 : w32 (stT v T t + (l : Int)) = stT v T t + l := w32_e (by omega)
        have e4 : w32 (stT v T i + (l : Int)) = stT v T i + l := by clear e3; exact w32_e (by omega)
        have e5 : w32 ((l : Int) + 1) = l + 1 := by clear e3 e4; exact w32_e (by omega)
        have e6 : w' (M + 27) j = spT v T i - stT v T i := h27.trans c
        by_cases ce : v (M + 28) (stT v T t + (l : Int)) = v (M + 28) (stT v T i + (l : Int))
        · simp only [cX12_isNamed_1, bX12_isNamed_1, uX12_isNamed_1, wE_I, wE_V, wE_F, wE_A, wE_N, wE_1, wE_2, wE_D, wE_B, wE_If, wE_C, wE_CV, wE_SL, wE_SA, wA_0, wA_1, wC_B, wC_E, wC_And, wC_Or, wC_Not, wS_Skip, wS_Brk, wS_Cnt, wS_RetV, wS_Ret, wS_Seq, wS_Set, wS_Inc, wS_Do, wS_Put, wS_PutC, wS_Arr, wS_ArrC, wS_If, wS_Sw, wS_F0, wS_F1, wM_q, lu_ap, aL_ap, ct_0, ct_1, ct_2, ct_3, ct_4, ct_5, headD_1, List.mem_cons, List.not_mem_nil, or_false, false_or, or_true, true_or, true_and, and_true, false_and, and_false, not_true_eq_false, not_false_eq_true, if_true, if_false, nr_20, nr_24, nr_40, nr_41, nr_44, pt_lt, pt_ge, pt_eq, pt_ne, pt_gt, pt_le, pt_E, pt_N, pt_F, ite_10, ite_11, ne_eq, and_self, or_self, decide_true, decide_false, Bool.not_true, Bool.not_false, Bool.false_eq_true, Nat.reduceEqDiff, Nat.reduceAdd, Int.reduceEq, Int.reduceLT, Int.reduceLE, Int.reduceNeg, Int.reduceAdd, Int.reduceSub, Int.reduceMul, reduceCtorEq, iA, iS, iM, iD, iR, iN, lA, lS, lM, lD, lR, l0, l1, l2, hw.1.k, hw.1.p26, hw.1.a27, hw.1.n27, hw.1.p25, hw.1.a26, hw.1.n26, hw.1.p29, hw.1.a28, hw.1.n28, hj, h26, e6, h33, cl, e3, e4, e5, ot, oi, rt, ri, ce]
          clear e3 e4 e5
          refine ⟨k - 1, nk, l + 1, nc, nj, fun k2 hk2 => ?_⟩
          by_cases e : k2 = l
          · rw [e]; exact heq.mp ce
          · exact hall k2 (by omega)
        · simp only [cX12_isNamed_1, bX12_isNamed_1, wE_I, wE_V, wE_F, wE_A, wE_N, wE_1, wE_2, wE_D, wE_B, wE_If, wE_C, wE_CV, wE_SL, wE_SA, wA_0, wA_1, wC_B, wC_E, wC_And, wC_Or, wC_Not, wS_Skip, wS_Brk, wS_Cnt, wS_RetV, wS_Ret, wS_Seq, wS_Set, wS_Inc, wS_Do, wS_Put, wS_PutC, wS_Arr, wS_ArrC, wS_If, wS_Sw, wS_F0, wS_F1, wM_q, lu_ap, aL_ap, ct_0, ct_1, ct_2, ct_3, ct_4, ct_5, headD_1, List.mem_cons, List.not_mem_nil, or_false, false_or, or_true, true_or, true_and, and_true, false_and, and_false, not_true_eq_false, not_false_eq_true, if_true, if_false, nr_20, nr_24, nr_40, nr_41, nr_44, pt_lt, pt_ge, pt_eq, pt_ne, pt_gt, pt_le, pt_E, pt_N, pt_F, ite_10, ite_11, ne_eq, and_self, or_self, decide_true, decide_false, Bool.not_true, Bool.not_false, Bool.false_eq_true, Nat.reduceEqDiff, Nat.reduceAdd, Int.reduceEq, Int.reduceLT, Int.reduceLE, Int.reduceNeg, Int.reduceAdd, Int.reduceSub, Int.reduceMul, reduceCtorEq, iA, iS, iM, iD, iR, iN, lA, lS, lM, lD, lR, l0, l1, l2, hw.1.k, hw.1.p26, hw.1.a27, hw.1.n27, hw.1.p25, hw.1.a26, hw.1.n26, hw.1.p29, hw.1.a28, hw.1.n28, hj, h26, e6, h33, cl, e3, e4, ot, oi, rt, ri, ce]
          exact fun z => ce (heq.mpr (z.2 l (by clear e3 e4 e5; omega)))
      · have e6 : w' (M + 27) j = spT v T i - stT v T i := h27.trans c
        simp only [cX12_isNamed_1, wE_I, wE_V, wE_F, wE_A, wE_N, wE_1, wE_2, wE_D, wE_B, wE_If, wE_C, wE_CV, wE_SL, wE_SA, wA_0, wA_1, wC_B, wC_E, wC_And, wC_Or, wC_Not, wS_Skip, wS_Brk, wS_Cnt, wS_RetV, wS_Ret, wS_Seq, wS_Set, wS_Inc, wS_Do, wS_Put, wS_PutC, wS_Arr, wS_ArrC, wS_If, wS_Sw, wS_F0, wS_F1, wM_q, lu_ap, aL_ap, ct_0, ct_1, ct_2, ct_3, ct_4, ct_5, headD_1, List.mem_cons, List.not_mem_nil, or_false, false_or, or_true, true_or, true_and, and_true, false_and, and_false, not_true_eq_false, not_false_eq_true, if_true, if_false, nr_20, nr_24, nr_40, nr_41, nr_44, pt_lt, pt_ge, pt_eq, pt_ne, pt_gt, pt_le, pt_E, pt_N, pt_F, ite_10, ite_11, ne_eq, and_self, or_self, decide_true, decide_false, Bool.not_true, Bool.not_false, Bool.false_eq_true, Nat.reduceEqDiff, Nat.reduceAdd, Int.reduceEq, Int.reduceLT, Int.reduceLE, Int.reduceNeg, Int.reduceAdd, Int.reduceSub, Int.reduceMul, reduceCtorEq, iA, iS, iM, iD, iR, iN, lA, lS, lM, lD, lR, l0, l1, l2, hw.1.k, hw.1.p26, hw.1.a27, hw.1.n27, hj, e6, cl]
        exact ⟨c, fun k hk => hall k (by omega)⟩
  · simp only [mX12_isNamed, sX12_isNamed, wE_I, wE_V, wE_F, wE_A, wE_N, wE_1, wE_2, wE_D, wE_B, wE_If, wE_C, wE_CV, wE_SL, wE_SA, wA_0, wA_1, wC_B, wC_E, wC_And, wC_Or, wC_Not, wS_Skip, wS_Brk, wS_Cnt, wS_RetV, wS_Ret, wS_Seq, wS_Set, wS_Inc, wS_Do, wS_Put, wS_PutC, wS_Arr, wS_ArrC, wS_If, wS_Sw, wS_F0, wS_F1, wM_q, lu_ap, aL_ap, ct_0, ct_1, ct_2, ct_3, ct_4, ct_5, headD_1, List.mem_cons, List.not_mem_nil, or_false, false_or, or_true, true_or, true_and, and_true, false_and, and_false, not_true_eq_false, not_false_eq_true, if_true, if_false, nr_20, nr_24, nr_40, nr_41, nr_44, pt_lt, pt_ge, pt_eq, pt_ne, pt_gt, pt_le, pt_E, pt_N, pt_F, ite_10, ite_11, ne_eq, and_self, or_self, decide_true, decide_false, Bool.not_true, Bool.not_false, Bool.false_eq_true, Nat.reduceEqDiff, Nat.reduceAdd, Int.reduceEq, Int.reduceLT, Int.reduceLE, Int.reduceNeg, Int.reduceAdd, Int.reduceSub, Int.reduceMul, reduceCtorEq, iA, iS, iM, iD, iR, iN, lA, lS, lM, lD, lR, hw.1.k, hw.1.p26, hw.1.a27, hw.1.n27, hj, h27, h32, h33, e1, c]
    exact fun z => c z.1
theorem smW_q {a b : Int} (hu : ∀ q k, T ≤ q → q ≤ T + 4 → u q k = v q k) : smW u T a b ↔ smW v T a b := by
  unfold smW
  simp only [hu (T + 1) _ (by omega) (by omega), st_q hu, sp_q hu]
theorem isBe_u {i r r' : Int} (h : isBe u T x i r) (h' : isBe u T x i r') : r = r' := by
  rcases h with ⟨j, hj, hm, hno, e⟩ | ⟨e, hno⟩
  · rcases h' with ⟨j', hj', hm', hno', e'⟩ | ⟨e', hno'⟩
    · by_cases c : j = j'
      · subst c; rw [e, e']
      · exfalso
        by_cases l : j < j'
        · exact hno' j hj.1 l hm
        · exact hno j' hj'.1 (by omega) hm'
    · exact absurd hm (hno' j hj.1 hj.2)
  · rcases h' with ⟨j', hj', hm', hno', e'⟩ | ⟨e', hno'⟩
    · exact absurd hm' (hno j' hj'.1 hj'.2)
    · rw [e, e']
theorem m_nameHere (hw : Pw S v w M n) (hc : CX v M T n) (hu : ∀ q k, T ≤ q → q ≤ T + 4 → u q k = v q k) (hu5 : nTk u T = nTk v T) (hR : NR u w T x M) {i : Int} (hi : 0 ≤ i ∧ i < nTk v T) (h33 : w M 33 = stT v T i) (h32 : w M 32 = spT v T i) : wM mX12_nameHere [M] S w (fun r w' => w' = w ∧ ∃ b, isBe u T x i b ∧ r = (if b = -1 then -1 else cvB b)) := by
  obtain ⟨⟨r1, r2, r3⟩, r4⟩ := hR
  simp only [mX12_nameHere, sX12_nameHere, wE_I, wE_V, wE_F, wE_A, wE_N, wE_1, wE_2, wE_D, wE_B, wE_If, wE_C, wE_CV, wE_SL, wE_SA, wA_0, wA_1, wC_B, wC_E, wC_And, wC_Or, wC_Not, wS_Skip, wS_Brk, wS_Cnt, wS_RetV, wS_Ret, wS_Seq, wS_Set, wS_Inc, wS_Do, wS_Put, wS_PutC, wS_Arr, wS_ArrC, wS_If, wS_Sw, wS_F0, wS_F1, wM_q, lu_ap, aL_ap, ct_0, ct_1, ct_2, ct_3, ct_4, ct_5, headD_1, List.mem_cons, List.not_mem_nil, or_false, false_or, or_true, true_or, true_and, and_true, false_and, and_false, not_true_eq_false, not_false_eq_true, if_true, if_false, nr_20, nr_24, nr_40, nr_41, nr_44, pt_lt, pt_ge, pt_eq, pt_ne, pt_gt, pt_le, pt_E, pt_N, pt_F, ite_10, ite_11, ne_eq, and_self, or_self, decide_true, decide_false, Bool.not_true, Bool.not_false, Bool.false_eq_true, Nat.reduceEqDiff, Nat.reduceAdd, Int.reduceEq, Int.reduceLT, Int.reduceLE, Int.reduceNeg, Int.reduceAdd, Int.reduceSub, Int.reduceMul, reduceCtorEq, iA, iS, iM, iD, iR, iN, lA, lS, lM, lD, lR]
  refine wS_While (fun k L w' => ∃ j : Int, (L 0 = M ∧ L 1 = j) ∧ (0 ≤ j ∧ j ≤ u x 7 ∧ (k : Int) = u x 7 - j) ∧ (∀ j', 0 ≤ j' → j' < j → ¬ smW u T (u (x + 1) j') i) ∧ w' = w) (u x 7).toNat (by omega) ?_ ?_
  · exact ⟨0, ⟨by simp [lu_ap, aL_ap, ct_0, ct_1, ct_2], by simp [lu_ap]⟩, by omega, fun j' a b => by omega, rfl⟩
  · rintro k L w' ⟨j, ⟨l0, l1⟩, ⟨hj0, hj1, hk⟩, hno, rfl⟩
    by_cases c : j < u x 7
    · obtain ⟨q1, ⟨q2, q3⟩, q4, q5⟩ := r4 j hj0 c
      rw [st_q hu] at q2
      rw [st_q hu, sp_q hu] at q3
      have o1 : 0 ≤ j ∧ j < 8 := by omega
      have nk : (u x 7 - (j + 1)).toNat < k := by omega
      have nk2 : 0 ≤ j + 1 ∧ j + 1 ≤ u x 7 ∧ (((u x 7 - (j + 1)).toNat : Nat) : Int) = u x 7 - (j + 1) := by omega
      have hsw := m_isNamed hw hc hi o1 (t := u (x + 1) j) (by omega) h33 h32 q2 q3
      simp only [cX12_nameHere_1, bX12_nameHere_1, wE_I, wE_V, wE_F, wE_A, wE_N, wE_1, wE_2, wE_D, wE_B, wE_If, wE_C, wE_CV, wE_SL, wE_SA, wA_0, wA_1, wC_B, wC_E, wC_And, wC_Or, wC_Not, wS_Skip, wS_Brk, wS_Cnt, wS_RetV, wS_Ret, wS_Seq, wS_Set, wS_Inc, wS_Do, wS_Put, wS_PutC, wS_Arr, wS_ArrC, wS_If, wS_Sw, wS_F0, wS_F1, wM_q, lu_ap, aL_ap, ct_0, ct_1, ct_2, ct_3, ct_4, ct_5, headD_1, List.mem_cons, List.not_mem_nil, or_false, false_or, or_true, true_or, true_and, and_true, false_and, and_false, not_true_eq_false, not_false_eq_true, if_true, if_false, nr_20, nr_24, nr_40, nr_41, nr_44, pt_lt, pt_ge, pt_eq, pt_ne, pt_gt, pt_le, pt_E, pt_N, pt_F, ite_10, ite_11, ne_eq, and_self, or_self, decide_true, decide_false, Bool.not_true, Bool.not_false, Bool.false_eq_true, Nat.reduceEqDiff, Nat.reduceAdd, Int.reduceEq, Int.reduceLT, Int.reduceLE, Int.reduceNeg, Int.reduceAdd, Int.reduceSub, Int.reduceMul, reduceCtorEq, iA, iS, iM, iD, iR, iN, lA, lS, lM, lD, lR, l0, l1, hw.1.k, r1, c]
      refine wM_mono hsw ?_
      rintro r w'' e ⟨rfl, ⟨rfl, hm⟩ | ⟨rfl, hm⟩⟩
      · simp only [wE_I, wE_V, wE_F, wE_A, wE_N, wE_1, wE_2, wE_D, wE_B, wE_If, wE_C, wE_CV, wE_SL, wE_SA, wA_0, wA_1, wC_B, wC_E, wC_And, wC_Or, wC_Not, wS_Skip, wS_Brk, wS_Cnt, wS_RetV, wS_Ret, wS_Seq, wS_Set, wS_Inc, wS_Do, wS_Put, wS_PutC, wS_Arr, wS_ArrC, wS_If, wS_Sw, wS_F0, wS_F1, wM_q, lu_ap, aL_ap, ct_0, ct_1, ct_2, ct_3, ct_4, ct_5, headD_1, List.mem_cons, List.not_mem_nil, or_false, false_or, or_true, true_or, true_and, and_true, false_and, and_false, not_true_eq_false, not_false_eq_true, if_true, if_false, nr_20, nr_24, nr_40, nr_41, nr_44, pt_lt, pt_ge, pt_eq, pt_ne, pt_gt, pt_le, pt_E, pt_N, pt_F, ite_10, ite_11, ne_eq, and_self, or_self, decide_true, decide_false, Bool.not_true, Bool.not_false, Bool.false_eq_true, Nat.reduceEqDiff, Nat.reduceAdd, Int.reduceEq, Int.reduceLT, Int.reduceLE, Int.reduceNeg, Int.reduceAdd, Int.reduceSub, Int.reduceMul, reduceCtorEq, l0, l1, hw.1.k, hw.1.p42, hw.1.a30, hw.1.n30, o1, q5]
        refine ⟨u (x + 2) j, Or.inl ⟨j, ⟨hj0, c⟩, (smW_q hu).mpr hm, hno, rfl⟩, ?_⟩
        rw [if_neg (by omega)]
      · have hm' : ¬ smW u T (u (x + 1) j) i := fun z => hm ((smW_q hu).mp z)
        have e5 : w32 (j + 1) = j + 1 := w32_e (by omega)
        simp only [uX12_nameHere_1, wE_I, wE_V, wE_F, wE_A, wE_N, wE_1, wE_2, wE_D, wE_B, wE_If, wE_C, wE_CV, wE_SL, wE_SA, wA_0, wA_1, wC_B, wC_E, wC_And, wC_Or, wC_Not, wS_Skip, wS_Brk, wS_Cnt, wS_RetV, wS_Ret, wS_Seq, wS_Set, wS_Inc, wS_Do, wS_Put, wS_PutC, wS_Arr, wS_ArrC, wS_If, wS_Sw, wS_F0, wS_F1, wM_q, lu_ap, aL_ap, ct_0, ct_1, ct_2, ct_3, ct_4, ct_5, headD_1, List.mem_cons, List.not_mem_nil, or_false, false_or, or_true, true_or, true_and, and_true, false_and, and_false, not_true_eq_false, not_false_eq_true, if_true, if_false, nr_20, nr_24, nr_40, nr_41, nr_44, pt_lt, pt_ge, pt_eq, pt_ne, pt_gt, pt_le, pt_E, pt_N, pt_F, ite_10, ite_11, ne_eq, and_self, or_self, decide_true, decide_false, Bool.not_true, Bool.not_false, Bool.false_eq_true, Nat.reduceEqDiff, Nat.reduceAdd, Int.reduceEq, Int.reduceLT, Int.reduceLE, Int.reduceNeg, Int.reduceAdd, Int.reduceSub, Int.reduceMul, reduceCtorEq, l0, l1, e5]
        clear e5
        refine ⟨_, nk, j + 1, rfl, nk2, fun j' a b => ?_⟩
        by_cases e : j' = j
        · rw [e]; exact hm'
        · exact hno j' a (by omega)
    · simp only [cX12_nameHere_1, wE_I, wE_V, wE_F, wE_A, wE_N, wE_1, wE_2, wE_D, wE_B, wE_If, wE_C, wE_CV, wE_SL, wE_SA, wA_0, wA_1, wC_B, wC_E, wC_And, wC_Or, wC_Not, wS_Skip, wS_Brk, wS_Cnt, wS_RetV, wS_Ret, wS_Seq, wS_Set, wS_Inc, wS_Do, wS_Put, wS_PutC, wS_Arr, wS_ArrC, wS_If, wS_Sw, wS_F0, wS_F1, wM_q, lu_ap, aL_ap, ct_0, ct_1, ct_2, ct_3, ct_4, ct_5, headD_1, List.mem_cons, List.not_mem_nil, or_false, false_or, or_true, true_or, true_and, and_true, false_and, and_false, not_true_eq_false, not_false_eq_true, if_true, if_false, nr_20, nr_24, nr_40, nr_41, nr_44, pt_lt, pt_ge, pt_eq, pt_ne, pt_gt, pt_le, pt_E, pt_N, pt_F, ite_10, ite_11, ne_eq, and_self, or_self, decide_true, decide_false, Bool.not_true, Bool.not_false, Bool.false_eq_true, Nat.reduceEqDiff, Nat.reduceAdd, Int.reduceEq, Int.reduceLT, Int.reduceLE, Int.reduceNeg, Int.reduceAdd, Int.reduceSub, Int.reduceMul, reduceCtorEq, iA, iS, iM, iD, iR, iN, lA, lS, lM, lD, lR, l0, l1, hw.1.k, r1, c]
      exact ⟨-1, Or.inr ⟨rfl, fun j' a b => hno j' a (by omega)⟩, rfl⟩
end NM
