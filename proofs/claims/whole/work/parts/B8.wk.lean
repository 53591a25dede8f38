/-! STORE: the class's words and kinds -/
section WK
variable {S : QS} {v w : QV} {T : Int}
def wSm (c : Int → Int) (p q : Int) (i : Nat) : Prop := ∀ k : Nat, k < (wIR i).2 → p + k < q ∧ c (p + k) = (wdN (wIR i).1).getD k 0
theorem wIR_s (i : Nat) : wIR (i + 1) = if wdL.getD i 0 = 32 then ((wIR i).1 + 1, 0) else ((wIR i).1, (wIR i).2 + 1) := rfl
theorem q_wordKind (h : LTp S v T) {p q : Int} (hn : v T 1 ≤ 1000) (hp : 0 ≤ p ∧ p < q ∧ q ≤ v T 1) : wM mX10_wordKind [T, p, q] S v (fun r w => w = v ∧ ((∃ i : Nat, i < 18 ∧ wmt (v (T + 1)) p q i ∧ r = 256 + i) ∨ (r = 4 ∧ ∀ i : Nat, i < 18 → ¬ wmt (v (T + 1)) p q i))) := by
  simp only [mX10_wordKind, sX10_wordKind, wE_I, wE_V, wE_F, wE_A, wE_N, wE_1, wE_2, wE_D, wE_B, wE_If, wE_C, wE_CV, wE_SL, wE_SA, wA_0, wA_1, wC_B, wC_E, wC_And, wC_Or, wC_Not, wS_Skip, wS_Brk, wS_Cnt, wS_RetV, wS_Ret, wS_Seq, wS_Set, wS_Inc, wS_Do, wS_Put, wS_PutC, wS_Arr, wS_ArrC, wS_If, wS_Sw, wS_F0, wS_F1, wM_q, lu_ap, aL_ap, ct_0, ct_1, ct_2, ct_3, ct_4, ct_5, headD_1, List.mem_cons, List.not_mem_nil, or_false, false_or, or_true, true_or, true_and, and_true, false_and, and_false, not_true_eq_false, not_false_eq_true, if_true, if_false, nr_20, nr_24, nr_40, nr_41, nr_44, pt_lt, pt_ge, pt_eq, pt_ne, pt_gt, pt_le, pt_E, pt_N, pt_F, ite_10, ite_11, ne_eq, and_self, or_self, decide_true, decide_false, Bool.not_true, Bool.not_false, Bool.false_eq_true, Nat.reduceEqDiff, Nat.reduceAdd, Int.reduceEq, Int.reduceLT, Int.reduceLE, Int.reduceNeg, Int.reduceAdd, Int.reduceSub, Int.reduceMul, reduceCtorEq, iA, iS, iM, iD, iR, iN, lA, lS, lM, lD, lR]
  refine wS_While (fun k L w => ∃ i : Nat, ((L 0 = T ∧ L 1 = p ∧ L 2 = q) ∧ L 3 = 256 + (wIR i).1 ∧ L 4 = p + (wIR i).2 ∧ L 6 = i) ∧ ((L 5 = 1 ∧ wSm (v (T + 1)) p q i) ∨ (L 5 = 0 ∧ ¬ wSm (v (T + 1)) p q i)) ∧ (i ≤ 111 ∧ k + i = 111) ∧ (∀ j : Nat, j < (wIR i).1 → ¬ wmt (v (T + 1)) p q j) ∧ w = v) 111 (by decide) ?_ ?_
  · refine ⟨0, ⟨⟨by simp [lu_ap, aL_ap, ct_0, ct_1, ct_2], by simp [lu_ap, aL_ap, ct_0, ct_1, ct_2], by simp [lu_ap, aL_ap, ct_0, ct_1, ct_2]⟩, by simp [lu_ap, wIR], by simp [lu_ap, aL_ap, ct_0, ct_1, ct_2, wIR], by simp [lu_ap]⟩, Or.inl ⟨by simp [lu_ap], fun k hk => absurd hk (Nat.not_lt_zero _)⟩, ⟨by decide, rfl⟩, fun j hj => absurd hj (Nat.not_lt_zero _), rfl⟩
  · rintro k L w ⟨i, ⟨⟨m0, m1, m2⟩, m3, m4, m6⟩, m5, ⟨hi, hki⟩, hno, rfl⟩
    by_cases hlt : i < 111
    · have hI : (i : Int) < 111 := by omega
      have hI0 : 0 ≤ (i : Int) ∧ (i : Int) < 111 := by omega
      obtain ⟨f1, f2⟩ := wIR_f i hlt
      have hs := wIR_s i
      have et : ((i : Int)).toNat = i := Int.toNat_natCast i
      generalize hz : wdL.getD i 0 = z at *
      by_cases c32 : z = 32
      · rw [if_pos c32] at f2 hs
        have nxt : ∃ n', n' < k ∧ ∃ i' : Nat, ((True) ∧ 256 + ((wIR i).1 : Int) + 1 = 256 + (wIR i').1 ∧ p = p + (wIR i').2 ∧ (i : Int) + 1 = i') ∧ wSm (w (T + 1)) p q i' ∧ (i' ≤ 111 ∧ n' + i' = 111) := by
          refine ⟨k - 1, by omega, i + 1, ⟨trivial, ?_, ?_, by omega⟩, ?_, by omega⟩
          · rw [hs]; simp; omega
          · rw [hs]; simp
          · intro k hk; rw [hs] at hk; exact absurd hk (Nat.not_lt_zero _)
        by_cases hm : wmt (w (T + 1)) p q (wIR i).1
        · -- the word
          have hsm : wSm (w (T + 1)) p q i := fun k hk => ⟨by have := hm.1; omega, hm.2 k (by omega)⟩
          have m51 : L 5 = 1 := by rcases m5 with ⟨e, -⟩ | ⟨-, e⟩; exact e; exact absurd hsm e
          have eq : p + ((wIR i).2 : Int) = q := by have := hm.1; omega
          simp only [cX10_wordKind_1, bX10_wordKind_1, wE_I, wE_V, wE_F, wE_A, wE_N, wE_1, wE_2, wE_D, wE_B, wE_If, wE_C, wE_CV, wE_SL, wE_SA, wA_0, wA_1, wC_B, wC_E, wC_And, wC_Or, wC_Not, wS_Skip, wS_Brk, wS_Cnt, wS_RetV, wS_Ret, wS_Seq, wS_Set, wS_Inc, wS_Do, wS_Put, wS_PutC, wS_Arr, wS_ArrC, wS_If, wS_Sw, wS_F0, wS_F1, wM_q, lu_ap, aL_ap, ct_0, ct_1, ct_2, ct_3, ct_4, ct_5, headD_1, List.mem_cons, List.not_mem_nil, or_false, false_or, or_true, true_or, true_and, and_true, false_and, and_false, not_true_eq_false, not_false_eq_true, if_true, if_false, nr_20, nr_24, nr_40, nr_41, nr_44, pt_lt, pt_ge, pt_eq, pt_ne, pt_gt, pt_le, pt_E, pt_N, pt_F, ite_10, ite_11, ne_eq, and_self, or_self, decide_true, decide_false, Bool.not_true, Bool.not_false, Bool.false_eq_true, Nat.reduceEqDiff, Nat.reduceAdd, Int.reduceEq, Int.reduceLT, Int.reduceLE, Int.reduceNeg, Int.reduceAdd, Int.reduceSub, Int.reduceMul, reduceCtorEq, iA, iS, iM, iD, iR, iN, lA, lS, lM, lD, lR, m0, m1, m2, m3, m4, m51, m6, hI, hI0, et, hz, c32, eq]
          exact Or.inl ⟨(wIR i).1, f1, hm, rfl⟩
        · have hno' : ∀ j : Nat, j < (wIR i).1 + 1 → ¬ wmt (w (T + 1)) p q j := fun j hj => by
            by_cases e : j = (wIR i).1
            · rw [e]; exact hm
            · exact hno j (by omega)
          obtain ⟨n', hn', i', ⟨-, g1, g2, g3⟩, g4, g5⟩ := nxt
          have gi : i' = i + 1 := by omega
          subst gi
          have e1 : w32 ((i : Int) + 1) = i + 1 := w32_e (by omega)
          have e2 : w32 (256 + ((wIR i).1 : Int) + 1) = 256 + ((wIR i).1 : Int) + 1 := by clear e1; exact w32_e (by omega)
          rcases m5 with ⟨m51, hsm⟩ | ⟨m50, -⟩
          · have neq : ¬ p + ((wIR i).2 : Int) = q := fun e => hm ⟨by clear e1 e2; omega, fun k hk => (hsm k (by clear e1 e2; omega)).2⟩
            simp only [cX10_wordKind_1, bX10_wordKind_1, uX10_wordKind_1, wE_I, wE_V, wE_F, wE_A, wE_N, wE_1, wE_2, wE_D, wE_B, wE_If, wE_C, wE_CV, wE_SL, wE_SA, wA_0, wA_1, wC_B, wC_E, wC_And, wC_Or, wC_Not, wS_Skip, wS_Brk, wS_Cnt, wS_RetV, wS_Ret, wS_Seq, wS_Set, wS_Inc, wS_Do, wS_Put, wS_PutC, wS_Arr, wS_ArrC, wS_If, wS_Sw, wS_F0, wS_F1, wM_q, lu_ap, aL_ap, ct_0, ct_1, ct_2, ct_3, ct_4, ct_5, headD_1, List.mem_cons, List.not_mem_nil, or_false, false_or, or_true, true_or, true_and, and_true, false_and, and_false, not_true_eq_false, not_false_eq_true, if_true, if_false, nr_20, nr_24, nr_40, nr_41, nr_44, pt_lt, pt_ge, pt_eq, pt_ne, pt_gt, pt_le, pt_E, pt_N, pt_F, ite_10, ite_11, ne_eq, and_self, or_self, decide_true, decide_false, Bool.not_true, Bool.not_false, Bool.false_eq_true, Nat.reduceEqDiff, Nat.reduceAdd, Int.reduceEq, Int.reduceLT, Int.reduceLE, Int.reduceNeg, Int.reduceAdd, Int.reduceSub, Int.reduceMul, reduceCtorEq, iA, iS, iM, iD, iR, iN, lA, lS, lM, lD, lR, m0, m1, m2, m3, m4, m51, m6, hI, hI0, et, hz, c32, neq, e1, e2]
            clear e1 e2
            refine ⟨n', hn', i + 1, ⟨g1, g2, g3⟩, g4, g5, ?_⟩
            rw [hs]; exact hno'
          · simp only [cX10_wordKind_1, bX10_wordKind_1, uX10_wordKind_1, wE_I, wE_V, wE_F, wE_A, wE_N, wE_1, wE_2, wE_D, wE_B, wE_If, wE_C, wE_CV, wE_SL, wE_SA, wA_0, wA_1, wC_B, wC_E, wC_And, wC_Or, wC_Not, wS_Skip, wS_Brk, wS_Cnt, wS_RetV, wS_Ret, wS_Seq, wS_Set, wS_Inc, wS_Do, wS_Put, wS_PutC, wS_Arr, wS_ArrC, wS_If, wS_Sw, wS_F0, wS_F1, wM_q, lu_ap, aL_ap, ct_0, ct_1, ct_2, ct_3, ct_4, ct_5, headD_1, List.mem_cons, List.not_mem_nil, or_false, false_or, or_true, true_or, true_and, and_true, false_and, and_false, not_true_eq_false, not_false_eq_true, if_true, if_false, nr_20, nr_24, nr_40, nr_41, nr_44, pt_lt, pt_ge, pt_eq, pt_ne, pt_gt, pt_le, pt_E, pt_N, pt_F, ite_10, ite_11, ne_eq, and_self, or_self, decide_true, decide_false, Bool.not_true, Bool.not_false, Bool.false_eq_true, Nat.reduceEqDiff, Nat.reduceAdd, Int.reduceEq, Int.reduceLT, Int.reduceLE, Int.reduceNeg, Int.reduceAdd, Int.reduceSub, Int.reduceMul, reduceCtorEq, iA, iS, iM, iD, iR, iN, lA, lS, lM, lD, lR, m0, m1, m2, m3, m4, m50, m6, hI, hI0, et, hz, c32, e1, e2]
            clear e1 e2
            refine ⟨n', hn', i + 1, ⟨g1, g2, g3⟩, g4, g5, ?_⟩
            rw [hs]; exact hno'
      · rw [if_neg c32] at f2 hs
        have hb10 : (wIR i).2 ≤ 10 := by
          have h10 : ∀ j : Nat, j < 18 → (wdN j).length ≤ 10 := by decide +kernel
          have := h10 _ f1
          omega
        have g1 : 256 + ((wIR i).1 : Int) = 256 + ((wIR (i + 1)).1 : Int) := by rw [hs]
        have g2 : p + ((wIR i).2 : Int) + 1 = p + ((wIR (i + 1)).2 : Int) := by rw [hs]; simp; omega
        have hno' : ∀ j : Nat, j < (wIR (i + 1)).1 → ¬ wmt (w (T + 1)) p q j := by rw [hs]; exact hno
        have sm1 : wSm (w (T + 1)) p q (i + 1) ↔ wSm (w (T + 1)) p q i ∧ p + ((wIR i).2 : Int) < q ∧ w (T + 1) (p + ((wIR i).2 : Int)) = z := by
          unfold wSm
          rw [hs]
          constructor
          · intro hh
            refine ⟨fun k hk => hh k (Nat.lt_succ_of_lt hk), ?_⟩
            have := hh (wIR i).2 (Nat.lt_succ_self _)
            rw [f2.2] at this
            exact this
          · rintro ⟨h1, h2⟩ k hk
            by_cases e : k = (wIR i).2
            · subst e; rw [f2.2]; exact h2
            · exact h1 k (by have : k < (wIR i).2 + 1 := hk; omega)
        have nk : k - 1 < k := by omega
        have ni : (i : Int) + 1 = ((i + 1 : Nat) : Int) := by omega
        have nj : i + 1 ≤ 111 ∧ k - 1 + (i + 1) = 111 := by omega
        have o4' : p + ((wIR i).2 : Int) < q → 0 ≤ p + ((wIR i).2 : Int) ∧ p + ((wIR i).2 : Int) < 1000 := fun z => by omega
        have e1 : w32 ((i : Int) + 1) = i + 1 := w32_e (by omega)
        have e3 : w32 (p + ((wIR i).2 : Int) + 1) = p + ((wIR i).2 : Int) + 1 := by clear e1; exact w32_e (by omega)
        rcases m5 with ⟨m51, hsm⟩ | ⟨m50, hsm⟩
        · by_cases cq : p + ((wIR i).2 : Int) < q
          · have o4 := o4' cq
            by_cases ce : w (T + 1) (p + ((wIR i).2 : Int)) = z
            · simp only [cX10_wordKind_1, bX10_wordKind_1, uX10_wordKind_1, wE_I, wE_V, wE_F, wE_A, wE_N, wE_1, wE_2, wE_D, wE_B, wE_If, wE_C, wE_CV, wE_SL, wE_SA, wA_0, wA_1, wC_B, wC_E, wC_And, wC_Or, wC_Not, wS_Skip, wS_Brk, wS_Cnt, wS_RetV, wS_Ret, wS_Seq, wS_Set, wS_Inc, wS_Do, wS_Put, wS_PutC, wS_Arr, wS_ArrC, wS_If, wS_Sw, wS_F0, wS_F1, wM_q, lu_ap, aL_ap, ct_0, ct_1, ct_2, ct_3, ct_4, ct_5, headD_1, List.mem_cons, List.not_mem_nil, or_false, false_or, or_true, true_or, true_and, and_true, false_and, and_false, not_true_eq_false, not_false_eq_true, if_true, if_false, nr_20, nr_24, nr_40, nr_41, nr_44, pt_lt, pt_ge, pt_eq, pt_ne, pt_gt, pt_le, pt_E, pt_N, pt_F, ite_10, ite_11, ne_eq, and_self, or_self, decide_true, decide_false, Bool.not_true, Bool.not_false, Bool.false_eq_true, Nat.reduceEqDiff, Nat.reduceAdd, Int.reduceEq, Int.reduceLT, Int.reduceLE, Int.reduceNeg, Int.reduceAdd, Int.reduceSub, Int.reduceMul, reduceCtorEq, iA, iS, iM, iD, iR, iN, lA, lS, lM, lD, lR, m0, m1, m2, m3, m4, m51, m6, hI, hI0, et, hz, c32, cq, h.k, h.p0, h.a1, h.n1, o4, ce, e1, e3]
              clear e1 e3
              exact ⟨k - 1, nk, i + 1, ⟨g1, g2, ni⟩, sm1.mpr ⟨hsm, cq, ce⟩, nj, hno'⟩
            · simp only [cX10_wordKind_1, bX10_wordKind_1, uX10_wordKind_1, wE_I, wE_V, wE_F, wE_A, wE_N, wE_1, wE_2, wE_D, wE_B, wE_If, wE_C, wE_CV, wE_SL, wE_SA, wA_0, wA_1, wC_B, wC_E, wC_And, wC_Or, wC_Not, wS_Skip, wS_Brk, wS_Cnt, wS_RetV, wS_Ret, wS_Seq, wS_Set, wS_Inc, wS_Do, wS_Put, wS_PutC, wS_Arr, wS_ArrC, wS_If, wS_Sw, wS_F0, wS_F1, wM_q, lu_ap, aL_ap, ct_0, ct_1, ct_2, ct_3, ct_4, ct_5, headD_1, List.mem_cons, List.not_mem_nil, or_false, false_or, or_true, true_or, true_and, and_true, false_and, and_false, not_true_eq_false, not_false_eq_true, if_true, if_false, nr_20, nr_24, nr_40, nr_41, nr_44, pt_lt, pt_ge, pt_eq, pt_ne, pt_gt, pt_le, pt_E, pt_N, pt_F, ite_10, ite_11, ne_eq, and_self, or_self, decide_true, decide_false, Bool.not_true, Bool.not_false, Bool.false_eq_true, Nat.reduceEqDiff, Nat.reduceAdd, Int.reduceEq, Int.reduceLT, Int.reduceLE, Int.reduceNeg, Int.reduceAdd, Int.reduceSub, Int.reduceMul, reduceCtorEq, iA, iS, iM, iD, iR, iN, lA, lS, lM, lD, lR, m0, m1, m2, m3, m4, m51, m6, hI, hI0, et, hz, c32, cq, h.k, h.p0, h.a1, h.n1, o4, ce, e1, e3]
              clear e1 e3
              exact ⟨k - 1, nk, i + 1, ⟨g1, g2, ni⟩, (fun z => ce (sm1.mp z).2.2), nj, hno'⟩
          · simp only [cX10_wordKind_1, bX10_wordKind_1, uX10_wordKind_1, wE_I, wE_V, wE_F, wE_A, wE_N, wE_1, wE_2, wE_D, wE_B, wE_If, wE_C, wE_CV, wE_SL, wE_SA, wA_0, wA_1, wC_B, wC_E, wC_And, wC_Or, wC_Not, wS_Skip, wS_Brk, wS_Cnt, wS_RetV, wS_Ret, wS_Seq, wS_Set, wS_Inc, wS_Do, wS_Put, wS_PutC, wS_Arr, wS_ArrC, wS_If, wS_Sw, wS_F0, wS_F1, wM_q, lu_ap, aL_ap, ct_0, ct_1, ct_2, ct_3, ct_4, ct_5, headD_1, List.mem_cons, List.not_mem_nil, or_false, false_or, or_true, true_or, true_and, and_true, false_and, and_false, not_true_eq_false, not_false_eq_true, if_true, if_false, nr_20, nr_24, nr_40, nr_41, nr_44, pt_lt, pt_ge, pt_eq, pt_ne, pt_gt, pt_le, pt_E, pt_N, pt_F, ite_10, ite_11, ne_eq, and_self, or_self, decide_true, decide_false, Bool.not_true, Bool.not_false, Bool.false_eq_true, Nat.reduceEqDiff, Nat.reduceAdd, Int.reduceEq, Int.reduceLT, Int.reduceLE, Int.reduceNeg, Int.reduceAdd, Int.reduceSub, Int.reduceMul, reduceCtorEq, iA, iS, iM, iD, iR, iN, lA, lS, lM, lD, lR, m0, m1, m2, m3, m4, m51, m6, hI, hI0, et, hz, c32, cq, e1, e3]
            clear e1 e3
            exact ⟨k - 1, nk, i + 1, ⟨g1, g2, ni⟩, (fun z => cq (sm1.mp z).2.1), nj, hno'⟩
        · simp only [cX10_wordKind_1, bX10_wordKind_1, uX10_wordKind_1, wE_I, wE_V, wE_F, wE_A, wE_N, wE_1, wE_2, wE_D, wE_B, wE_If, wE_C, wE_CV, wE_SL, wE_SA, wA_0, wA_1, wC_B, wC_E, wC_And, wC_Or, wC_Not, wS_Skip, wS_Brk, wS_Cnt, wS_RetV, wS_Ret, wS_Seq, wS_Set, wS_Inc, wS_Do, wS_Put, wS_PutC, wS_Arr, wS_ArrC, wS_If, wS_Sw, wS_F0, wS_F1, wM_q, lu_ap, aL_ap, ct_0, ct_1, ct_2, ct_3, ct_4, ct_5, headD_1, List.mem_cons, List.not_mem_nil, or_false, false_or, or_true, true_or, true_and, and_true, false_and, and_false, not_true_eq_false, not_false_eq_true, if_true, if_false, nr_20, nr_24, nr_40, nr_41, nr_44, pt_lt, pt_ge, pt_eq, pt_ne, pt_gt, pt_le, pt_E, pt_N, pt_F, ite_10, ite_11, ne_eq, and_self, or_self, decide_true, decide_false, Bool.not_true, Bool.not_false, Bool.false_eq_true, Nat.reduceEqDiff, Nat.reduceAdd, Int.reduceEq, Int.reduceLT, Int.reduceLE, Int.reduceNeg, Int.reduceAdd, Int.reduceSub, Int.reduceMul, reduceCtorEq, iA, iS, iM, iD, iR, iN, lA, lS, lM, lD, lR, m0, m1, m2, m3, m4, m50, m6, hI, hI0, et, hz, c32, e1, e3]
          clear e1 e3
          exact ⟨k - 1, nk, i + 1, ⟨g1, g2, ni⟩, (fun z => hsm (sm1.mp z).1), nj, hno'⟩
    · have hI : i = 111 := by omega
      subst hI
      have m6' : L 6 = 111 := m6
      simp only [cX10_wordKind_1, wE_I, wE_V, wE_F, wE_A, wE_N, wE_1, wE_2, wE_D, wE_B, wE_If, wE_C, wE_CV, wE_SL, wE_SA, wA_0, wA_1, wC_B, wC_E, wC_And, wC_Or, wC_Not, wS_Skip, wS_Brk, wS_Cnt, wS_RetV, wS_Ret, wS_Seq, wS_Set, wS_Inc, wS_Do, wS_Put, wS_PutC, wS_Arr, wS_ArrC, wS_If, wS_Sw, wS_F0, wS_F1, wM_q, lu_ap, aL_ap, ct_0, ct_1, ct_2, ct_3, ct_4, ct_5, headD_1, List.mem_cons, List.not_mem_nil, or_false, false_or, or_true, true_or, true_and, and_true, false_and, and_false, not_true_eq_false, not_false_eq_true, if_true, if_false, nr_20, nr_24, nr_40, nr_41, nr_44, pt_lt, pt_ge, pt_eq, pt_ne, pt_gt, pt_le, pt_E, pt_N, pt_F, ite_10, ite_11, ne_eq, and_self, or_self, decide_true, decide_false, Bool.not_true, Bool.not_false, Bool.false_eq_true, Nat.reduceEqDiff, Nat.reduceAdd, Int.reduceEq, Int.reduceLT, Int.reduceLE, Int.reduceNeg, Int.reduceAdd, Int.reduceSub, Int.reduceMul, reduceCtorEq, iA, iS, iM, iD, iR, iN, lA, lS, lM, lD, lR, m6']
      rw [wIR_e] at hno
      exact Or.inr hno
theorem q_kindOf (h : LTp S v T) {p q : Int} (hn : v T 1 ≤ 1000) (hp : 0 ≤ p ∧ p < q ∧ q ≤ v T 1) : wM mX10_kindOf [T, p, q] S v (fun r w => w = v ∧ isKd (v (T + 1)) p q r) := by
  have o1 : 0 ≤ p ∧ p < 1000 := by omega
  have hwk := q_wordKind h hn hp
  obtain ⟨x, hx⟩ : ∃ x, v (T + 1) p = x := ⟨_, rfl⟩
  by_cases cl : isLe x
  · have nd : ¬ isDg x := by omega
    simp only [mX10_kindOf, sX10_kindOf, wE_I, wE_V, wE_F, wE_A, wE_N, wE_1, wE_2, wE_D, wE_B, wE_If, wE_C, wE_CV, wE_SL, wE_SA, wA_0, wA_1, wC_B, wC_E, wC_And, wC_Or, wC_Not, wS_Skip, wS_Brk, wS_Cnt, wS_RetV, wS_Ret, wS_Seq, wS_Set, wS_Inc, wS_Do, wS_Put, wS_PutC, wS_Arr, wS_ArrC, wS_If, wS_Sw, wS_F0, wS_F1, wM_q, lu_ap, aL_ap, ct_0, ct_1, ct_2, ct_3, ct_4, ct_5, headD_1, List.mem_cons, List.not_mem_nil, or_false, false_or, or_true, true_or, true_and, and_true, false_and, and_false, not_true_eq_false, not_false_eq_true, if_true, if_false, nr_20, nr_24, nr_40, nr_41, nr_44, pt_lt, pt_ge, pt_eq, pt_ne, pt_gt, pt_le, pt_E, pt_N, pt_F, ite_10, ite_11, ne_eq, and_self, or_self, decide_true, decide_false, Bool.not_true, Bool.not_false, Bool.false_eq_true, Nat.reduceEqDiff, Nat.reduceAdd, Int.reduceEq, Int.reduceLT, Int.reduceLE, Int.reduceNeg, Int.reduceAdd, Int.reduceSub, Int.reduceMul, reduceCtorEq, iA, iS, iM, iD, iR, iN, lA, lS, lM, lD, lR, h.k, h.p0, h.a1, h.n1, o1, hx, wM_of (q_isLe1 cl)]
    refine wM_mono hwk ?_
    rintro r w e ⟨rfl, hk⟩
    refine ⟨rfl, ?_⟩
    unfold isKd
    rw [hx]
    exact ⟨fun _ => hk, fun z => absurd z nd, fun z => absurd cl z⟩
  · by_cases cd : isDg x
    · simp only [mX10_kindOf, sX10_kindOf, wE_I, wE_V, wE_F, wE_A, wE_N, wE_1, wE_2, wE_D, wE_B, wE_If, wE_C, wE_CV, wE_SL, wE_SA, wA_0, wA_1, wC_B, wC_E, wC_And, wC_Or, wC_Not, wS_Skip, wS_Brk, wS_Cnt, wS_RetV, wS_Ret, wS_Seq, wS_Set, wS_Inc, wS_Do, wS_Put, wS_PutC, wS_Arr, wS_ArrC, wS_If, wS_Sw, wS_F0, wS_F1, wM_q, lu_ap, aL_ap, ct_0, ct_1, ct_2, ct_3, ct_4, ct_5, headD_1, List.mem_cons, List.not_mem_nil, or_false, false_or, or_true, true_or, true_and, and_true, false_and, and_false, not_true_eq_false, not_false_eq_true, if_true, if_false, nr_20, nr_24, nr_40, nr_41, nr_44, pt_lt, pt_ge, pt_eq, pt_ne, pt_gt, pt_le, pt_E, pt_N, pt_F, ite_10, ite_11, ne_eq, and_self, or_self, decide_true, decide_false, Bool.not_true, Bool.not_false, Bool.false_eq_true, Nat.reduceEqDiff, Nat.reduceAdd, Int.reduceEq, Int.reduceLT, Int.reduceLE, Int.reduceNeg, Int.reduceAdd, Int.reduceSub, Int.reduceMul, reduceCtorEq, iA, iS, iM, iD, iR, iN, lA, lS, lM, lD, lR, h.k, h.p0, h.a1, h.n1, o1, hx, wM_of (q_isLe0 cl), wM_of (q_isDg1 cd)]
      unfold isKd
      rw [hx]
      exact ⟨fun z => absurd z cl, fun _ => rfl, fun _ z => absurd cd z⟩
    · have fin : ∀ y : Int, (isSg x → y = x) → (¬ isSg x → y = 2) → isKd (v (T + 1)) p q y := fun y h1 h2 => by
        unfold isKd
        rw [hx]
        exact ⟨fun z => absurd z cl, fun z => absurd z cd, fun _ _ => ⟨h1, h2⟩⟩
      by_cases cs : isSg x
      · have := fin x (fun _ => rfl) (fun z => absurd cs z)
        rcases cs with rfl | rfl | rfl | rfl | rfl | rfl | rfl | rfl <;>
          simp only [mX10_kindOf, sX10_kindOf, wE_I, wE_V, wE_F, wE_A, wE_N, wE_1, wE_2, wE_D, wE_B, wE_If, wE_C, wE_CV, wE_SL, wE_SA, wA_0, wA_1, wC_B, wC_E, wC_And, wC_Or, wC_Not, wS_Skip, wS_Brk, wS_Cnt, wS_RetV, wS_Ret, wS_Seq, wS_Set, wS_Inc, wS_Do, wS_Put, wS_PutC, wS_Arr, wS_ArrC, wS_If, wS_Sw, wS_F0, wS_F1, wM_q, lu_ap, aL_ap, ct_0, ct_1, ct_2, ct_3, ct_4, ct_5, headD_1, List.mem_cons, List.not_mem_nil, or_false, false_or, or_true, true_or, true_and, and_true, false_and, and_false, not_true_eq_false, not_false_eq_true, if_true, if_false, nr_20, nr_24, nr_40, nr_41, nr_44, pt_lt, pt_ge, pt_eq, pt_ne, pt_gt, pt_le, pt_E, pt_N, pt_F, ite_10, ite_11, ne_eq, and_self, or_self, decide_true, decide_false, Bool.not_true, Bool.not_false, Bool.false_eq_true, Nat.reduceEqDiff, Nat.reduceAdd, Int.reduceEq, Int.reduceLT, Int.reduceLE, Int.reduceNeg, Int.reduceAdd, Int.reduceSub, Int.reduceMul, reduceCtorEq, iA, iS, iM, iD, iR, iN, lA, lS, lM, lD, lR, h.k, h.p0, h.a1, h.n1, o1, hx, wM_of (q_isLe0 cl), wM_of (q_isDg0 cd)] <;> exact this
      · have := fin 2 (fun z => absurd z cs) (fun _ => rfl)
        have c1 : ¬ x = 59 := fun e => cs (by omega)
        have c2 : ¬ x = 61 := fun e => cs (by omega)
        have c3 : ¬ x = 40 := fun e => cs (by omega)
        have c4 : ¬ x = 41 := fun e => cs (by omega)
        have c5 : ¬ x = 43 := fun e => cs (by omega)
        have c6 : ¬ x = 45 := fun e => cs (by omega)
        have c7 : ¬ x = 42 := fun e => cs (by omega)
        have c8 : ¬ x = 47 := fun e => cs (by omega)
        simp only [mX10_kindOf, sX10_kindOf, wE_I, wE_V, wE_F, wE_A, wE_N, wE_1, wE_2, wE_D, wE_B, wE_If, wE_C, wE_CV, wE_SL, wE_SA, wA_0, wA_1, wC_B, wC_E, wC_And, wC_Or, wC_Not, wS_Skip, wS_Brk, wS_Cnt, wS_RetV, wS_Ret, wS_Seq, wS_Set, wS_Inc, wS_Do, wS_Put, wS_PutC, wS_Arr, wS_ArrC, wS_If, wS_Sw, wS_F0, wS_F1, wM_q, lu_ap, aL_ap, ct_0, ct_1, ct_2, ct_3, ct_4, ct_5, headD_1, List.mem_cons, List.not_mem_nil, or_false, false_or, or_true, true_or, true_and, and_true, false_and, and_false, not_true_eq_false, not_false_eq_true, if_true, if_false, nr_20, nr_24, nr_40, nr_41, nr_44, pt_lt, pt_ge, pt_eq, pt_ne, pt_gt, pt_le, pt_E, pt_N, pt_F, ite_10, ite_11, ne_eq, and_self, or_self, decide_true, decide_false, Bool.not_true, Bool.not_false, Bool.false_eq_true, Nat.reduceEqDiff, Nat.reduceAdd, Int.reduceEq, Int.reduceLT, Int.reduceLE, Int.reduceNeg, Int.reduceAdd, Int.reduceSub, Int.reduceMul, reduceCtorEq, iA, iS, iM, iD, iR, iN, lA, lS, lM, lD, lR, h.k, h.p0, h.a1, h.n1, o1, hx, wM_of (q_isLe0 cl), wM_of (q_isDg0 cd), c1, c2, c3, c4, c5, c6, c7, c8]
        exact this
end WK
