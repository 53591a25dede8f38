/-! STORE: a formula: signs that wait, codes laid -/
def rkS (s : Int) : Int := if s = 42 ∨ s = 47 then 3 else if s = 43 ∨ s = 45 then 2 else if s = 273 then 1 else 0
def cvS (s : Int) : Int := if s = 273 then 10020 else if s = 43 then 10021 else if s = 45 then 10022 else if s = 42 then 10023 else if s = 47 then 10024 else 10025
def isOp (s : Int) : Prop := s = 42 ∨ s = 47 ∨ s = 43 ∨ s = 45 ∨ s = 273
theorem rkS_p {s : Int} : 0 < rkS s ↔ isOp s := by
  unfold rkS isOp
  split
  · rename_i a
    exact ⟨fun _ => by omega, fun _ => by decide⟩
  · split
    · rename_i a b
      exact ⟨fun _ => by omega, fun _ => by decide⟩
    · split
      · rename_i a b c
        exact ⟨fun _ => by omega, fun _ => by decide⟩
      · rename_i a b c
        exact ⟨fun z => by omega, fun z => by omega⟩
/-- signs that bind as closely are laid -/
def fRl (r : Int) : List Int → (Int → Int) → Int → List Int × (Int → Int) × Int
  | [], c, l => ([], c, l)
  | s :: st, c, l => if r ≤ rkS s then fRl r st (fu c l (cvS s)) (l + 1) else (s :: st, c, l)
/-- the class's formulas and waiting signs -/
def FRp (S : QS) (w : QV) (x F : Int) (st : List Int) (c : Int → Int) (l : Int) : Prop := LFo S w F ∧ w F 2 = l ∧ (∀ k, 0 ≤ k → k < l → crel (w (F + 1) k) (w (F + 2) k) (c k)) ∧ w x 9 = st.length ∧ ∀ k : Nat, k < st.length → w (x + 3) ((st.length : Int) - 1 - k) = st.getD k 0
theorem crel_op {s : Int} (h : isOp s) : crel s 0 (cvS s) := by
  unfold isOp at h
  unfold crel
  rcases h with rfl | rfl | rfl | rfl | rfl <;> simp [cvS]
section FO2
variable {S : QS} {v w u : QV} {M T n x P F : Int}
theorem q_put {a b l : Int} (h : LFo S w F) (hl : w F 2 = l) (hb : 0 ≤ l ∧ l < 60) : mX1_put [F, a, b] S w = some (0, vu (vu (vu w (F + 1) l a) (F + 2) l b) F 2 (l + 1)) := by
  have n1 : ¬ F = F + 1 := by omega
  have n2 : ¬ F = F + 2 := by omega
  have lt : l < 60 := hb.2
  have e1 : w32 (l + 1) = l + 1 := w32_e (by omega)
  apply wM_eq
  simp only [mX1_put, sX1_put, wE_I, wE_V, wE_F, wE_A, wE_N, wE_1, wE_2, wE_D, wE_B, wE_If, wE_C, wE_CV, wE_SL, wE_SA, wA_0, wA_1, wC_B, wC_E, wC_And, wC_Or, wC_Not, wS_Skip, wS_Brk, wS_Cnt, wS_RetV, wS_Ret, wS_Seq, wS_Set, wS_Inc, wS_Do, wS_Put, wS_PutC, wS_Arr, wS_ArrC, wS_If, wS_Sw, wS_F0, wS_F1, wM_q, lu_ap, aL_ap, ct_0, ct_1, ct_2, ct_3, ct_4, ct_5, headD_1, List.mem_cons, List.not_mem_nil, or_false, false_or, or_true, true_or, true_and, and_true, false_and, and_false, not_true_eq_false, not_false_eq_true, if_true, if_false, nr_20, nr_24, nr_40, nr_41, nr_44, pt_lt, pt_ge, pt_eq, pt_ne, pt_gt, pt_le, pt_E, pt_N, pt_F, ite_10, ite_11, ne_eq, and_self, or_self, decide_true, decide_false, Bool.not_true, Bool.not_false, Bool.false_eq_true, Nat.reduceEqDiff, Nat.reduceAdd, Int.reduceEq, Int.reduceLT, Int.reduceLE, Int.reduceNeg, Int.reduceAdd, Int.reduceSub, Int.reduceMul, reduceCtorEq, iA, iS, iM, iD, iR, iN, lA, lS, lM, lD, lR, h.k, hl, h.p3, h.p4, h.a1, h.n1, h.a2, h.n2, hb, lt, Nat.le_refl, vu_ne, n1, n2, e1]
theorem FRp.put {st : List Int} {c : Int → Int} {l a b z : Int} (h : FRp S w x F st c l) (hx : x + 3 < F) (hl : 0 ≤ l) (hz : crel a b z) : FRp S (vu (vu (vu w (F + 1) l a) (F + 2) l b) F 2 (l + 1)) x F st (fu c l z) (l + 1) := by
  obtain ⟨h1, h2, h3, h4, h5⟩ := h
  have k1 : Kp S w (vu (vu (vu w (F + 1) l a) (F + 2) l b) F 2 (l + 1)) := ((Kp.rf.vuc (by rw [h1.a1]; rfl)).vuc (by rw [h1.a2]; rfl)).vuc (by rw [h1.k]; rfl)
  refine ⟨h1.keep k1, vu_is, fun k k0 k1 => ?_, by rw [vu_ne (by omega), vu_ne (by omega), vu_ne (by omega)]; exact h4, fun k hk => by rw [vu_ne (by omega), vu_ne (by omega), vu_ne (by omega)]; exact h5 k hk⟩
  rw [fu_ap]
  by_cases e : k = l
  · subst e
    rw [if_pos rfl, vu_ne (by omega), vu_ne (by omega), vu_is, vu_ne (by omega), vu_is]
    exact hz
  · rw [if_neg e, vu_ne (by omega), vu_ne (by omega), vu_ne (by omega), vu_ne (by omega), vu_ne (by omega), vu_ne (by omega)]
    exact h3 k k0 (by omega)
theorem q_await {s : Int} {st : List Int} {c : Int → Int} {l : Int} (hx : LPs S w x) (h : FRp S w x F st c l) (hF : x + 3 < F) (hb : st.length < 60) : mX5_await [x, s] S w = some (0, vu (vu w (x + 3) st.length s) x 9 (st.length + 1)) ∧ FRp S (vu (vu w (x + 3) st.length s) x 9 (st.length + 1)) x F (s :: st) c l := by
  obtain ⟨h1, h2, h3, h4, h5⟩ := h
  refine ⟨?_, ?_⟩
  · have n1 : ¬ x = x + 3 := by omega
    have lt : (st.length : Int) < 60 := by omega
    have o1 : 0 ≤ (st.length : Int) ∧ (st.length : Int) < 60 := by omega
    have e1 : w32 ((st.length : Int) + 1) = st.length + 1 := w32_e (by omega)
    apply wM_eq
    simp only [mX5_await, sX5_await, wE_I, wE_V, wE_F, wE_A, wE_N, wE_1, wE_2, wE_D, wE_B, wE_If, wE_C, wE_CV, wE_SL, wE_SA, wA_0, wA_1, wC_B, wC_E, wC_And, wC_Or, wC_Not, wS_Skip, wS_Brk, wS_Cnt, wS_RetV, wS_Ret, wS_Seq, wS_Set, wS_Inc, wS_Do, wS_Put, wS_PutC, wS_Arr, wS_ArrC, wS_If, wS_Sw, wS_F0, wS_F1, wM_q, lu_ap, aL_ap, ct_0, ct_1, ct_2, ct_3, ct_4, ct_5, headD_1, List.mem_cons, List.not_mem_nil, or_false, false_or, or_true, true_or, true_and, and_true, false_and, and_false, not_true_eq_false, not_false_eq_true, if_true, if_false, nr_20, nr_24, nr_40, nr_41, nr_44, pt_lt, pt_ge, pt_eq, pt_ne, pt_gt, pt_le, pt_E, pt_N, pt_F, ite_10, ite_11, ne_eq, and_self, or_self, decide_true, decide_false, Bool.not_true, Bool.not_false, Bool.false_eq_true, Nat.reduceEqDiff, Nat.reduceAdd, Int.reduceEq, Int.reduceLT, Int.reduceLE, Int.reduceNeg, Int.reduceAdd, Int.reduceSub, Int.reduceMul, reduceCtorEq, iA, iS, iM, iD, iR, iN, lA, lS, lM, lD, lR, hx.k, h4, hx.p8, hx.a3, hx.n3, o1, lt, Nat.le_refl, vu_ne, n1, e1]
  · have k1 : Kp S w (vu (vu w (x + 3) st.length s) x 9 (st.length + 1)) := (Kp.rf.vuc (by rw [hx.a3]; rfl)).vuc (by rw [hx.k]; rfl)
    refine ⟨h1.keep k1, by rw [vu_ne (by omega), vu_ne (by omega)]; exact h2, fun k k0 k1 => by rw [vu_ne (by omega), vu_ne (by omega), vu_ne (by omega), vu_ne (by omega)]; exact h3 k k0 k1, ?_, fun k hk => ?_⟩
    · rw [vu_is]
      simp only [List.length_cons]
      omega
    · rw [vu_ne (by omega)]
      simp only [List.length_cons] at hk ⊢
      by_cases e : k = 0
      · subst e
        rw [show ((st.length + 1 : Nat) : Int) - 1 - ((0 : Nat) : Int) = st.length by omega, vu_is]
        rfl
      · obtain ⟨k', rfl⟩ : ∃ k', k = k' + 1 := ⟨k - 1, by omega⟩
        rw [vu_ne (by omega), show ((st.length + 1 : Nat) : Int) - 1 - ((k' + 1 : Nat) : Int) = (st.length : Int) - 1 - k' by omega]
        exact h5 k' (by omega)
theorem q_rank {s : Int} : mX5_rank [s] S w = some (rkS s, w) := by
  apply wM_eq
  unfold rkS
  by_cases c1 : s = 42
  · simp only [mX5_rank, sX5_rank, wE_I, wE_V, wE_F, wE_A, wE_N, wE_1, wE_2, wE_D, wE_B, wE_If, wE_C, wE_CV, wE_SL, wE_SA, wA_0, wA_1, wC_B, wC_E, wC_And, wC_Or, wC_Not, wS_Skip, wS_Brk, wS_Cnt, wS_RetV, wS_Ret, wS_Seq, wS_Set, wS_Inc, wS_Do, wS_Put, wS_PutC, wS_Arr, wS_ArrC, wS_If, wS_Sw, wS_F0, wS_F1, wM_q, lu_ap, aL_ap, ct_0, ct_1, ct_2, ct_3, ct_4, ct_5, headD_1, List.mem_cons, List.not_mem_nil, or_false, false_or, or_true, true_or, true_and, and_true, false_and, and_false, not_true_eq_false, not_false_eq_true, if_true, if_false, nr_20, nr_24, nr_40, nr_41, nr_44, pt_lt, pt_ge, pt_eq, pt_ne, pt_gt, pt_le, pt_E, pt_N, pt_F, ite_10, ite_11, ne_eq, and_self, or_self, decide_true, decide_false, Bool.not_true, Bool.not_false, Bool.false_eq_true, Nat.reduceEqDiff, Nat.reduceAdd, Int.reduceEq, Int.reduceLT, Int.reduceLE, Int.reduceNeg, Int.reduceAdd, Int.reduceSub, Int.reduceMul, reduceCtorEq, iA, iS, iM, iD, iR, iN, lA, lS, lM, lD, lR, c1]
  · by_cases c2 : s = 47
    · simp only [mX5_rank, sX5_rank, wE_I, wE_V, wE_F, wE_A, wE_N, wE_1, wE_2, wE_D, wE_B, wE_If, wE_C, wE_CV, wE_SL, wE_SA, wA_0, wA_1, wC_B, wC_E, wC_And, wC_Or, wC_Not, wS_Skip, wS_Brk, wS_Cnt, wS_RetV, wS_Ret, wS_Seq, wS_Set, wS_Inc, wS_Do, wS_Put, wS_PutC, wS_Arr, wS_ArrC, wS_If, wS_Sw, wS_F0, wS_F1, wM_q, lu_ap, aL_ap, ct_0, ct_1, ct_2, ct_3, ct_4, ct_5, headD_1, List.mem_cons, List.not_mem_nil, or_false, false_or, or_true, true_or, true_and, and_true, false_and, and_false, not_true_eq_false, not_false_eq_true, if_true, if_false, nr_20, nr_24, nr_40, nr_41, nr_44, pt_lt, pt_ge, pt_eq, pt_ne, pt_gt, pt_le, pt_E, pt_N, pt_F, ite_10, ite_11, ne_eq, and_self, or_self, decide_true, decide_false, Bool.not_true, Bool.not_false, Bool.false_eq_true, Nat.reduceEqDiff, Nat.reduceAdd, Int.reduceEq, Int.reduceLT, Int.reduceLE, Int.reduceNeg, Int.reduceAdd, Int.reduceSub, Int.reduceMul, reduceCtorEq, iA, iS, iM, iD, iR, iN, lA, lS, lM, lD, lR, c2]
    · by_cases c3 : s = 43
      · simp only [mX5_rank, sX5_rank, wE_I, wE_V, wE_F, wE_A, wE_N, wE_1, wE_2, wE_D, wE_B, wE_If, wE_C, wE_CV, wE_SL, wE_SA, wA_0, wA_1, wC_B, wC_E, wC_And, wC_Or, wC_Not, wS_Skip, wS_Brk, wS_Cnt, wS_RetV, wS_Ret, wS_Seq, wS_Set, wS_Inc, wS_Do, wS_Put, wS_PutC, wS_Arr, wS_ArrC, wS_If, wS_Sw, wS_F0, wS_F1, wM_q, lu_ap, aL_ap, ct_0, ct_1, ct_2, ct_3, ct_4, ct_5, headD_1, List.mem_cons, List.not_mem_nil, or_false, false_or, or_true, true_or, true_and, and_true, false_and, and_false, not_true_eq_false, not_false_eq_true, if_true, if_false, nr_20, nr_24, nr_40, nr_41, nr_44, pt_lt, pt_ge, pt_eq, pt_ne, pt_gt, pt_le, pt_E, pt_N, pt_F, ite_10, ite_11, ne_eq, and_self, or_self, decide_true, decide_false, Bool.not_true, Bool.not_false, Bool.false_eq_true, Nat.reduceEqDiff, Nat.reduceAdd, Int.reduceEq, Int.reduceLT, Int.reduceLE, Int.reduceNeg, Int.reduceAdd, Int.reduceSub, Int.reduceMul, reduceCtorEq, iA, iS, iM, iD, iR, iN, lA, lS, lM, lD, lR, c3]
      · by_cases c4 : s = 45
        · simp only [mX5_rank, sX5_rank, wE_I, wE_V, wE_F, wE_A, wE_N, wE_1, wE_2, wE_D, wE_B, wE_If, wE_C, wE_CV, wE_SL, wE_SA, wA_0, wA_1, wC_B, wC_E, wC_And, wC_Or, wC_Not, wS_Skip, wS_Brk, wS_Cnt, wS_RetV, wS_Ret, wS_Seq, wS_Set, wS_Inc, wS_Do, wS_Put, wS_PutC, wS_Arr, wS_ArrC, wS_If, wS_Sw, wS_F0, wS_F1, wM_q, lu_ap, aL_ap, ct_0, ct_1, ct_2, ct_3, ct_4, ct_5, headD_1, List.mem_cons, List.not_mem_nil, or_false, false_or, or_true, true_or, true_and, and_true, false_and, and_false, not_true_eq_false, not_false_eq_true, if_true, if_false, nr_20, nr_24, nr_40, nr_41, nr_44, pt_lt, pt_ge, pt_eq, pt_ne, pt_gt, pt_le, pt_E, pt_N, pt_F, ite_10, ite_11, ne_eq, and_self, or_self, decide_true, decide_false, Bool.not_true, Bool.not_false, Bool.false_eq_true, Nat.reduceEqDiff, Nat.reduceAdd, Int.reduceEq, Int.reduceLT, Int.reduceLE, Int.reduceNeg, Int.reduceAdd, Int.reduceSub, Int.reduceMul, reduceCtorEq, iA, iS, iM, iD, iR, iN, lA, lS, lM, lD, lR, c4]
        · by_cases c5 : s = 273
          · simp only [mX5_rank, sX5_rank, wE_I, wE_V, wE_F, wE_A, wE_N, wE_1, wE_2, wE_D, wE_B, wE_If, wE_C, wE_CV, wE_SL, wE_SA, wA_0, wA_1, wC_B, wC_E, wC_And, wC_Or, wC_Not, wS_Skip, wS_Brk, wS_Cnt, wS_RetV, wS_Ret, wS_Seq, wS_Set, wS_Inc, wS_Do, wS_Put, wS_PutC, wS_Arr, wS_ArrC, wS_If, wS_Sw, wS_F0, wS_F1, wM_q, lu_ap, aL_ap, ct_0, ct_1, ct_2, ct_3, ct_4, ct_5, headD_1, List.mem_cons, List.not_mem_nil, or_false, false_or, or_true, true_or, true_and, and_true, false_and, and_false, not_true_eq_false, not_false_eq_true, if_true, if_false, nr_20, nr_24, nr_40, nr_41, nr_44, pt_lt, pt_ge, pt_eq, pt_ne, pt_gt, pt_le, pt_E, pt_N, pt_F, ite_10, ite_11, ne_eq, and_self, or_self, decide_true, decide_false, Bool.not_true, Bool.not_false, Bool.false_eq_true, Nat.reduceEqDiff, Nat.reduceAdd, Int.reduceEq, Int.reduceLT, Int.reduceLE, Int.reduceNeg, Int.reduceAdd, Int.reduceSub, Int.reduceMul, reduceCtorEq, iA, iS, iM, iD, iR, iN, lA, lS, lM, lD, lR, c5]
          · simp only [mX5_rank, sX5_rank, wE_I, wE_V, wE_F, wE_A, wE_N, wE_1, wE_2, wE_D, wE_B, wE_If, wE_C, wE_CV, wE_SL, wE_SA, wA_0, wA_1, wC_B, wC_E, wC_And, wC_Or, wC_Not, wS_Skip, wS_Brk, wS_Cnt, wS_RetV, wS_Ret, wS_Seq, wS_Set, wS_Inc, wS_Do, wS_Put, wS_PutC, wS_Arr, wS_ArrC, wS_If, wS_Sw, wS_F0, wS_F1, wM_q, lu_ap, aL_ap, ct_0, ct_1, ct_2, ct_3, ct_4, ct_5, headD_1, List.mem_cons, List.not_mem_nil, or_false, false_or, or_true, true_or, true_and, and_true, false_and, and_false, not_true_eq_false, not_false_eq_true, if_true, if_false, nr_20, nr_24, nr_40, nr_41, nr_44, pt_lt, pt_ge, pt_eq, pt_ne, pt_gt, pt_le, pt_E, pt_N, pt_F, ite_10, ite_11, ne_eq, and_self, or_self, decide_true, decide_false, Bool.not_true, Bool.not_false, Bool.false_eq_true, Nat.reduceEqDiff, Nat.reduceAdd, Int.reduceEq, Int.reduceLT, Int.reduceLE, Int.reduceNeg, Int.reduceAdd, Int.reduceSub, Int.reduceMul, reduceCtorEq, iA, iS, iM, iD, iR, iN, lA, lS, lM, lD, lR, c1, c2, c3, c4, c5]
end FO2
