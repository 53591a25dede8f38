/-! STORE: signs laid, the reference's -/
theorem cv_rk {s : Int} (h : isOp s ∨ s = 40) : (isOp s → ¬ cvS s = 10025) ∧ (s = 40 → cvS s = 10025) := by
  unfold isOp at *
  refine ⟨fun z => ?_, fun z => by rw [z]; rfl⟩
  rcases z with rfl | rfl | rfl | rfl | rfl <;> decide
theorem m_bb {S : QS} {w : QV} {z : Int} : mX12_bindsBy [z] S w = some (if z = 10025 then 0 else if z = 10020 then 1 else if z = 10021 ∨ z = 10022 then 2 else 3, w) := by
  apply wM_eq
  by_cases c1 : z = 10025
  · simp only [mX12_bindsBy, sX12_bindsBy, wE_I, wE_V, wE_F, wE_A, wE_N, wE_1, wE_2, wE_D, wE_B, wE_If, wE_C, wE_CV, wE_SL, wE_SA, wA_0, wA_1, wC_B, wC_E, wC_And, wC_Or, wC_Not, wS_Skip, wS_Brk, wS_Cnt, wS_RetV, wS_Ret, wS_Seq, wS_Set, wS_Inc, wS_Do, wS_Put, wS_PutC, wS_Arr, wS_ArrC, wS_If, wS_Sw, wS_F0, wS_F1, wM_q, lu_ap, aL_ap, ct_0, ct_1, ct_2, ct_3, ct_4, ct_5, headD_1, List.mem_cons, List.not_mem_nil, or_false, false_or, or_true, true_or, true_and, and_true, false_and, and_false, not_true_eq_false, not_false_eq_true, if_true, if_false, nr_20, nr_24, nr_40, nr_41, nr_44, pt_lt, pt_ge, pt_eq, pt_ne, pt_gt, pt_le, pt_E, pt_N, pt_F, ite_10, ite_11, ne_eq, and_self, or_self, decide_true, decide_false, Bool.not_true, Bool.not_false, Bool.false_eq_true, Nat.reduceEqDiff, Nat.reduceAdd, Int.reduceEq, Int.reduceLT, Int.reduceLE, Int.reduceNeg, Int.reduceAdd, Int.reduceSub, Int.reduceMul, reduceCtorEq, iA, iS, iM, iD, iR, iN, lA, lS, lM, lD, lR, c1]
  · by_cases c2 : z = 10020
    · simp only [mX12_bindsBy, sX12_bindsBy, wE_I, wE_V, wE_F, wE_A, wE_N, wE_1, wE_2, wE_D, wE_B, wE_If, wE_C, wE_CV, wE_SL, wE_SA, wA_0, wA_1, wC_B, wC_E, wC_And, wC_Or, wC_Not, wS_Skip, wS_Brk, wS_Cnt, wS_RetV, wS_Ret, wS_Seq, wS_Set, wS_Inc, wS_Do, wS_Put, wS_PutC, wS_Arr, wS_ArrC, wS_If, wS_Sw, wS_F0, wS_F1, wM_q, lu_ap, aL_ap, ct_0, ct_1, ct_2, ct_3, ct_4, ct_5, headD_1, List.mem_cons, List.not_mem_nil, or_false, false_or, or_true, true_or, true_and, and_true, false_and, and_false, not_true_eq_false, not_false_eq_true, if_true, if_false, nr_20, nr_24, nr_40, nr_41, nr_44, pt_lt, pt_ge, pt_eq, pt_ne, pt_gt, pt_le, pt_E, pt_N, pt_F, ite_10, ite_11, ne_eq, and_self, or_self, decide_true, decide_false, Bool.not_true, Bool.not_false, Bool.false_eq_true, Nat.reduceEqDiff, Nat.reduceAdd, Int.reduceEq, Int.reduceLT, Int.reduceLE, Int.reduceNeg, Int.reduceAdd, Int.reduceSub, Int.reduceMul, reduceCtorEq, iA, iS, iM, iD, iR, iN, lA, lS, lM, lD, lR, c1, c2]
    · by_cases c3 : z = 10021
      · simp only [mX12_bindsBy, sX12_bindsBy, wE_I, wE_V, wE_F, wE_A, wE_N, wE_1, wE_2, wE_D, wE_B, wE_If, wE_C, wE_CV, wE_SL, wE_SA, wA_0, wA_1, wC_B, wC_E, wC_And, wC_Or, wC_Not, wS_Skip, wS_Brk, wS_Cnt, wS_RetV, wS_Ret, wS_Seq, wS_Set, wS_Inc, wS_Do, wS_Put, wS_PutC, wS_Arr, wS_ArrC, wS_If, wS_Sw, wS_F0, wS_F1, wM_q, lu_ap, aL_ap, ct_0, ct_1, ct_2, ct_3, ct_4, ct_5, headD_1, List.mem_cons, List.not_mem_nil, or_false, false_or, or_true, true_or, true_and, and_true, false_and, and_false, not_true_eq_false, not_false_eq_true, if_true, if_false, nr_20, nr_24, nr_40, nr_41, nr_44, pt_lt, pt_ge, pt_eq, pt_ne, pt_gt, pt_le, pt_E, pt_N, pt_F, ite_10, ite_11, ne_eq, and_self, or_self, decide_true, decide_false, Bool.not_true, Bool.not_false, Bool.false_eq_true, Nat.reduceEqDiff, Nat.reduceAdd, Int.reduceEq, Int.reduceLT, Int.reduceLE, Int.reduceNeg, Int.reduceAdd, Int.reduceSub, Int.reduceMul, reduceCtorEq, iA, iS, iM, iD, iR, iN, lA, lS, lM, lD, lR, c1, c2, c3]
      · by_cases c4 : z = 10022
        · simp only [mX12_bindsBy, sX12_bindsBy, wE_I, wE_V, wE_F, wE_A, wE_N, wE_1, wE_2, wE_D, wE_B, wE_If, wE_C, wE_CV, wE_SL, wE_SA, wA_0, wA_1, wC_B, wC_E, wC_And, wC_Or, wC_Not, wS_Skip, wS_Brk, wS_Cnt, wS_RetV, wS_Ret, wS_Seq, wS_Set, wS_Inc, wS_Do, wS_Put, wS_PutC, wS_Arr, wS_ArrC, wS_If, wS_Sw, wS_F0, wS_F1, wM_q, lu_ap, aL_ap, ct_0, ct_1, ct_2, ct_3, ct_4, ct_5, headD_1, List.mem_cons, List.not_mem_nil, or_false, false_or, or_true, true_or, true_and, and_true, false_and, and_false, not_true_eq_false, not_false_eq_true, if_true, if_false, nr_20, nr_24, nr_40, nr_41, nr_44, pt_lt, pt_ge, pt_eq, pt_ne, pt_gt, pt_le, pt_E, pt_N, pt_F, ite_10, ite_11, ne_eq, and_self, or_self, decide_true, decide_false, Bool.not_true, Bool.not_false, Bool.false_eq_true, Nat.reduceEqDiff, Nat.reduceAdd, Int.reduceEq, Int.reduceLT, Int.reduceLE, Int.reduceNeg, Int.reduceAdd, Int.reduceSub, Int.reduceMul, reduceCtorEq, iA, iS, iM, iD, iR, iN, lA, lS, lM, lD, lR, c1, c2, c3, c4]
        · simp only [mX12_bindsBy, sX12_bindsBy, wE_I, wE_V, wE_F, wE_A, wE_N, wE_1, wE_2, wE_D, wE_B, wE_If, wE_C, wE_CV, wE_SL, wE_SA, wA_0, wA_1, wC_B, wC_E, wC_And, wC_Or, wC_Not, wS_Skip, wS_Brk, wS_Cnt, wS_RetV, wS_Ret, wS_Seq, wS_Set, wS_Inc, wS_Do, wS_Put, wS_PutC, wS_Arr, wS_ArrC, wS_If, wS_Sw, wS_F0, wS_F1, wM_q, lu_ap, aL_ap, ct_0, ct_1, ct_2, ct_3, ct_4, ct_5, headD_1, List.mem_cons, List.not_mem_nil, or_false, false_or, or_true, true_or, true_and, and_true, false_and, and_false, not_true_eq_false, not_false_eq_true, if_true, if_false, nr_20, nr_24, nr_40, nr_41, nr_44, pt_lt, pt_ge, pt_eq, pt_ne, pt_gt, pt_le, pt_E, pt_N, pt_F, ite_10, ite_11, ne_eq, and_self, or_self, decide_true, decide_false, Bool.not_true, Bool.not_false, Bool.false_eq_true, Nat.reduceEqDiff, Nat.reduceAdd, Int.reduceEq, Int.reduceLT, Int.reduceLE, Int.reduceNeg, Int.reduceAdd, Int.reduceSub, Int.reduceMul, reduceCtorEq, iA, iS, iM, iD, iR, iN, lA, lS, lM, lD, lR, c1, c2, c3, c4]
theorem m_bindsBy {S : QS} {w : QV} {s : Int} (h : isOp s ∨ s = 40) : mX12_bindsBy [cvS s] S w = some (rkS s, w) := by
  rw [m_bb]
  unfold isOp at h
  rcases h with (rfl | rfl | rfl | rfl | rfl) | rfl <;> rfl
section LY
variable {S : QS} {v w u : QV} {M T n x P F B : Int}
theorem meG.f {l0 : Int} {w' : QV} (h : meG M B l0 u w) (hf : meG M B l0 w w') : meG M B l0 u w' := fun a k h1 h2 h3 h4 => (hf a k h1 h2 h3 h4).trans (h a k h1 h2 h3 h4)
theorem meG.rf {l0 : Int} : meG M B l0 u u := fun _ _ _ _ _ _ => rfl
theorem m_lay {z l : Int} (h : LMo S w M) (hB : B = 0 ∨ B = 1) (hl : w (M + 7) B = l) (hb : 0 ≤ l ∧ l < 100) : mX12_lay [M, B, z] S w = some (0, vu (vu w (M + 24) (100 * B + l) z) (M + 7) B (l + 1)) := by
  have oB : 0 ≤ B ∧ B < 2 := by omega
  have o2 : 0 ≤ 100 * B + l ∧ 100 * B + l < 200 := by omega
  have n1 : ¬ M = M + 24 := by omega
  have n2 : ¬ M + 7 = M + 24 := by omega
  have e1 : w32 (100 * B) = 100 * B := w32_e (by omega)
  have e2 : w32 (100 * B + l) = 100 * B + l := by clear e1; exact w32_e (by omega)
  have e3 : w32 (l + 1) = l + 1 := by clear e1 e2; exact w32_e (by omega)
  apply wM_eq
  simp only [mX12_lay, sX12_lay, wE_I, wE_V, wE_F, wE_A, wE_N, wE_1, wE_2, wE_D, wE_B, wE_If, wE_C, wE_CV, wE_SL, wE_SA, wA_0, wA_1, wC_B, wC_E, wC_And, wC_Or, wC_Not, wS_Skip, wS_Brk, wS_Cnt, wS_RetV, wS_Ret, wS_Seq, wS_Set, wS_Inc, wS_Do, wS_Put, wS_PutC, wS_Arr, wS_ArrC, wS_If, wS_Sw, wS_F0, wS_F1, wM_q, lu_ap, aL_ap, ct_0, ct_1, ct_2, ct_3, ct_4, ct_5, headD_1, List.mem_cons, List.not_mem_nil, or_false, false_or, or_true, true_or, true_and, and_true, false_and, and_false, not_true_eq_false, not_false_eq_true, if_true, if_false, nr_20, nr_24, nr_40, nr_41, nr_44, pt_lt, pt_ge, pt_eq, pt_ne, pt_gt, pt_le, pt_E, pt_N, pt_F, ite_10, ite_11, ne_eq, and_self, or_self, decide_true, decide_false, Bool.not_true, Bool.not_false, Bool.false_eq_true, Nat.reduceEqDiff, Nat.reduceAdd, Int.reduceEq, Int.reduceLT, Int.reduceLE, Int.reduceNeg, Int.reduceAdd, Int.reduceSub, Int.reduceMul, reduceCtorEq, iA, iS, iM, iD, iR, iN, lA, lS, lM, lD, lR, h.k, h.p23, h.a24, h.n24, h.p6, h.a7, h.n7, oB, hl, e1, e2, o2, vu_ne, n1, n2, e3]
theorem MRp.lay {st : List Int} {c : Int → Int} {l z : Int} (h : MRp w M B st c l) (hl : 0 ≤ l) : MRp (vu (vu w (M + 24) (100 * B + l) z) (M + 7) B (l + 1)) M B st (fu c l z) (l + 1) := by
  obtain ⟨h1, h2, h3, h4⟩ := h
  refine ⟨by rw [vu_ne (by omega), vu_ne (by omega)]; exact h1, fun k hk => by rw [vu_ne (by omega), vu_ne (by omega)]; exact h2 k hk, vu_is, fun k k0 k1 => ?_⟩
  rw [fu_ap, vu_ne (by omega)]
  by_cases e : k = l
  · subst e
    rw [if_pos rfl, vu_is]
  · rw [if_neg e, vu_ne (by omega)]
    exact h4 k k0 (by omega)
theorem m_layWaiting {s : Int} {st : List Int} {c : Int → Int} {l l0 : Int} (h : LMo S w M) (hB : B = 0 ∨ B = 1) (hm : MRp w M B (s :: st) c l) (hl : 0 ≤ l ∧ l < 100) (hlen : st.length < 63) (hl0 : l0 ≤ l) : wM mX12_layWaiting [M, B] S w (fun _ w' => MRp w' M B st (fu c l (cvS s)) (l + 1) ∧ meG M B l0 w w' ∧ Km S w w') := by
  obtain ⟨h1, h2, h3, h4⟩ := hm
  simp only [List.length_cons] at h1 h2
  have htop := h2 0 (by omega)
  rw [show ((st.length + 1 : Nat) : Int) - 1 - ((0 : Nat) : Int) = st.length by omega] at htop
  have htop' : w (M + 31) (st.length : Int) = cvS s := htop
  have o1 : 0 ≤ (st.length : Int) ∧ (st.length : Int) < 64 := by omega
  have hk1 : Km S w (vu w M 44 (st.length : Int)) := Km.vu Km.rf (by rw [h.k]; rfl)
  have hM1 := h.keep hk1.p
  have t44 : vu w M 44 (st.length : Int) M 44 = st.length := vu_is
  have t31 : vu w M 44 (st.length : Int) (M + 31) (st.length : Int) = cvS s := by rw [vu_ne (by omega)]; exact htop'
  have hm1 : MRp (vu w M 44 (st.length : Int)) M B st c l := by
    refine ⟨vu_is, fun k hk => ?_, by rw [vu_ne (by omega)]; exact h3, fun k k0 k1 => by rw [vu_ne (by omega)]; exact h4 k k0 k1⟩
    rw [vu_ne (by omega)]
    have := h2 (k + 1) (by omega)
    rw [show ((st.length + 1 : Nat) : Int) - 1 - ((k + 1 : Nat) : Int) = (st.length : Int) - 1 - k by omega] at this
    exact this
  have g1 : meG M B l0 w (vu w M 44 (st.length : Int)) := fun a k q1 q2 q3 q4 => vu_ne (fun e => q1 e.1 e.2)
  have e1 : w32 (((st.length + 1 : Nat) : Int) - 1) = st.length := by rw [w32_e (by omega)]; omega
  have hly := m_lay (z := cvS s) hM1 hB hm1.2.2.1 hl
  have hmr := hm1.lay (z := cvS s) hl.1
  have g2 : meG M B l0 w (vu (vu (vu w M 44 (st.length : Int)) (M + 24) (100 * B + l) (cvS s)) (M + 7) B (l + 1)) := fun a k q1 q2 q3 q4 => by
    rw [vu_ne (fun e => q3 e.1 e.2), vu_ne (fun e => by have := q4 e.1; clear e1; omega)]; exact g1 a k q1 q2 q3 q4
  have kk : Km S w (vu (vu (vu w M 44 (st.length : Int)) (M + 24) (100 * B + l) (cvS s)) (M + 7) B (l + 1)) := (hk1.vu (by rw [h.a24]; rfl)).vu (by rw [h.a7]; rfl)
  simp only [mX12_layWaiting, sX12_layWaiting, wE_I, wE_V, wE_F, wE_A, wE_N, wE_1, wE_2, wE_D, wE_B, wE_If, wE_C, wE_CV, wE_SL, wE_SA, wA_0, wA_1, wC_B, wC_E, wC_And, wC_Or, wC_Not, wS_Skip, wS_Brk, wS_Cnt, wS_RetV, wS_Ret, wS_Seq, wS_Set, wS_Inc, wS_Do, wS_Put, wS_PutC, wS_Arr, wS_ArrC, wS_If, wS_Sw, wS_F0, wS_F1, wM_q, lu_ap, aL_ap, ct_0, ct_1, ct_2, ct_3, ct_4, ct_5, headD_1, List.mem_cons, List.not_mem_nil, or_false, false_or, or_true, true_or, true_and, and_true, false_and, and_false, not_true_eq_false, not_false_eq_true, if_true, if_false, nr_20, nr_24, nr_40, nr_41, nr_44, pt_lt, pt_ge, pt_eq, pt_ne, pt_gt, pt_le, pt_E, pt_N, pt_F, ite_10, ite_11, ne_eq, and_self, or_self, decide_true, decide_false, Bool.not_true, Bool.not_false, Bool.false_eq_true, Nat.reduceEqDiff, Nat.reduceAdd, Int.reduceEq, Int.reduceLT, Int.reduceLE, Int.reduceNeg, Int.reduceAdd, Int.reduceSub, Int.reduceMul, reduceCtorEq, iA, iS, iM, iD, iR, iN, lA, lS, lM, lD, lR, h.k, h1, e1, hM1.p43, h.a31, h.n31, t44, o1, t31, wM_of hly]
  exact ⟨hmr, g2, kk⟩
/-- the signs ahead that bind as closely laid -/
theorem m_push {z r : Int} {st : List Int} {c : Int → Int} {l l0 : Int} (h : LMo S w M) (hB : B = 0 ∨ B = 1) (hm : MRp w M B st c l) (hs : sOk st) (hz : (isOp z ∧ r = rkS z) ∨ (z = 40 ∧ r = 4)) (hl : 0 ≤ l ∧ l + cO st ≤ 60) (hlen : st.length < 60) (hl0 : l0 ≤ l) : wM mX12_push [M, B, cvS z] S w (fun _ w' => MRp w' M B (z :: (fRl r st c l).1) (fRl r st c l).2.1 (fRl r st c l).2.2 ∧ meG M B l0 w w' ∧ Km S w w') := by
  have hzz : isOp z ∨ z = 40 := by rcases hz with ⟨a, -⟩ | ⟨a, -⟩; exact Or.inl a; exact Or.inr a
  have hbz := fun u : QV => m_bindsBy (S := S) (w := u) hzz
  have hrb : ∀ s, rkS s ≤ 3 := fun s => by
    unfold rkS
    split
    · decide
    · split
      · decide
      · split <;> decide
  simp only [mX12_push, sX12_push, wM_q]
  generalize hL : aL 0 [2, 0, 0] [M, B, cvS z] = L
  have m0 : L 0 = M := by rw [← hL]; simp [lu_ap, aL_ap, ct_0, ct_1, ct_2]
  have m1 : L 1 = B := by rw [← hL]; simp [lu_ap, aL_ap, ct_0, ct_1, ct_2]
  have m2 : L 2 = cvS z := by rw [← hL]; simp [lu_ap, aL_ap, ct_0, ct_1, ct_2]
  clear hL
  rw [wS_Seq]
  refine wS_mono (Q' := fun k _ L' w' => k = 0 ∧ L' = L ∧ MRp w' M B (fRl r st c l).1 (fRl r st c l).2.1 (fRl r st c l).2.2 ∧ (fRl r st c l).1.length < 60 ∧ meG M B l0 w w' ∧ Km S w w') ?_ ?_
  · refine wS_While (fun k L' w' => ∃ (st' : List Int) (c' : Int → Int) (l' : Int), L' = L ∧ MRp w' M B st' c' l' ∧ sOk st' ∧ fRl r st c l = fRl r st' c' l' ∧ (k = st'.length ∧ 0 ≤ l' ∧ l' + cO st' ≤ 60 ∧ st'.length < 60 ∧ l0 ≤ l') ∧ meG M B l0 w w' ∧ Km S w w') st.length (by omega) ?_ ?_
    · exact ⟨st, c, l, rfl, hm, hs, rfl, ⟨rfl, hl.1, hl.2, hlen, hl0⟩, meG.rf, Km.rf⟩
    · rintro k L' w' ⟨st', c', l', rfl, hM', hs', hE, ⟨hk, hl1, hl2, hlen', hl0'⟩, hg, hkm⟩
      have hw := h.keep hkm.p
      obtain ⟨f1, f2, f3, f4⟩ := id hM'
      cases st' with
      | nil =>
        have n0 : ¬ (0 : Int) < 0 := by decide
        have f10 : w' M 44 = 0 := f1
        simp only [cX12_push_1, wE_I, wE_V, wE_F, wE_A, wE_N, wE_1, wE_2, wE_D, wE_B, wE_If, wE_C, wE_CV, wE_SL, wE_SA, wA_0, wA_1, wC_B, wC_E, wC_And, wC_Or, wC_Not, wS_Skip, wS_Brk, wS_Cnt, wS_RetV, wS_Ret, wS_Seq, wS_Set, wS_Inc, wS_Do, wS_Put, wS_PutC, wS_Arr, wS_ArrC, wS_If, wS_Sw, wS_F0, wS_F1, wM_q, lu_ap, aL_ap, ct_0, ct_1, ct_2, ct_3, ct_4, ct_5, headD_1, List.mem_cons, List.not_mem_nil, or_false, false_or, or_true, true_or, true_and, and_true, false_and, and_false, not_true_eq_false, not_false_eq_true, if_true, if_false, nr_20, nr_24, nr_40, nr_41, nr_44, pt_lt, pt_ge, pt_eq, pt_ne, pt_gt, pt_le, pt_E, pt_N, pt_F, ite_10, ite_11, ne_eq, and_self, or_self, decide_true, decide_false, Bool.not_true, Bool.not_false, Bool.false_eq_true, Nat.reduceEqDiff, Nat.reduceAdd, Int.reduceEq, Int.reduceLT, Int.reduceLE, Int.reduceNeg, Int.reduceAdd, Int.reduceSub, Int.reduceMul, reduceCtorEq, iA, iS, iM, iD, iR, iN, lA, lS, lM, lD, lR, m0, hw.k, f10, n0]
        rw [hE]
        exact ⟨hM', hlen', hg, hkm⟩
      | cons s st' =>
        simp only [List.length_cons] at f1 f2 hk hlen'
        have hpos' : (0 : Int) < ((st'.length + 1 : Nat) : Int) := by omega
        have htop := f2 0 (by omega)
        rw [show ((st'.length + 1 : Nat) : Int) - 1 - ((0 : Nat) : Int) = st'.length by omega] at htop
        have htop' : w' (M + 31) (st'.length : Int) = cvS s := htop
        have o1 : 0 ≤ (st'.length : Int) ∧ (st'.length : Int) < 64 := by omega
        have hss := hs' s (List.mem_cons_self ..)
        have hbs := fun u : QV => m_bindsBy (S := S) (w := u) hss
        have hn := cO_n st'
        by_cases c1 : r ≤ rkS s
        · have hop := rkS_p.mp (show 0 < rkS s by
            rcases hz with ⟨a, b⟩ | ⟨a, b⟩
            · have := rkS_p.mpr a; omega
            · omega)
          have hzo : isOp z ∧ r = rkS z := by
            rcases hz with a | ⟨a, b⟩
            · exact a
            · have := hrb s; omega
          have nz := (cv_rk hzz).1 hzo.1
          have c1' : rkS z ≤ rkS s := by omega
          have hcO : cO (s :: st') = 1 + cO st' := by
            simp only [cO]
            rw [if_pos (rkS_p.mpr hop)]
          rw [hcO] at hl2
          have hlw := m_layWaiting (l0 := l0) hw hB hM' ⟨hl1, by omega⟩ (by omega) hl0'
          have hE2 : fRl r st c l = fRl r st' (fu c' l' (cvS s)) (l' + 1) := by
            rw [hE]
            simp only [fRl]
            rw [if_pos c1]
          have lt : st'.length < k := by omega
          have fin : 0 ≤ l' + 1 ∧ l' + 1 + cO st' ≤ 60 ∧ st'.length < 60 ∧ l0 ≤ l' + 1 := by omega
          have e1 : w32 (((st'.length + 1 : Nat) : Int) - 1) = st'.length := by rw [w32_e (by omega)]; omega
          simp only [cX12_push_1, bX12_push_1, uX12_push_1, wE_I, wE_V, wE_F, wE_A, wE_N, wE_1, wE_2, wE_D, wE_B, wE_If, wE_C, wE_CV, wE_SL, wE_SA, wA_0, wA_1, wC_B, wC_E, wC_And, wC_Or, wC_Not, wS_Skip, wS_Brk, wS_Cnt, wS_RetV, wS_Ret, wS_Seq, wS_Set, wS_Inc, wS_Do, wS_Put, wS_PutC, wS_Arr, wS_ArrC, wS_If, wS_Sw, wS_F0, wS_F1, wM_q, lu_ap, aL_ap, ct_0, ct_1, ct_2, ct_3, ct_4, ct_5, headD_1, List.mem_cons, List.not_mem_nil, or_false, false_or, or_true, true_or, true_and, and_true, false_and, and_false, not_true_eq_false, not_false_eq_true, if_true, if_false, nr_20, nr_24, nr_40, nr_41, nr_44, pt_lt, pt_ge, pt_eq, pt_ne, pt_gt, pt_le, pt_E, pt_N, pt_F, ite_10, ite_11, ne_eq, and_self, or_self, decide_true, decide_false, Bool.not_true, Bool.not_false, Bool.false_eq_true, Nat.reduceEqDiff, Nat.reduceAdd, Int.reduceEq, Int.reduceLT, Int.reduceLE, Int.reduceNeg, Int.reduceAdd, Int.reduceSub, Int.reduceMul, reduceCtorEq, iA, iS, iM, iD, iR, iN, lA, lS, lM, lD, lR, m0, m1, m2, hw.k, f1, hpos', nz, hw.p43, h.a31, h.n31, e1, o1, htop', wM_of (hbs _), wM_of (hbz _), c1']
          clear e1
          refine wM_mono hlw ?_
          rintro r' w2 e ⟨g1, g2, g3⟩
          exact ⟨st'.length, lt, st', _, _, g1, fun a ha => hs' a (List.mem_cons_of_mem _ ha), hE2, ⟨rfl, fin⟩, hg.f g2, hkm.tr g3⟩
        · have hE2 : fRl r (s :: st') c' l' = (s :: st', c', l') := by simp only [fRl]; rw [if_neg c1]
          have fin : MRp w' M B (fRl r st c l).1 (fRl r st c l).2.1 (fRl r st c l).2.2 ∧ (fRl r st c l).1.length < 60 ∧ meG M B l0 w w' ∧ Km S w w' := by
            rw [hE, hE2]
            exact ⟨hM', by simp only [List.length_cons]; omega, hg, hkm⟩
          rcases hz with ⟨hzo, hr⟩ | ⟨hz4, hr⟩
          · have nz := (cv_rk hzz).1 hzo
            have c1' : ¬ rkS z ≤ rkS s := by omega
            have e1 : w32 (((st'.length + 1 : Nat) : Int) - 1) = st'.length := by rw [w32_e (by omega)]; omega
            simp only [cX12_push_1, wE_I, wE_V, wE_F, wE_A, wE_N, wE_1, wE_2, wE_D, wE_B, wE_If, wE_C, wE_CV, wE_SL, wE_SA, wA_0, wA_1, wC_B, wC_E, wC_And, wC_Or, wC_Not, wS_Skip, wS_Brk, wS_Cnt, wS_RetV, wS_Ret, wS_Seq, wS_Set, wS_Inc, wS_Do, wS_Put, wS_PutC, wS_Arr, wS_ArrC, wS_If, wS_Sw, wS_F0, wS_F1, wM_q, lu_ap, aL_ap, ct_0, ct_1, ct_2, ct_3, ct_4, ct_5, headD_1, List.mem_cons, List.not_mem_nil, or_false, false_or, or_true, true_or, true_and, and_true, false_and, and_false, not_true_eq_false, not_false_eq_true, if_true, if_false, nr_20, nr_24, nr_40, nr_41, nr_44, pt_lt, pt_ge, pt_eq, pt_ne, pt_gt, pt_le, pt_E, pt_N, pt_F, ite_10, ite_11, ne_eq, and_self, or_self, decide_true, decide_false, Bool.not_true, Bool.not_false, Bool.false_eq_true, Nat.reduceEqDiff, Nat.reduceAdd, Int.reduceEq, Int.reduceLT, Int.reduceLE, Int.reduceNeg, Int.reduceAdd, Int.reduceSub, Int.reduceMul, reduceCtorEq, iA, iS, iM, iD, iR, iN, lA, lS, lM, lD, lR, m0, m1, m2, hw.k, f1, hpos', nz, hw.p43, h.a31, h.n31, e1, o1, htop', wM_of (hbs _), wM_of (hbz _), c1']
            exact fin
          · have nz : cvS z = 10025 := (cv_rk hzz).2 hz4
            simp only [cX12_push_1, wE_I, wE_V, wE_F, wE_A, wE_N, wE_1, wE_2, wE_D, wE_B, wE_If, wE_C, wE_CV, wE_SL, wE_SA, wA_0, wA_1, wC_B, wC_E, wC_And, wC_Or, wC_Not, wS_Skip, wS_Brk, wS_Cnt, wS_RetV, wS_Ret, wS_Seq, wS_Set, wS_Inc, wS_Do, wS_Put, wS_PutC, wS_Arr, wS_ArrC, wS_If, wS_Sw, wS_F0, wS_F1, wM_q, lu_ap, aL_ap, ct_0, ct_1, ct_2, ct_3, ct_4, ct_5, headD_1, List.mem_cons, List.not_mem_nil, or_false, false_or, or_true, true_or, true_and, and_true, false_and, and_false, not_true_eq_false, not_false_eq_true, if_true, if_false, nr_20, nr_24, nr_40, nr_41, nr_44, pt_lt, pt_ge, pt_eq, pt_ne, pt_gt, pt_le, pt_E, pt_N, pt_F, ite_10, ite_11, ne_eq, and_self, or_self, decide_true, decide_false, Bool.not_true, Bool.not_false, Bool.false_eq_true, Nat.reduceEqDiff, Nat.reduceAdd, Int.reduceEq, Int.reduceLT, Int.reduceLE, Int.reduceNeg, Int.reduceAdd, Int.reduceSub, Int.reduceMul, reduceCtorEq, iA, iS, iM, iD, iR, iN, lA, lS, lM, lD, lR, m0, m1, m2, hw.k, f1, hpos', nz]
            exact fin
  · rintro k y L' w' ⟨rfl, rfl, hM', hlen', hg, hkm⟩
    rw [if_pos rfl]
    have hw := h.keep hkm.p
    obtain ⟨f1, f2, f3, f4⟩ := hM'
    generalize (fRl r st c l).1 = st2 at *
    generalize (fRl r st c l).2.1 = c2 at *
    generalize (fRl r st c l).2.2 = l2 at *
    have o1 : 0 ≤ (st2.length : Int) ∧ (st2.length : Int) < 64 := by omega
    have t44 : vu w' (M + 31) (st2.length : Int) (cvS z) M 44 = st2.length := by rw [vu_ne (by omega)]; exact f1
    have k2 : Km S w (vu (vu w' (M + 31) (st2.length : Int) (cvS z)) M 44 ((st2.length : Int) + 1)) := (hkm.vu (by rw [h.a31]; rfl)).vu (by rw [h.k]; rfl)
    have g2 : meG M B l0 w (vu (vu w' (M + 31) (st2.length : Int) (cvS z)) M 44 ((st2.length : Int) + 1)) := fun a k q1 q2 q3 q4 => by
      rw [vu_ne (fun e => q1 e.1 e.2), vu_ne (fun e => q2 e.1)]; exact hg a k q1 q2 q3 q4
    have hfin : MRp (vu (vu w' (M + 31) (st2.length : Int) (cvS z)) M 44 ((st2.length : Int) + 1)) M B (z :: st2) c2 l2 := by
      refine ⟨by rw [vu_is]; simp only [List.length_cons]; omega, fun k hk => ?_, by rw [vu_ne (by omega), vu_ne (by omega)]; exact f3, fun k k0 k1 => by rw [vu_ne (by omega), vu_ne (by omega)]; exact f4 k k0 k1⟩
      rw [vu_ne (by omega)]
      simp only [List.length_cons] at hk ⊢
      by_cases e : k = 0
      · subst e
        rw [show ((st2.length + 1 : Nat) : Int) - 1 - ((0 : Nat) : Int) = st2.length by omega, vu_is]
        rfl
      · obtain ⟨k', rfl⟩ : ∃ k', k = k' + 1 := ⟨k - 1, by omega⟩
        rw [vu_ne (by omega), show ((st2.length + 1 : Nat) : Int) - 1 - ((k' + 1 : Nat) : Int) = (st2.length : Int) - 1 - k' by omega]
        exact f2 k' (by omega)
    have e1 : w32 ((st2.length : Int) + 1) = st2.length + 1 := w32_e (by omega)
    simp only [wE_I, wE_V, wE_F, wE_A, wE_N, wE_1, wE_2, wE_D, wE_B, wE_If, wE_C, wE_CV, wE_SL, wE_SA, wA_0, wA_1, wC_B, wC_E, wC_And, wC_Or, wC_Not, wS_Skip, wS_Brk, wS_Cnt, wS_RetV, wS_Ret, wS_Seq, wS_Set, wS_Inc, wS_Do, wS_Put, wS_PutC, wS_Arr, wS_ArrC, wS_If, wS_Sw, wS_F0, wS_F1, wM_q, lu_ap, aL_ap, ct_0, ct_1, ct_2, ct_3, ct_4, ct_5, headD_1, List.mem_cons, List.not_mem_nil, or_false, false_or, or_true, true_or, true_and, and_true, false_and, and_false, not_true_eq_false, not_false_eq_true, if_true, if_false, nr_20, nr_24, nr_40, nr_41, nr_44, pt_lt, pt_ge, pt_eq, pt_ne, pt_gt, pt_le, pt_E, pt_N, pt_F, ite_10, ite_11, ne_eq, and_self, or_self, decide_true, decide_false, Bool.not_true, Bool.not_false, Bool.false_eq_true, Nat.reduceEqDiff, Nat.reduceAdd, Int.reduceEq, Int.reduceLT, Int.reduceLE, Int.reduceNeg, Int.reduceAdd, Int.reduceSub, Int.reduceMul, reduceCtorEq, iA, iS, iM, iD, iR, iN, lA, lS, lM, lD, lR, m0, m2, hw.k, hw.p43, h.a31, h.n31, f1, o1, t44, e1]
    exact ⟨hfin, g2, k2⟩
end LY
