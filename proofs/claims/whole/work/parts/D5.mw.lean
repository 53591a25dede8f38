/-! STORE: a new name, the reference's -/
def mnF (u w : QV) (M nn : Int) : Prop := ∀ a k, (a = M → k ≠ 27 ∧ (k < 32 ∨ 38 < k)) → (a = M + 26 ∨ a = M + 27 ∨ a = M + 30 → k ≠ nn) → w a k = u a k
theorem mnF.f {u w w' : QV} {M nn : Int} (h : mnF u w M nn) (hf : Fp M w w') : mnF u w' M nn := fun a k h1 h2 => (hf a k (fun e => (h1 e).2)).trans (h a k h1 h2)
def nwO (v : QV) (T j b : Int) : Int × Int := if ¬ kdT v T j = 4 then (1, j) else if ¬ b = -1 then (3, j) else (0, j + 1)
section MW
variable {S : QS} {v w u : QV} {M T n x P B : Int} {o : Int × Int}
theorem Mm.p27 {Q Q' : QV → Prop} {k z : Int} (h : Mm S v T M n Q w o) (hk : k ≠ 31 ∧ (k < 32 ∨ 38 < k)) (hw : Wm 13 k = true) (hQ : ∀ w, Q w → Q' (vu w M k z)) : Mm S v T M n Q' (vu w M k z) o := by
  obtain ⟨⟨h1, h2⟩, ⟨p1, p2, p3⟩, h4⟩ := h
  have e : ∀ j, 32 ≤ j → j ≤ 38 → vu w M k z M j = w M j := fun j j0 j1 => vu_ne (by omega)
  refine ⟨⟨h1, ?_⟩, ⟨p1.keep (Km.vu Km.rf (by rw [p1.k]; exact hw)).p, by rw [vu_ne (by omega)]; exact p2, fun j => ⟨by rw [vu_ne (by omega)]; exact (p3 j).1, by rw [vu_ne (by omega)]; exact (p3 j).2⟩⟩, hQ _ h4⟩
  by_cases c : o.1 = 0
  · rw [if_pos c] at h2 ⊢
    exact ⟨h2.1.q (fun j j0 j1 => e j j0 (by omega)), by rw [e 37 (by decide) (by decide)]; exact h2.2.1, by rw [e 38 (by decide) (by decide)]; exact h2.2.2⟩
  · rw [if_neg c] at h2 ⊢
    rw [e 37 (by decide) (by decide), e 38 (by decide) (by decide)]
    exact h2
theorem m_newName {Q : QV → Prop} {j b st nn : Int} (hc : CX v M T n) (h : Mm S v T M n Q w (0, j)) (hQ : ∀ w', Q w' → w' = w) (hQ0 : Q w) (hu : ∀ q k, T ≤ q → q ≤ T + 4 → u q k = v q k) (hR : NR u w T x M) (hnn : u x 7 = nn) (hn8 : 0 ≤ nn ∧ nn < 8) (hb : kdT v T j = 4 → isBe u T x j b) (hbb : -1 ≤ b ∧ b < 8) : wM mX12_newName [M, st] S w (fun _ w' => Mm S v T M n (fun w' => mnF w w' M nn ∧ ((nwO v T j b).1 = 0 → w' M 27 = nn + 1 ∧ w' (M + 26) nn = stT v T j ∧ w' (M + 27) nn = spT v T j - stT v T j ∧ w' (M + 30) nn = st) ∧ (¬ (nwO v T j b).1 = 0 → w' M 27 = nn)) w' (nwO v T j b)) := by
  have hM := h.2.1.1
  have hu5 : nTk u T = nTk v T := nt_q hu
  have h27 : w M 27 = nn := by rw [hR.1.1]; exact hnn
  have hnm := m_isNameO h.2.1 h.1
  simp only [true_and] at hnm
  have hm0 := h.cg (Q' := fun w' => mnF w w' M nn ∧ w' M 27 = nn) (fun q => by rw [hQ _ q]; exact ⟨fun _ _ _ _ => rfl, h27⟩)
  have qz0 : Qz M (fun w' => mnF w w' M nn ∧ w' M 27 = nn) := fun w1 w2 q1 q2 => ⟨q1.1.f q2, by rw [q2 _ _ (by omega)]; exact q1.2⟩
  have hsy := h.1.2
  rw [if_pos rfl] at hsy
  have h33 := hsy.1.1.1
  have h32 := hsy.1.1.2
  by_cases ck : kdT v T j = 4
  · rw [if_pos ck] at hnm
    have hnh := m_nameHere h.2.1 hc hu hu5 hR h.1.1 h33 h32
    simp only [mX12_newName, sX12_newName, wM_q]
    generalize hL : aL 0 [2, 0] [M, st] = L
    have m0 : L 0 = M := by rw [← hL]; simp [lu_ap, aL_ap, ct_0, ct_1, ct_2]
    have m1 : L 1 = st := by rw [← hL]; simp [lu_ap, aL_ap, ct_0, ct_1, ct_2]
    clear hL
    by_cases cb : b = -1
    · have ho : nwO v T j b = (0, j + 1) := by unfold nwO; rw [if_neg (fun z => z ck), if_neg (fun z => z cb)]
      rw [wS_Seq]
      refine wS_mono (Q' := fun k _ L' w' => k = 0 ∧ L' = L ∧ w' = w) ?_ ?_
      · simp only [wE_I, wE_V, wE_F, wE_A, wE_N, wE_1, wE_2, wE_D, wE_B, wE_If, wE_C, wE_CV, wE_SL, wE_SA, wA_0, wA_1, wC_B, wC_E, wC_And, wC_Or, wC_Not, wS_Skip, wS_Brk, wS_Cnt, wS_RetV, wS_Ret, wS_Seq, wS_Set, wS_Inc, wS_Do, wS_Put, wS_PutC, wS_Arr, wS_ArrC, wS_If, wS_Sw, wS_F0, wS_F1, wM_q, lu_ap, aL_ap, ct_0, ct_1, ct_2, ct_3, ct_4, ct_5, headD_1, List.mem_cons, List.not_mem_nil, or_false, false_or, or_true, true_or, true_and, and_true, false_and, and_false, not_true_eq_false, not_false_eq_true, if_true, if_false, nr_20, nr_24, nr_40, nr_41, nr_44, pt_lt, pt_ge, pt_eq, pt_ne, pt_gt, pt_le, pt_E, pt_N, pt_F, ite_10, ite_11, ne_eq, and_self, or_self, decide_true, decide_false, Bool.not_true, Bool.not_false, Bool.false_eq_true, Nat.reduceEqDiff, Nat.reduceAdd, Int.reduceEq, Int.reduceLT, Int.reduceLE, Int.reduceNeg, Int.reduceAdd, Int.reduceSub, Int.reduceMul, reduceCtorEq, iA, iS, iM, iD, iR, iN, lA, lS, lM, lD, lR, m0, hM.k, wM_of hnm]
        refine wM_mono hnh ?_
        rintro r w1 e ⟨rfl, b', hb', rfl⟩
        have ebb := isBe_u hb' (hb ck)
        subst ebb
        have nz : ¬ (0 : Int) ≤ (if b' = -1 then -1 else cvB b') := by rw [if_pos cb]; decide
        simp only [nz, wE_I, wE_V, wE_F, wE_A, wE_N, wE_1, wE_2, wE_D, wE_B, wE_If, wE_C, wE_CV, wE_SL, wE_SA, wA_0, wA_1, wC_B, wC_E, wC_And, wC_Or, wC_Not, wS_Skip, wS_Brk, wS_Cnt, wS_RetV, wS_Ret, wS_Seq, wS_Set, wS_Inc, wS_Do, wS_Put, wS_PutC, wS_Arr, wS_ArrC, wS_If, wS_Sw, wS_F0, wS_F1, wM_q, lu_ap, aL_ap, ct_0, ct_1, ct_2, ct_3, ct_4, ct_5, headD_1, List.mem_cons, List.not_mem_nil, or_false, false_or, or_true, true_or, true_and, and_true, false_and, and_false, not_true_eq_false, not_false_eq_true, if_true, if_false, nr_20, nr_24, nr_40, nr_41, nr_44, pt_lt, pt_ge, pt_eq, pt_ne, pt_gt, pt_le, pt_E, pt_N, pt_F, ite_10, ite_11, ne_eq, and_self, or_self, decide_true, decide_false, Bool.not_true, Bool.not_false, Bool.false_eq_true, Nat.reduceEqDiff, Nat.reduceAdd, Int.reduceEq, Int.reduceLT, Int.reduceLE, Int.reduceNeg, Int.reduceAdd, Int.reduceSub, Int.reduceMul, reduceCtorEq]
      rintro k z L' w' ⟨rfl, rfl, rfl⟩
      rw [if_pos rfl]
      have n00 : ¬ (0 : Int) < 0 := by decide
      refine ws_step (L' := L') (w := w') (by simp only [wE_I, wE_V, wE_F, wE_A, wE_N, wE_1, wE_2, wE_D, wE_B, wE_If, wE_C, wE_CV, wE_SL, wE_SA, wA_0, wA_1, wC_B, wC_E, wC_And, wC_Or, wC_Not, wS_Skip, wS_Brk, wS_Cnt, wS_RetV, wS_Ret, wS_Seq, wS_Set, wS_Inc, wS_Do, wS_Put, wS_PutC, wS_Arr, wS_ArrC, wS_If, wS_Sw, wS_F0, wS_F1, wM_q, lu_ap, aL_ap, ct_0, ct_1, ct_2, ct_3, ct_4, ct_5, headD_1, List.mem_cons, List.not_mem_nil, or_false, false_or, or_true, true_or, true_and, and_true, false_and, and_false, not_true_eq_false, not_false_eq_true, if_true, if_false, nr_20, nr_24, nr_40, nr_41, nr_44, pt_lt, pt_ge, pt_eq, pt_ne, pt_gt, pt_le, pt_E, pt_N, pt_F, ite_10, ite_11, ne_eq, and_self, or_self, decide_true, decide_false, Bool.not_true, Bool.not_false, Bool.false_eq_true, Nat.reduceEqDiff, Nat.reduceAdd, Int.reduceEq, Int.reduceLT, Int.reduceLE, Int.reduceNeg, Int.reduceAdd, Int.reduceSub, Int.reduceMul, reduceCtorEq, iA, iS, iM, iD, iR, iN, lA, lS, lM, lD, lR, m0, hM.k, h.live, n00]) ?_
      have hm1 := hm0.put (a := M + 26) (k := nn) (z := stT v T j) (Q' := fun w'' => mnF w' w'' M nn ∧ w'' M 27 = nn ∧ w'' (M + 26) nn = stT v T j) (by omega) (by rw [hM.a26]; rfl) (fun w'' q => ⟨fun a k q1 q2 => by rw [vu_ne (by omega)]; exact q.1 a k q1 q2, by rw [vu_ne (by omega)]; exact q.2, vu_is⟩)
      refine ws_step (L' := L') (w := vu w' (M + 26) nn (stT v T j)) (by simp only [wE_I, wE_V, wE_F, wE_A, wE_N, wE_1, wE_2, wE_D, wE_B, wE_If, wE_C, wE_CV, wE_SL, wE_SA, wA_0, wA_1, wC_B, wC_E, wC_And, wC_Or, wC_Not, wS_Skip, wS_Brk, wS_Cnt, wS_RetV, wS_Ret, wS_Seq, wS_Set, wS_Inc, wS_Do, wS_Put, wS_PutC, wS_Arr, wS_ArrC, wS_If, wS_Sw, wS_F0, wS_F1, wM_q, lu_ap, aL_ap, ct_0, ct_1, ct_2, ct_3, ct_4, ct_5, headD_1, List.mem_cons, List.not_mem_nil, or_false, false_or, or_true, true_or, true_and, and_true, false_and, and_false, not_true_eq_false, not_false_eq_true, if_true, if_false, nr_20, nr_24, nr_40, nr_41, nr_44, pt_lt, pt_ge, pt_eq, pt_ne, pt_gt, pt_le, pt_E, pt_N, pt_F, ite_10, ite_11, ne_eq, and_self, or_self, decide_true, decide_false, Bool.not_true, Bool.not_false, Bool.false_eq_true, Nat.reduceEqDiff, Nat.reduceAdd, Int.reduceEq, Int.reduceLT, Int.reduceLE, Int.reduceNeg, Int.reduceAdd, Int.reduceSub, Int.reduceMul, reduceCtorEq, iA, iS, iM, iD, iR, iN, lA, lS, lM, lD, lR, m0, hM.k, hM.p25, hM.a26, hM.n26, h27, hn8, h33]) ?_
      have y33 : vu w' (M + 26) nn (stT v T j) M 33 = stT v T j := by rw [vu_ne (by omega)]; exact h33
      have y32 : vu w' (M + 26) nn (stT v T j) M 32 = spT v T j := by rw [vu_ne (by omega)]; exact h32
      generalize vu w' (M + 26) nn (stT v T j) = w1 at *
      have hM1 := hm1.2.1.1
      have y27 := hm1.2.2.2.1
      have hst := hc.st h.1.1
      dsimp only at hst
      have hn1 := hc.2.2.1
      have ew : w32 (spT v T j - stT v T j) = spT v T j - stT v T j := w32_e (by omega)
      have hm2 := hm1.put (a := M + 27) (k := nn) (z := spT v T j - stT v T j) (Q' := fun w'' => mnF w' w'' M nn ∧ w'' M 27 = nn ∧ w'' (M + 26) nn = stT v T j ∧ w'' (M + 27) nn = spT v T j - stT v T j) (by clear ew; omega) (by rw [hM1.a27]; rfl) (fun w'' q => ⟨fun a k q1 q2 => by clear ew; rw [vu_ne (by omega)]; exact q.1 a k q1 q2, by clear ew; rw [vu_ne (by omega)]; exact q.2.1, by clear ew; rw [vu_ne (by omega)]; exact q.2.2, vu_is⟩)
      refine ws_step (L' := L') (w := vu w1 (M + 27) nn (spT v T j - stT v T j)) (by simp only [wE_I, wE_V, wE_F, wE_A, wE_N, wE_1, wE_2, wE_D, wE_B, wE_If, wE_C, wE_CV, wE_SL, wE_SA, wA_0, wA_1, wC_B, wC_E, wC_And, wC_Or, wC_Not, wS_Skip, wS_Brk, wS_Cnt, wS_RetV, wS_Ret, wS_Seq, wS_Set, wS_Inc, wS_Do, wS_Put, wS_PutC, wS_Arr, wS_ArrC, wS_If, wS_Sw, wS_F0, wS_F1, wM_q, lu_ap, aL_ap, ct_0, ct_1, ct_2, ct_3, ct_4, ct_5, headD_1, List.mem_cons, List.not_mem_nil, or_false, false_or, or_true, true_or, true_and, and_true, false_and, and_false, not_true_eq_false, not_false_eq_true, if_true, if_false, nr_20, nr_24, nr_40, nr_41, nr_44, pt_lt, pt_ge, pt_eq, pt_ne, pt_gt, pt_le, pt_E, pt_N, pt_F, ite_10, ite_11, ne_eq, and_self, or_self, decide_true, decide_false, Bool.not_true, Bool.not_false, Bool.false_eq_true, Nat.reduceEqDiff, Nat.reduceAdd, Int.reduceEq, Int.reduceLT, Int.reduceLE, Int.reduceNeg, Int.reduceAdd, Int.reduceSub, Int.reduceMul, reduceCtorEq, iA, iS, iM, iD, iR, iN, lA, lS, lM, lD, lR, m0, hM1.k, hM1.p26, hM1.a27, hM1.n27, y27, hn8, y33, y32, ew]) ?_
      clear ew
      generalize vu w1 (M + 27) nn (spT v T j - stT v T j) = w2 at *
      have hM2 := hm2.2.1.1
      have z27 := hm2.2.2.2.1
      have hm3 := hm2.put (a := M + 30) (k := nn) (z := st) (Q' := fun w'' => mnF w' w'' M nn ∧ w'' M 27 = nn ∧ (w'' (M + 26) nn = stT v T j ∧ w'' (M + 27) nn = spT v T j - stT v T j) ∧ w'' (M + 30) nn = st) (by omega) (by rw [hM2.a30]; rfl) (fun w'' q => ⟨fun a k q1 q2 => by rw [vu_ne (by omega)]; exact q.1 a k q1 q2, by rw [vu_ne (by omega)]; exact q.2.1, by rw [vu_ne (by omega), vu_ne (by omega)]; exact q.2.2, vu_is⟩)
      refine ws_step (L' := L') (w := vu w2 (M + 30) nn st) (by simp only [wE_I, wE_V, wE_F, wE_A, wE_N, wE_1, wE_2, wE_D, wE_B, wE_If, wE_C, wE_CV, wE_SL, wE_SA, wA_0, wA_1, wC_B, wC_E, wC_And, wC_Or, wC_Not, wS_Skip, wS_Brk, wS_Cnt, wS_RetV, wS_Ret, wS_Seq, wS_Set, wS_Inc, wS_Do, wS_Put, wS_PutC, wS_Arr, wS_ArrC, wS_If, wS_Sw, wS_F0, wS_F1, wM_q, lu_ap, aL_ap, ct_0, ct_1, ct_2, ct_3, ct_4, ct_5, headD_1, List.mem_cons, List.not_mem_nil, or_false, false_or, or_true, true_or, true_and, and_true, false_and, and_false, not_true_eq_false, not_false_eq_true, if_true, if_false, nr_20, nr_24, nr_40, nr_41, nr_44, pt_lt, pt_ge, pt_eq, pt_ne, pt_gt, pt_le, pt_E, pt_N, pt_F, ite_10, ite_11, ne_eq, and_self, or_self, decide_true, decide_false, Bool.not_true, Bool.not_false, Bool.false_eq_true, Nat.reduceEqDiff, Nat.reduceAdd, Int.reduceEq, Int.reduceLT, Int.reduceLE, Int.reduceNeg, Int.reduceAdd, Int.reduceSub, Int.reduceMul, reduceCtorEq, iA, iS, iM, iD, iR, iN, lA, lS, lM, lD, lR, m0, m1, hM2.k, hM2.p42, hM2.a30, hM2.n30, z27, hn8]) ?_
      generalize vu w2 (M + 30) nn st = w3 at *
      have hM3 := hm3.2.1.1
      have x27 := hm3.2.2.2.1
      have e9 : w32 (nn + 1) = nn + 1 := w32_e (by omega)
      have hm4 := hm3.p27 (k := 27) (z := nn + 1) (Q' := fun w'' => mnF w' w'' M nn ∧ w'' M 27 = nn + 1 ∧ (w'' (M + 26) nn = stT v T j ∧ w'' (M + 27) nn = spT v T j - stT v T j) ∧ w'' (M + 30) nn = st) (by decide) rfl (fun w'' q => ⟨fun a k q1 q2 => by clear e9; rw [vu_ne (by omega)]; exact q.1 a k q1 q2, vu_is, by clear e9; rw [vu_ne (by omega), vu_ne (by omega)]; exact q.2.2.1, by clear e9; rw [vu_ne (by omega)]; exact q.2.2.2⟩)
      refine ws_step (L' := L') (w := vu w3 M 27 (nn + 1)) (by simp only [wE_I, wE_V, wE_F, wE_A, wE_N, wE_1, wE_2, wE_D, wE_B, wE_If, wE_C, wE_CV, wE_SL, wE_SA, wA_0, wA_1, wC_B, wC_E, wC_And, wC_Or, wC_Not, wS_Skip, wS_Brk, wS_Cnt, wS_RetV, wS_Ret, wS_Seq, wS_Set, wS_Inc, wS_Do, wS_Put, wS_PutC, wS_Arr, wS_ArrC, wS_If, wS_Sw, wS_F0, wS_F1, wM_q, lu_ap, aL_ap, ct_0, ct_1, ct_2, ct_3, ct_4, ct_5, headD_1, List.mem_cons, List.not_mem_nil, or_false, false_or, or_true, true_or, true_and, and_true, false_and, and_false, not_true_eq_false, not_false_eq_true, if_true, if_false, nr_20, nr_24, nr_40, nr_41, nr_44, pt_lt, pt_ge, pt_eq, pt_ne, pt_gt, pt_le, pt_E, pt_N, pt_F, ite_10, ite_11, ne_eq, and_self, or_self, decide_true, decide_false, Bool.not_true, Bool.not_false, Bool.false_eq_true, Nat.reduceEqDiff, Nat.reduceAdd, Int.reduceEq, Int.reduceLT, Int.reduceLE, Int.reduceNeg, Int.reduceAdd, Int.reduceSub, Int.reduceMul, reduceCtorEq, iA, iS, iM, iD, iR, iN, lA, lS, lM, lD, lR, m0, hM3.k, x27, e9]) ?_
      clear e9
      generalize vu w3 M 27 (nn + 1) = w4 at *
      have qz4 : Qz M (fun w'' => mnF w' w'' M nn ∧ w'' M 27 = nn + 1 ∧ (w'' (M + 26) nn = stT v T j ∧ w'' (M + 27) nn = spT v T j - stT v T j) ∧ w'' (M + 30) nn = st) := fun w1 w2 q1 q2 => ⟨q1.1.f q2, by rw [q2 _ _ (by omega)]; exact q1.2.1, by rw [q2 _ _ (by omega), q2 _ _ (by omega)]; exact q1.2.2.1, by rw [q2 _ _ (by omega)]; exact q1.2.2.2⟩
      simp only [wE_I, wE_V, wE_F, wE_A, wE_N, wE_1, wE_2, wE_D, wE_B, wE_If, wE_C, wE_CV, wE_SL, wE_SA, wA_0, wA_1, wC_B, wC_E, wC_And, wC_Or, wC_Not, wS_Skip, wS_Brk, wS_Cnt, wS_RetV, wS_Ret, wS_Seq, wS_Set, wS_Inc, wS_Do, wS_Put, wS_PutC, wS_Arr, wS_ArrC, wS_If, wS_Sw, wS_F0, wS_F1, wM_q, lu_ap, aL_ap, ct_0, ct_1, ct_2, ct_3, ct_4, ct_5, headD_1, List.mem_cons, List.not_mem_nil, or_false, false_or, or_true, true_or, true_and, and_true, false_and, and_false, not_true_eq_false, not_false_eq_true, if_true, if_false, nr_20, nr_24, nr_40, nr_41, nr_44, pt_lt, pt_ge, pt_eq, pt_ne, pt_gt, pt_le, pt_E, pt_N, pt_F, ite_10, ite_11, ne_eq, and_self, or_self, decide_true, decide_false, Bool.not_true, Bool.not_false, Bool.false_eq_true, Nat.reduceEqDiff, Nat.reduceAdd, Int.reduceEq, Int.reduceLT, Int.reduceLE, Int.reduceNeg, Int.reduceAdd, Int.reduceSub, Int.reduceMul, reduceCtorEq, iA, iS, iM, iD, iR, iN, lA, lS, lM, lD, lR, m0, hm4.2.1.1.k]
      refine wM_mono (hm4.sc hc qz4 (by rw [ck]; decide)) ?_
      rintro r w5 e hm5
      rw [ho]
      exact hm5.cg (fun q => ⟨q.1, fun _ => ⟨q.2.1, q.2.2.1.1, q.2.2.1.2, q.2.2.2⟩, fun z => absurd rfl z⟩)
    · have ho : nwO v T j b = (3, j) := by unfold nwO; rw [if_neg (fun z => z ck), if_pos cb]
      have hfl := hm0.fl qz0 (f := 3) (by decide)
      rw [if_pos rfl] at hfl
      simp only [wE_I, wE_V, wE_F, wE_A, wE_N, wE_1, wE_2, wE_D, wE_B, wE_If, wE_C, wE_CV, wE_SL, wE_SA, wA_0, wA_1, wC_B, wC_E, wC_And, wC_Or, wC_Not, wS_Skip, wS_Brk, wS_Cnt, wS_RetV, wS_Ret, wS_Seq, wS_Set, wS_Inc, wS_Do, wS_Put, wS_PutC, wS_Arr, wS_ArrC, wS_If, wS_Sw, wS_F0, wS_F1, wM_q, lu_ap, aL_ap, ct_0, ct_1, ct_2, ct_3, ct_4, ct_5, headD_1, List.mem_cons, List.not_mem_nil, or_false, false_or, or_true, true_or, true_and, and_true, false_and, and_false, not_true_eq_false, not_false_eq_true, if_true, if_false, nr_20, nr_24, nr_40, nr_41, nr_44, pt_lt, pt_ge, pt_eq, pt_ne, pt_gt, pt_le, pt_E, pt_N, pt_F, ite_10, ite_11, ne_eq, and_self, or_self, decide_true, decide_false, Bool.not_true, Bool.not_false, Bool.false_eq_true, Nat.reduceEqDiff, Nat.reduceAdd, Int.reduceEq, Int.reduceLT, Int.reduceLE, Int.reduceNeg, Int.reduceAdd, Int.reduceSub, Int.reduceMul, reduceCtorEq, iA, iS, iM, iD, iR, iN, lA, lS, lM, lD, lR, m0, hM.k, wM_of hnm]
      refine wM_mono hnh ?_
      rintro r w1 e ⟨rfl, b', hb', rfl⟩
      have ebb := isBe_u hb' (hb ck)
      subst ebb
      have nz : (0 : Int) ≤ (if b' = -1 then -1 else cvB b') := by
        rw [if_neg cb]
        unfold cvB
        split <;> omega
      simp only [nz, m0, hM.k, wE_I, wE_V, wE_F, wE_A, wE_N, wE_1, wE_2, wE_D, wE_B, wE_If, wE_C, wE_CV, wE_SL, wE_SA, wA_0, wA_1, wC_B, wC_E, wC_And, wC_Or, wC_Not, wS_Skip, wS_Brk, wS_Cnt, wS_RetV, wS_Ret, wS_Seq, wS_Set, wS_Inc, wS_Do, wS_Put, wS_PutC, wS_Arr, wS_ArrC, wS_If, wS_Sw, wS_F0, wS_F1, wM_q, lu_ap, aL_ap, ct_0, ct_1, ct_2, ct_3, ct_4, ct_5, headD_1, List.mem_cons, List.not_mem_nil, or_false, false_or, or_true, true_or, true_and, and_true, false_and, and_false, not_true_eq_false, not_false_eq_true, if_true, if_false, nr_20, nr_24, nr_40, nr_41, nr_44, pt_lt, pt_ge, pt_eq, pt_ne, pt_gt, pt_le, pt_E, pt_N, pt_F, ite_10, ite_11, ne_eq, and_self, or_self, decide_true, decide_false, Bool.not_true, Bool.not_false, Bool.false_eq_true, Nat.reduceEqDiff, Nat.reduceAdd, Int.reduceEq, Int.reduceLT, Int.reduceLE, Int.reduceNeg, Int.reduceAdd, Int.reduceSub, Int.reduceMul, reduceCtorEq]
      refine wM_mono hfl ?_
      rintro r w2 e2 hm2
      have hd := hm2.dead (by simp)
      simp only [m0, hm2.2.1.1.k, hd, wE_I, wE_V, wE_F, wE_A, wE_N, wE_1, wE_2, wE_D, wE_B, wE_If, wE_C, wE_CV, wE_SL, wE_SA, wA_0, wA_1, wC_B, wC_E, wC_And, wC_Or, wC_Not, wS_Skip, wS_Brk, wS_Cnt, wS_RetV, wS_Ret, wS_Seq, wS_Set, wS_Inc, wS_Do, wS_Put, wS_PutC, wS_Arr, wS_ArrC, wS_If, wS_Sw, wS_F0, wS_F1, wM_q, lu_ap, aL_ap, ct_0, ct_1, ct_2, ct_3, ct_4, ct_5, headD_1, List.mem_cons, List.not_mem_nil, or_false, false_or, or_true, true_or, true_and, and_true, false_and, and_false, not_true_eq_false, not_false_eq_true, if_true, if_false, nr_20, nr_24, nr_40, nr_41, nr_44, pt_lt, pt_ge, pt_eq, pt_ne, pt_gt, pt_le, pt_E, pt_N, pt_F, ite_10, ite_11, ne_eq, and_self, or_self, decide_true, decide_false, Bool.not_true, Bool.not_false, Bool.false_eq_true, Nat.reduceEqDiff, Nat.reduceAdd, Int.reduceEq, Int.reduceLT, Int.reduceLE, Int.reduceNeg, Int.reduceAdd, Int.reduceSub, Int.reduceMul, reduceCtorEq]
      rw [ho]
      exact hm2.cg (fun q => ⟨q.1, fun z => absurd z (by simp), fun _ => q.2⟩)
  · rw [if_neg ck] at hnm
    have ho : nwO v T j b = (1, j) := by unfold nwO; rw [if_pos ck]
    have hfl := hm0.fl qz0 (f := 1) (by decide)
    rw [if_pos rfl] at hfl
    simp only [mX12_newName, sX12_newName, wE_I, wE_V, wE_F, wE_A, wE_N, wE_1, wE_2, wE_D, wE_B, wE_If, wE_C, wE_CV, wE_SL, wE_SA, wA_0, wA_1, wC_B, wC_E, wC_And, wC_Or, wC_Not, wS_Skip, wS_Brk, wS_Cnt, wS_RetV, wS_Ret, wS_Seq, wS_Set, wS_Inc, wS_Do, wS_Put, wS_PutC, wS_Arr, wS_ArrC, wS_If, wS_Sw, wS_F0, wS_F1, wM_q, lu_ap, aL_ap, ct_0, ct_1, ct_2, ct_3, ct_4, ct_5, headD_1, List.mem_cons, List.not_mem_nil, or_false, false_or, or_true, true_or, true_and, and_true, false_and, and_false, not_true_eq_false, not_false_eq_true, if_true, if_false, nr_20, nr_24, nr_40, nr_41, nr_44, pt_lt, pt_ge, pt_eq, pt_ne, pt_gt, pt_le, pt_E, pt_N, pt_F, ite_10, ite_11, ne_eq, and_self, or_self, decide_true, decide_false, Bool.not_true, Bool.not_false, Bool.false_eq_true, Nat.reduceEqDiff, Nat.reduceAdd, Int.reduceEq, Int.reduceLT, Int.reduceLE, Int.reduceNeg, Int.reduceAdd, Int.reduceSub, Int.reduceMul, reduceCtorEq, iA, iS, iM, iD, iR, iN, lA, lS, lM, lD, lR, hM.k, wM_of hnm]
    refine wM_mono hfl ?_
    rintro r w2 e2 hm2
    have hd := hm2.dead (by simp)
    simp only [hm2.2.1.1.k, hd, wE_I, wE_V, wE_F, wE_A, wE_N, wE_1, wE_2, wE_D, wE_B, wE_If, wE_C, wE_CV, wE_SL, wE_SA, wA_0, wA_1, wC_B, wC_E, wC_And, wC_Or, wC_Not, wS_Skip, wS_Brk, wS_Cnt, wS_RetV, wS_Ret, wS_Seq, wS_Set, wS_Inc, wS_Do, wS_Put, wS_PutC, wS_Arr, wS_ArrC, wS_If, wS_Sw, wS_F0, wS_F1, wM_q, lu_ap, aL_ap, ct_0, ct_1, ct_2, ct_3, ct_4, ct_5, headD_1, List.mem_cons, List.not_mem_nil, or_false, false_or, or_true, true_or, true_and, and_true, false_and, and_false, not_true_eq_false, not_false_eq_true, if_true, if_false, nr_20, nr_24, nr_40, nr_41, nr_44, pt_lt, pt_ge, pt_eq, pt_ne, pt_gt, pt_le, pt_E, pt_N, pt_F, ite_10, ite_11, ne_eq, and_self, or_self, decide_true, decide_false, Bool.not_true, Bool.not_false, Bool.false_eq_true, Nat.reduceEqDiff, Nat.reduceAdd, Int.reduceEq, Int.reduceLT, Int.reduceLE, Int.reduceNeg, Int.reduceAdd, Int.reduceSub, Int.reduceMul, reduceCtorEq]
    rw [ho]
    exact hm2.cg (fun q => ⟨q.1, fun z => absurd z (by simp), fun _ => q.2⟩)
end MW
