/-! STORE: all begun anew, the class's -/
/-- the first n fields are as g tells -/
def Cpg (v : QV) (t : Int) (g : Int → Int) (n : Int) (u : QV) : Prop := (∀ k, 0 ≤ k → k < n → u t k = g k) ∧ ∀ a k, a ≠ t → u a k = v a k
def bgM (w : QV) (p k : Int) : Int := if k = 0 then w p 3 else if k = 1 then w p 4 else if k = 2 then w p 5 else if k = 3 then -1 else if k = 4 then -2147483648 else if k = 5 then -2147483648 else if k = 6 then 0 else if k = 7 then 0 else if k = 8 then -2000000000 else 2000000000
section BG
variable {S : QS} {u v w : QV} {b M P B s : Int}
theorem Cpg.z {t : Int} {g : Int → Int} : Cpg v t g 0 v := ⟨fun k h0 h1 => by omega, fun _ _ _ => rfl⟩
theorem Cpg.nx {t n n' z : Int} {g : Int → Int} (h : Cpg v t g n u) (hz : z = g n) (hn : n' = n + 1) : Cpg v t g n' (vu u t n z) := by
  refine ⟨fun k h0 h1 => ?_, fun a k ha => ?_⟩
  · rw [vu_ap]
    by_cases hk : k = n
    · rw [if_pos ⟨rfl, hk⟩, hk, hz]
    · rw [if_neg (fun q => hk q.2)]
      exact h.1 k h0 (by omega)
  · rw [vu_ne (fun q => ha q.1)]
    exact h.2 a k ha
theorem c_pI {ci i : Nat} {k z : Int} {rest : QT} {L : QL} {Q : Nat → Int → QL → QV → Prop} (hi : S.1 (L i) = ci + 1) (h : wS rest L S (vu v (L i) k z) Q) : wS (sSeq (sPut ci k (eV i) (eI z)) rest) L S v Q := by
  rw [wS_Seq, wS_Put, wE_V, wE_I]
  exact ⟨hi, h⟩
theorem c_pF {ci cj i j : Nat} {k l : Int} {rest : QT} {L : QL} {Q : Nat → Int → QL → QV → Prop} (hi : S.1 (L i) = ci + 1) (hj : S.1 (L j) = cj + 1) (h : wS rest L S (vu v (L i) k (v (L j) l)) Q) : wS (sSeq (sPut ci k (eV i) (eF cj l (eV j))) rest) L S v Q := by
  rw [wS_Seq, wS_Put, wE_V, wE_F, wE_V]
  exact ⟨hj, hi, h⟩
theorem c_begin3 {t p : Int} (h1 : S.1 t = 4) (h2 : S.1 p = 3) (hne : p ≠ t) : wM mX3_begin [t, p] S v (fun _ w => (∀ k, 0 ≤ k → k < 10 → w t k = bgM v p k) ∧ ∀ a k, a ≠ t → w a k = v a k) := by
  rw [mX3_begin, wM_q, sX3_begin]
  generalize hL : aL 0 [2, 2] [t, p] = L
  have l0 : L 0 = t := by rw [← hL]; rfl
  have l1 : L 1 = p := by rw [← hL]; rfl
  have k0 : S.1 (L 0) = 3 + 1 := by rw [l0]; exact h1
  have k1 : S.1 (L 1) = 2 + 1 := by rw [l1]; exact h2
  have z0 := Cpg.z (v := v) (t := t) (g := bgM v p)
  refine c_pF k0 k1 ?_
  rw [l0, l1]
  have z1 : Cpg v t (bgM v p) 1 (vu v t 0 (v p 3)) := z0.nx (z0.2 _ _ hne) rfl
  generalize vu v t 0 (v p 3) = u1 at z1 ⊢
  clear z0
  refine c_pF k0 k1 ?_
  rw [l0, l1]
  have z2 : Cpg v t (bgM v p) 2 (vu u1 t 1 (u1 p 4)) := z1.nx (z1.2 _ _ hne) rfl
  generalize vu u1 t 1 (u1 p 4) = u2 at z2 ⊢
  clear z1
  refine c_pF k0 k1 ?_
  rw [l0, l1]
  have z3 : Cpg v t (bgM v p) 3 (vu u2 t 2 (u2 p 5)) := z2.nx (z2.2 _ _ hne) rfl
  generalize vu u2 t 2 (u2 p 5) = u3 at z3 ⊢
  clear z2
  refine c_pI k0 ?_
  rw [l0]
  have z4 : Cpg v t (bgM v p) 4 (vu u3 t 3 (-1)) := z3.nx rfl rfl
  generalize vu u3 t 3 (-1) = u4 at z4 ⊢
  clear z3
  refine c_pI k0 ?_
  rw [l0]
  have z5 : Cpg v t (bgM v p) 5 (vu u4 t 4 (-2147483648)) := z4.nx rfl rfl
  generalize vu u4 t 4 (-2147483648) = u5 at z5 ⊢
  clear z4
  refine c_pI k0 ?_
  rw [l0]
  have z6 : Cpg v t (bgM v p) 6 (vu u5 t 5 (-2147483648)) := z5.nx rfl rfl
  generalize vu u5 t 5 (-2147483648) = u6 at z6 ⊢
  clear z5
  refine c_pI k0 ?_
  rw [l0]
  have z7 : Cpg v t (bgM v p) 7 (vu u6 t 6 0) := z6.nx rfl rfl
  generalize vu u6 t 6 0 = u7 at z7 ⊢
  clear z6
  refine c_pI k0 ?_
  rw [l0]
  have z8 : Cpg v t (bgM v p) 8 (vu u7 t 7 0) := z7.nx rfl rfl
  generalize vu u7 t 7 0 = u8 at z8 ⊢
  clear z7
  refine c_pI k0 ?_
  rw [l0]
  have z9 : Cpg v t (bgM v p) 9 (vu u8 t 8 (-2000000000)) := z8.nx rfl rfl
  generalize vu u8 t 8 (-2000000000) = u9 at z9 ⊢
  clear z8
  refine c_pI k0 ?_
  rw [l0]
  have z10 : Cpg v t (bgM v p) 10 (vu u9 t 9 2000000000) := z9.nx rfl rfl
  generalize vu u9 t 9 2000000000 = u10 at z10 ⊢
  clear z9
  simp only [wE_I, wE_V, wE_F, wE_A, wE_N, wE_1, wE_2, wE_D, wE_B, wE_If, wE_C, wE_CV, wE_SL, wE_SA, wA_0, wA_1, wC_B, wC_E, wC_And, wC_Or, wC_Not, wS_Skip, wS_Brk, wS_Cnt, wS_RetV, wS_Ret, wS_Seq, wS_Set, wS_Inc, wS_Do, wS_Put, wS_PutC, wS_Arr, wS_ArrC, wS_If, wS_Sw, wS_F0, wS_F1, wM_q, lu_ap, aL_ap, ct_0, ct_1, ct_2, ct_3, ct_4, ct_5, headD_1, List.mem_cons, List.not_mem_nil, or_false, false_or, or_true, true_or, true_and, and_true, false_and, and_false, not_true_eq_false, not_false_eq_true, if_true, if_false, nr_20, nr_24, nr_40, nr_41, nr_44, pt_lt, pt_ge, pt_eq, pt_ne, pt_gt, pt_le, pt_E, pt_N, pt_F, ite_10, ite_11, ne_eq, and_self, or_self, decide_true, decide_false, Bool.not_true, Bool.not_false, Bool.false_eq_true, Nat.reduceEqDiff, Nat.reduceAdd, Int.reduceEq, Int.reduceLT, Int.reduceLE, Int.reduceNeg, Int.reduceAdd, Int.reduceSub, Int.reduceMul, reduceCtorEq, iA, iS, iM, iD, iR, iN, lA, lS, lM, lD, lR]
  exact z10
theorem c_begin4 {o : Int} (h : LOu S v o) : wM mX4_begin [o] S v (fun _ w => (w o 0 = 0 ∧ w o 1 = 0 ∧ w o 2 = 0 ∧ w o 7 = 0) ∧ (∀ j, 0 ≤ j → j < 24 → w (o + 1) j = 0 ∧ w (o + 2) j = 0) ∧ ∀ a k, a ≠ o → a ≠ o + 1 → a ≠ o + 2 → w a k = v a k) := by
  rw [mX4_begin, wM_q, sX4_begin]
  generalize hL : aL 0 [2] [o] = L
  have l0 : L 0 = o := by rw [← hL]; rfl
  clear hL
  have k0 : S.1 (L 0) = 4 + 1 := by rw [l0]; exact h.k
  refine c_pI k0 ?_
  refine c_pI k0 ?_
  refine c_pI k0 ?_
  refine c_pI k0 ?_
  rw [l0]
  have kk : Kp S v (vu (vu (vu (vu v o 0 0) o 1 0) o 2 0) o 7 0) := (((Kp.rf.vuc (by rw [h.k]; rfl)).vuc (by rw [h.k]; rfl)).vuc (by rw [h.k]; rfl)).vuc (by rw [h.k]; rfl)
  have f0 : (vu (vu (vu (vu v o 0 0) o 1 0) o 2 0) o 7 0) o 0 = 0 ∧ (vu (vu (vu (vu v o 0 0) o 1 0) o 2 0) o 7 0) o 1 = 0 ∧ (vu (vu (vu (vu v o 0 0) o 1 0) o 2 0) o 7 0) o 2 = 0 ∧ (vu (vu (vu (vu v o 0 0) o 1 0) o 2 0) o 7 0) o 7 = 0 := ⟨by rw [vu_ne (by simp), vu_ne (by simp), vu_ne (by simp), vu_is], by rw [vu_ne (by simp), vu_ne (by simp), vu_is], by rw [vu_ne (by simp), vu_is], vu_is⟩
  have ff : ∀ a k, a ≠ o → (vu (vu (vu (vu v o 0 0) o 1 0) o 2 0) o 7 0) a k = v a k := fun a k q => by rw [vu_ne (by omega), vu_ne (by omega), vu_ne (by omega), vu_ne (by omega)]
  have hO := h.keep kk
  generalize vu (vu (vu (vu v o 0 0) o 1 0) o 2 0) o 7 0 = v1 at *
  rw [wS_Seq]
  refine wS_mono (Q' := fun k _ _ w => k = 0 ∧ (w o 0 = 0 ∧ w o 1 = 0 ∧ w o 2 = 0 ∧ w o 7 = 0) ∧ (∀ j, 0 ≤ j → j < 24 → w (o + 1) j = 0 ∧ w (o + 2) j = 0) ∧ ∀ a k, a ≠ o → a ≠ o + 1 → a ≠ o + 2 → w a k = v a k) ?_ ?_
  · refine ws_step (L' := lu L 1 0) (w := v1) (by simp only [wE_I, wE_V, wE_F, wE_A, wE_N, wE_1, wE_2, wE_D, wE_B, wE_If, wE_C, wE_CV, wE_SL, wE_SA, wA_0, wA_1, wC_B, wC_E, wC_And, wC_Or, wC_Not, wS_Skip, wS_Brk, wS_Cnt, wS_RetV, wS_Ret, wS_Seq, wS_Set, wS_Inc, wS_Do, wS_Put, wS_PutC, wS_Arr, wS_ArrC, wS_If, wS_Sw, wS_F0, wS_F1, wM_q, lu_ap, aL_ap, ct_0, ct_1, ct_2, ct_3, ct_4, ct_5, headD_1, List.mem_cons, List.not_mem_nil, or_false, false_or, or_true, true_or, true_and, and_true, false_and, and_false, not_true_eq_false, not_false_eq_true, if_true, if_false, nr_20, nr_24, nr_40, nr_41, nr_44, pt_lt, pt_ge, pt_eq, pt_ne, pt_gt, pt_le, pt_E, pt_N, pt_F, ite_10, ite_11, ne_eq, and_self, or_self, decide_true, decide_false, Bool.not_true, Bool.not_false, Bool.false_eq_true, Nat.reduceEqDiff, Nat.reduceAdd, Int.reduceEq, Int.reduceLT, Int.reduceLE, Int.reduceNeg, Int.reduceAdd, Int.reduceSub, Int.reduceMul, reduceCtorEq, iA, iS, iM, iD, iR, iN, lA, lS, lM, lD, lR]) ?_
    have n0 : lu L 1 0 0 = o := by simp [lu_ap, l0]
    have n1 : lu L 1 0 1 = 0 := by simp [lu_ap]
    generalize lu L 1 0 = L1 at *
    refine wS_For 24 (fun j L w => (L 0 = o ∧ L 1 = j) ∧ Kp S v1 w ∧ (∀ k, w o k = v1 o k) ∧ (∀ i, 0 ≤ i → i < (j : Int) → w (o + 1) i = 0 ∧ w (o + 2) i = 0) ∧ ∀ a k, a ≠ o + 1 → a ≠ o + 2 → w a k = v1 a k) (by decide) ?_ ?_ ?_
    · exact ⟨⟨n0, n1⟩, Kp.rf, fun _ => rfl, fun i i0 i1 => by omega, fun _ _ _ _ => rfl⟩
    · rintro j L w hj ⟨⟨m0, m1⟩, q1, q2, q3, q4⟩
      have hw := hO.keep q1
      have lt : (j : Int) < 24 := by omega
      have o1 : 0 ≤ (j : Int) ∧ (j : Int) < 24 := by omega
      have hk1 : Kp S v1 (vu w (o + 1) (j : Int) 0) := q1.vuc (by rw [hw.a1]; rfl)
      have hw1 := hw.keep (show Kp S w (vu w (o + 1) (j : Int) 0) from Kp.rf.vuc (by rw [hw.a1]; rfl))
      have hk2 : Kp S v1 (vu (vu w (o + 1) (j : Int) 0) (o + 2) (j : Int) 0) := hk1.vuc (by rw [hw.a2]; rfl)
      have e1 : w32 ((j : Int) + 1) = ((j + 1 : Nat) : Int) := by rw [w32_e (by omega)]; omega
      simp only [cX4_begin_1, bX4_begin_1, uX4_begin_1, wE_I, wE_V, wE_F, wE_A, wE_N, wE_1, wE_2, wE_D, wE_B, wE_If, wE_C, wE_CV, wE_SL, wE_SA, wA_0, wA_1, wC_B, wC_E, wC_And, wC_Or, wC_Not, wS_Skip, wS_Brk, wS_Cnt, wS_RetV, wS_Ret, wS_Seq, wS_Set, wS_Inc, wS_Do, wS_Put, wS_PutC, wS_Arr, wS_ArrC, wS_If, wS_Sw, wS_F0, wS_F1, wM_q, lu_ap, aL_ap, ct_0, ct_1, ct_2, ct_3, ct_4, ct_5, headD_1, List.mem_cons, List.not_mem_nil, or_false, false_or, or_true, true_or, true_and, and_true, false_and, and_false, not_true_eq_false, not_false_eq_true, if_true, if_false, nr_20, nr_24, nr_40, nr_41, nr_44, pt_lt, pt_ge, pt_eq, pt_ne, pt_gt, pt_le, pt_E, pt_N, pt_F, ite_10, ite_11, ne_eq, and_self, or_self, decide_true, decide_false, Bool.not_true, Bool.not_false, Bool.false_eq_true, Nat.reduceEqDiff, Nat.reduceAdd, Int.reduceEq, Int.reduceLT, Int.reduceLE, Int.reduceNeg, Int.reduceAdd, Int.reduceSub, Int.reduceMul, reduceCtorEq, iA, iS, iM, iD, iR, iN, lA, lS, lM, lD, lR, m0, m1, lt, hw.k, hw.p3, hw.a1, hw.n1, o1, hw1.p4, hw1.a2, hw1.n2, e1]
      clear e1
      refine ⟨hk2, fun k => by rw [vu_ne (by omega), vu_ne (by omega)]; exact q2 k, fun i i0 i1 => ?_, fun a k a1 a2 => by rw [vu_ne (by omega), vu_ne (by omega)]; exact q4 a k a1 a2⟩
      by_cases e : i = (j : Int)
      · rw [e]
        exact ⟨by rw [vu_ne (by omega), vu_is], vu_is⟩
      · rw [vu_ne (by omega), vu_ne (by omega), vu_ne (by omega), vu_ne (by omega)]
        exact q3 i i0 (by omega)
    · rintro L w ⟨⟨m0, m1⟩, q1, q2, q3, q4⟩
      have nlt : ¬ (((24 : Nat)) : Int) < 24 := by decide
      simp only [cX4_begin_1, wE_I, wE_V, wE_F, wE_A, wE_N, wE_1, wE_2, wE_D, wE_B, wE_If, wE_C, wE_CV, wE_SL, wE_SA, wA_0, wA_1, wC_B, wC_E, wC_And, wC_Or, wC_Not, wS_Skip, wS_Brk, wS_Cnt, wS_RetV, wS_Ret, wS_Seq, wS_Set, wS_Inc, wS_Do, wS_Put, wS_PutC, wS_Arr, wS_ArrC, wS_If, wS_Sw, wS_F0, wS_F1, wM_q, lu_ap, aL_ap, ct_0, ct_1, ct_2, ct_3, ct_4, ct_5, headD_1, List.mem_cons, List.not_mem_nil, or_false, false_or, or_true, true_or, true_and, and_true, false_and, and_false, not_true_eq_false, not_false_eq_true, if_true, if_false, nr_20, nr_24, nr_40, nr_41, nr_44, pt_lt, pt_ge, pt_eq, pt_ne, pt_gt, pt_le, pt_E, pt_N, pt_F, ite_10, ite_11, ne_eq, and_self, or_self, decide_true, decide_false, Bool.not_true, Bool.not_false, Bool.false_eq_true, Nat.reduceEqDiff, Nat.reduceAdd, Int.reduceEq, Int.reduceLT, Int.reduceLE, Int.reduceNeg, Int.reduceAdd, Int.reduceSub, Int.reduceMul, reduceCtorEq, iA, iS, iM, iD, iR, iN, lA, lS, lM, lD, lR, m0, m1, nlt]
      exact ⟨⟨by rw [q2]; exact f0.1, by rw [q2]; exact f0.2.1, by rw [q2]; exact f0.2.2.1, by rw [q2]; exact f0.2.2.2⟩, fun j j0 j1 => q3 j j0 (by omega), fun a k a0 a1 a2 => by rw [q4 _ _ a1 a2]; exact ff _ _ a0⟩
  · rintro k z L' w ⟨rfl, hh⟩
    simp only [wE_I, wE_V, wE_F, wE_A, wE_N, wE_1, wE_2, wE_D, wE_B, wE_If, wE_C, wE_CV, wE_SL, wE_SA, wA_0, wA_1, wC_B, wC_E, wC_And, wC_Or, wC_Not, wS_Skip, wS_Brk, wS_Cnt, wS_RetV, wS_Ret, wS_Seq, wS_Set, wS_Inc, wS_Do, wS_Put, wS_PutC, wS_Arr, wS_ArrC, wS_If, wS_Sw, wS_F0, wS_F1, wM_q, lu_ap, aL_ap, ct_0, ct_1, ct_2, ct_3, ct_4, ct_5, headD_1, List.mem_cons, List.not_mem_nil, or_false, false_or, or_true, true_or, true_and, and_true, false_and, and_false, not_true_eq_false, not_false_eq_true, if_true, if_false, nr_20, nr_24, nr_40, nr_41, nr_44, pt_lt, pt_ge, pt_eq, pt_ne, pt_gt, pt_le, pt_E, pt_N, pt_F, ite_10, ite_11, ne_eq, and_self, or_self, decide_true, decide_false, Bool.not_true, Bool.not_false, Bool.false_eq_true, Nat.reduceEqDiff, Nat.reduceAdd, Int.reduceEq, Int.reduceLT, Int.reduceLE, Int.reduceNeg, Int.reduceAdd, Int.reduceSub, Int.reduceMul, reduceCtorEq, iA, iS, iM, iD, iR, iN, lA, lS, lM, lD, lR, if_pos]
    exact hh
/-- a measure begun -/
def BeM (v w : QV) (s P m : Int) : Prop := (∀ k, 0 ≤ k → k < 10 → w (s + (4 + 6 * m)) k = bgM v (P + (9 + m)) k) ∧ (w (s + (5 + 6 * m)) 0 = 0 ∧ w (s + (5 + 6 * m)) 1 = 0 ∧ w (s + (5 + 6 * m)) 2 = 0 ∧ w (s + (5 + 6 * m)) 7 = 0) ∧ (∀ j, 0 ≤ j → j < 24 → w (s + (5 + 6 * m) + 1) j = 0 ∧ w (s + (5 + 6 * m) + 2) j = 0)
def BeR (w : QV) (s a : Int) : Prop := ∀ m, 0 ≤ m → m < 4 → w (s + (28 + 7 * a) + (3 + m)) 0 = 0 ∧ w (s + (28 + 7 * a) + (3 + m)) 1 = 0 ∧ w (s + (28 + 7 * a) + (3 + m)) 2 = 0
theorem BeM.cg {u' v' : QV} {m : Int} (h : BeM v w s P m) (hw : ∀ a k, s + (4 + 6 * m) ≤ a → a ≤ s + (9 + 6 * m) → u' a k = w a k) (hv : ∀ k, v' (P + (9 + m)) k = v (P + (9 + m)) k) : BeM v' u' s P m := by
  obtain ⟨h1, ⟨h2, h3, h4, h5⟩, h6⟩ := h
  refine ⟨fun k k0 k1 => ?_, ⟨by rw [hw _ _ (by omega) (by omega)]; exact h2, by rw [hw _ _ (by omega) (by omega)]; exact h3, by rw [hw _ _ (by omega) (by omega)]; exact h4, by rw [hw _ _ (by omega) (by omega)]; exact h5⟩, fun j j0 j1 => ?_⟩
  · rw [hw _ _ (by omega) (by omega), h1 k k0 k1]
    unfold bgM
    rw [hv, hv, hv]
  · rw [hw _ _ (by omega) (by omega), hw _ _ (by omega) (by omega)]
    exact h6 j j0 j1
theorem c_begin8 (h : LSt S v s) (hp : LPl S v P) (hPs : P + 16 < s) : wM mX8_begin [s, P] S v (fun _ w => (w s 0 = 0 ∧ w s 1 = 0) ∧ (∀ m, 0 ≤ m → m < 4 → BeM v w s P m) ∧ (∀ a, 0 ≤ a → a < 4 → BeR w s a) ∧ ∀ a k, ¬ (s ≤ a ∧ a < s + 56) → w a k = v a k) := by
  rw [mX8_begin, wM_q, sX8_begin]
  generalize hL : aL 0 [2, 2] [s, P] = L
  have l0 : L 0 = s := by rw [← hL]; rfl
  have l1 : L 1 = P := by rw [← hL]; rfl
  clear hL
  have k0 : S.1 (L 0) = 8 + 1 := by rw [l0]; exact h.k
  refine c_pI k0 ?_
  refine c_pI k0 ?_
  rw [l0]
  have kk : Kp S v (vu (vu v s 0 0) s 1 0) := (Kp.rf.vuc (by rw [h.k]; rfl)).vuc (by rw [h.k]; rfl)
  have f0 : (vu (vu v s 0 0) s 1 0) s 0 = 0 ∧ (vu (vu v s 0 0) s 1 0) s 1 = 0 := ⟨by rw [vu_ne (by simp), vu_is], vu_is⟩
  have ff : ∀ a k, a ≠ s → (vu (vu v s 0 0) s 1 0) a k = v a k := fun a k q => by rw [vu_ne (by omega), vu_ne (by omega)]
  have hS := h.keep kk
  have hP := hp.keep kk
  generalize vu (vu v s 0 0) s 1 0 = v1 at *
  rw [wS_Seq]
  refine wS_mono (Q' := fun k _ L' w => k = 0 ∧ (L' 0 = s ∧ L' 1 = P) ∧ Kp S v1 w ∧ (∀ m, 0 ≤ m → m < 4 → BeM v1 w s P m) ∧ ∀ a k, ¬ (s + 4 ≤ a ∧ a ≤ s + 27) → w a k = v1 a k) ?_ ?_
  · refine ws_step (L' := lu L 2 0) (w := v1) (by simp only [wE_I, wE_V, wE_F, wE_A, wE_N, wE_1, wE_2, wE_D, wE_B, wE_If, wE_C, wE_CV, wE_SL, wE_SA, wA_0, wA_1, wC_B, wC_E, wC_And, wC_Or, wC_Not, wS_Skip, wS_Brk, wS_Cnt, wS_RetV, wS_Ret, wS_Seq, wS_Set, wS_Inc, wS_Do, wS_Put, wS_PutC, wS_Arr, wS_ArrC, wS_If, wS_Sw, wS_F0, wS_F1, wM_q, lu_ap, aL_ap, ct_0, ct_1, ct_2, ct_3, ct_4, ct_5, headD_1, List.mem_cons, List.not_mem_nil, or_false, false_or, or_true, true_or, true_and, and_true, false_and, and_false, not_true_eq_false, not_false_eq_true, if_true, if_false, nr_20, nr_24, nr_40, nr_41, nr_44, pt_lt, pt_ge, pt_eq, pt_ne, pt_gt, pt_le, pt_E, pt_N, pt_F, ite_10, ite_11, ne_eq, and_self, or_self, decide_true, decide_false, Bool.not_true, Bool.not_false, Bool.false_eq_true, Nat.reduceEqDiff, Nat.reduceAdd, Int.reduceEq, Int.reduceLT, Int.reduceLE, Int.reduceNeg, Int.reduceAdd, Int.reduceSub, Int.reduceMul, reduceCtorEq, iA, iS, iM, iD, iR, iN, lA, lS, lM, lD, lR]) ?_
    have n0 : lu L 2 0 0 = s := by simp [lu_ap, l0]
    have n1 : lu L 2 0 1 = P := by simp [lu_ap, l1]
    have n2 : lu L 2 0 2 = 0 := by simp [lu_ap]
    generalize lu L 2 0 = L1 at *
    refine wS_For 4 (fun j L w => (L 0 = s ∧ L 1 = P ∧ L 2 = j) ∧ Kp S v1 w ∧ (∀ m, 0 ≤ m → m < (j : Int) → BeM v1 w s P m) ∧ ∀ a k, ¬ (s + 4 ≤ a ∧ a ≤ s + 27) → w a k = v1 a k) (by decide) ?_ ?_ ?_
    · exact ⟨⟨n0, n1, n2⟩, Kp.rf, fun i i0 i1 => by omega, fun _ _ _ => rfl⟩
    · rintro j L w hj ⟨⟨m0, m1, m2⟩, q1, q3, q4⟩
      have hw := hS.keep q1
      have hpw := hP.keep q1
      have lt : (j : Int) < 4 := by omega
      have o1 : 0 ≤ (j : Int) ∧ (j : Int) < 4 := by omega
      have hm := hw.m j o1.1 o1.2
      have hpm := hpw.m j o1.1 o1.2
      simp only [cX8_begin_1, bX8_begin_1, uX8_begin_1, wE_I, wE_V, wE_F, wE_A, wE_N, wE_1, wE_2, wE_D, wE_B, wE_If, wE_C, wE_CV, wE_SL, wE_SA, wA_0, wA_1, wC_B, wC_E, wC_And, wC_Or, wC_Not, wS_Skip, wS_Brk, wS_Cnt, wS_RetV, wS_Ret, wS_Seq, wS_Set, wS_Inc, wS_Do, wS_Put, wS_PutC, wS_Arr, wS_ArrC, wS_If, wS_Sw, wS_F0, wS_F1, wM_q, lu_ap, aL_ap, ct_0, ct_1, ct_2, ct_3, ct_4, ct_5, headD_1, List.mem_cons, List.not_mem_nil, or_false, false_or, or_true, true_or, true_and, and_true, false_and, and_false, not_true_eq_false, not_false_eq_true, if_true, if_false, nr_20, nr_24, nr_40, nr_41, nr_44, pt_lt, pt_ge, pt_eq, pt_ne, pt_gt, pt_le, pt_E, pt_N, pt_F, ite_10, ite_11, ne_eq, and_self, or_self, decide_true, decide_false, Bool.not_true, Bool.not_false, Bool.false_eq_true, Nat.reduceEqDiff, Nat.reduceAdd, Int.reduceEq, Int.reduceLT, Int.reduceLE, Int.reduceNeg, Int.reduceAdd, Int.reduceSub, Int.reduceMul, reduceCtorEq, iA, iS, iM, iD, iR, iN, lA, lS, lM, lD, lR, m0, m1, m2, lt, hw.k, hw.p2, hw.a1, hw.n1, o1, hw.em j o1.1 o1.2, hpw.k, hpw.p3, hpw.a1, hpw.n1, hpw.em j o1.1 o1.2, hm]
      refine wM_mono (c_begin3 hm hpm (by omega)) ?_
      rintro r1 w1 e1 ⟨g1, g2⟩
      have kw1 := (Kc.of kX3_begin e1).p
      have hw1 := hw.keep kw1
      have ho := hw1.o j o1.1 o1.2
      have ew : w32 ((j : Int) + 1) = ((j + 1 : Nat) : Int) := by rw [w32_e (by omega)]; omega
      simp only [wE_I, wE_V, wE_F, wE_A, wE_N, wE_1, wE_2, wE_D, wE_B, wE_If, wE_C, wE_CV, wE_SL, wE_SA, wA_0, wA_1, wC_B, wC_E, wC_And, wC_Or, wC_Not, wS_Skip, wS_Brk, wS_Cnt, wS_RetV, wS_Ret, wS_Seq, wS_Set, wS_Inc, wS_Do, wS_Put, wS_PutC, wS_Arr, wS_ArrC, wS_If, wS_Sw, wS_F0, wS_F1, wM_q, lu_ap, aL_ap, ct_0, ct_1, ct_2, ct_3, ct_4, ct_5, headD_1, List.mem_cons, List.not_mem_nil, or_false, false_or, or_true, true_or, true_and, and_true, false_and, and_false, not_true_eq_false, not_false_eq_true, if_true, if_false, nr_20, nr_24, nr_40, nr_41, nr_44, pt_lt, pt_ge, pt_eq, pt_ne, pt_gt, pt_le, pt_E, pt_N, pt_F, ite_10, ite_11, ne_eq, and_self, or_self, decide_true, decide_false, Bool.not_true, Bool.not_false, Bool.false_eq_true, Nat.reduceEqDiff, Nat.reduceAdd, Int.reduceEq, Int.reduceLT, Int.reduceLE, Int.reduceNeg, Int.reduceAdd, Int.reduceSub, Int.reduceMul, reduceCtorEq, m0, m2, hw1.k, hw1.p3, hw1.a2, hw1.n2, o1, hw1.eo j o1.1 o1.2, ho.k]
      refine wM_mono (c_begin4 ho) ?_
      rintro r2 w2 e2 ⟨g3, g4, g5⟩
      simp only [wE_I, wE_V, wE_F, wE_A, wE_N, wE_1, wE_2, wE_D, wE_B, wE_If, wE_C, wE_CV, wE_SL, wE_SA, wA_0, wA_1, wC_B, wC_E, wC_And, wC_Or, wC_Not, wS_Skip, wS_Brk, wS_Cnt, wS_RetV, wS_Ret, wS_Seq, wS_Set, wS_Inc, wS_Do, wS_Put, wS_PutC, wS_Arr, wS_ArrC, wS_If, wS_Sw, wS_F0, wS_F1, wM_q, lu_ap, aL_ap, ct_0, ct_1, ct_2, ct_3, ct_4, ct_5, headD_1, List.mem_cons, List.not_mem_nil, or_false, false_or, or_true, true_or, true_and, and_true, false_and, and_false, not_true_eq_false, not_false_eq_true, if_true, if_false, nr_20, nr_24, nr_40, nr_41, nr_44, pt_lt, pt_ge, pt_eq, pt_ne, pt_gt, pt_le, pt_E, pt_N, pt_F, ite_10, ite_11, ne_eq, and_self, or_self, decide_true, decide_false, Bool.not_true, Bool.not_false, Bool.false_eq_true, Nat.reduceEqDiff, Nat.reduceAdd, Int.reduceEq, Int.reduceLT, Int.reduceLE, Int.reduceNeg, Int.reduceAdd, Int.reduceSub, Int.reduceMul, reduceCtorEq, m0, m1, m2, ew]
      clear ew
      refine ⟨(q1.tr kw1).tr (Kc.of kX4_begin e2).p, fun m i0 i1 => ?_, fun a k a1 => by rw [g5 _ _ (by omega) (by omega) (by omega), g2 _ _ (by omega)]; exact q4 a k a1⟩
      by_cases e : m = (j : Int)
      · subst e
        refine ⟨fun k k0 k1 => ?_, g3, g4⟩
        rw [g5 _ _ (by omega) (by omega) (by omega), g1 k k0 k1]
        unfold bgM
        rw [q4 (P + (9 + (j : Int))) 3 (by omega), q4 (P + (9 + (j : Int))) 4 (by omega), q4 (P + (9 + (j : Int))) 5 (by omega)]
      · exact (q3 m i0 (by omega)).cg (fun a k a0 a1 => by rw [g5 _ _ (by omega) (by omega) (by omega), g2 _ _ (by omega)]) (fun _ => rfl)
    · rintro L w ⟨⟨m0, m1, m2⟩, q1, q3, q4⟩
      have nlt : ¬ (((4 : Nat)) : Int) < 4 := by decide
      simp only [cX8_begin_1, wE_I, wE_V, wE_F, wE_A, wE_N, wE_1, wE_2, wE_D, wE_B, wE_If, wE_C, wE_CV, wE_SL, wE_SA, wA_0, wA_1, wC_B, wC_E, wC_And, wC_Or, wC_Not, wS_Skip, wS_Brk, wS_Cnt, wS_RetV, wS_Ret, wS_Seq, wS_Set, wS_Inc, wS_Do, wS_Put, wS_PutC, wS_Arr, wS_ArrC, wS_If, wS_Sw, wS_F0, wS_F1, wM_q, lu_ap, aL_ap, ct_0, ct_1, ct_2, ct_3, ct_4, ct_5, headD_1, List.mem_cons, List.not_mem_nil, or_false, false_or, or_true, true_or, true_and, and_true, false_and, and_false, not_true_eq_false, not_false_eq_true, if_true, if_false, nr_20, nr_24, nr_40, nr_41, nr_44, pt_lt, pt_ge, pt_eq, pt_ne, pt_gt, pt_le, pt_E, pt_N, pt_F, ite_10, ite_11, ne_eq, and_self, or_self, decide_true, decide_false, Bool.not_true, Bool.not_false, Bool.false_eq_true, Nat.reduceEqDiff, Nat.reduceAdd, Int.reduceEq, Int.reduceLT, Int.reduceLE, Int.reduceNeg, Int.reduceAdd, Int.reduceSub, Int.reduceMul, reduceCtorEq, iA, iS, iM, iD, iR, iN, lA, lS, lM, lD, lR, m0, m1, m2, nlt]
      exact ⟨q1, fun m i0 i1 => q3 m i0 (by omega), q4⟩
  rintro k z L1 w ⟨rfl, ⟨l0, l1⟩, q1, q3, q4⟩
  rw [if_pos rfl]
  rw [wS_Seq]
  refine wS_mono (Q' := fun k _ _ w => k = 0 ∧ (w s 0 = 0 ∧ w s 1 = 0) ∧ (∀ m, 0 ≤ m → m < 4 → BeM v w s P m) ∧ (∀ a, 0 ≤ a → a < 4 → BeR w s a) ∧ ∀ a k, ¬ (s ≤ a ∧ a < s + 56) → w a k = v a k) ?_ ?_
  · have hw0 := hS.keep q1
    refine ws_step (L' := lu L1 2 0) (w := w) (by simp only [wE_I, wE_V, wE_F, wE_A, wE_N, wE_1, wE_2, wE_D, wE_B, wE_If, wE_C, wE_CV, wE_SL, wE_SA, wA_0, wA_1, wC_B, wC_E, wC_And, wC_Or, wC_Not, wS_Skip, wS_Brk, wS_Cnt, wS_RetV, wS_Ret, wS_Seq, wS_Set, wS_Inc, wS_Do, wS_Put, wS_PutC, wS_Arr, wS_ArrC, wS_If, wS_Sw, wS_F0, wS_F1, wM_q, lu_ap, aL_ap, ct_0, ct_1, ct_2, ct_3, ct_4, ct_5, headD_1, List.mem_cons, List.not_mem_nil, or_false, false_or, or_true, true_or, true_and, and_true, false_and, and_false, not_true_eq_false, not_false_eq_true, if_true, if_false, nr_20, nr_24, nr_40, nr_41, nr_44, pt_lt, pt_ge, pt_eq, pt_ne, pt_gt, pt_le, pt_E, pt_N, pt_F, ite_10, ite_11, ne_eq, and_self, or_self, decide_true, decide_false, Bool.not_true, Bool.not_false, Bool.false_eq_true, Nat.reduceEqDiff, Nat.reduceAdd, Int.reduceEq, Int.reduceLT, Int.reduceLE, Int.reduceNeg, Int.reduceAdd, Int.reduceSub, Int.reduceMul, reduceCtorEq, iA, iS, iM, iD, iR, iN, lA, lS, lM, lD, lR]) ?_
    have n0 : lu L1 2 0 0 = s := by simp [lu_ap, l0]
    have n2 : lu L1 2 0 2 = 0 := by simp [lu_ap]
    generalize lu L1 2 0 = L2 at *
    refine wS_For 4 (fun j L w' => (L 0 = s ∧ L 2 = j) ∧ Kp S w w' ∧ (∀ a, 0 ≤ a → a < (j : Int) → BeR w' s a) ∧ ∀ a k, ¬ (s + 28 ≤ a ∧ a ≤ s + 55) → w' a k = w a k) (by decide) ?_ ?_ ?_
    · exact ⟨⟨n0, n2⟩, Kp.rf, fun i i0 i1 => by omega, fun _ _ _ => rfl⟩
    · rintro j L w' hj ⟨⟨m0, m2⟩, p1, p3, p4⟩
      have hw := hw0.keep p1
      have lt : (j : Int) < 4 := by omega
      have o1 : 0 ≤ (j : Int) ∧ (j : Int) < 4 := by omega
      have hr := hw.r j o1.1 o1.2
      have ew : w32 ((j : Int) + 1) = ((j + 1 : Nat) : Int) := by rw [w32_e (by omega)]; omega
      simp only [cX8_begin_2, bX8_begin_2, uX8_begin_2, wE_I, wE_V, wE_F, wE_A, wE_N, wE_1, wE_2, wE_D, wE_B, wE_If, wE_C, wE_CV, wE_SL, wE_SA, wA_0, wA_1, wC_B, wC_E, wC_And, wC_Or, wC_Not, wS_Skip, wS_Brk, wS_Cnt, wS_RetV, wS_Ret, wS_Seq, wS_Set, wS_Inc, wS_Do, wS_Put, wS_PutC, wS_Arr, wS_ArrC, wS_If, wS_Sw, wS_F0, wS_F1, wM_q, lu_ap, aL_ap, ct_0, ct_1, ct_2, ct_3, ct_4, ct_5, headD_1, List.mem_cons, List.not_mem_nil, or_false, false_or, or_true, true_or, true_and, and_true, false_and, and_false, not_true_eq_false, not_false_eq_true, if_true, if_false, nr_20, nr_24, nr_40, nr_41, nr_44, pt_lt, pt_ge, pt_eq, pt_ne, pt_gt, pt_le, pt_E, pt_N, pt_F, ite_10, ite_11, ne_eq, and_self, or_self, decide_true, decide_false, Bool.not_true, Bool.not_false, Bool.false_eq_true, Nat.reduceEqDiff, Nat.reduceAdd, Int.reduceEq, Int.reduceLT, Int.reduceLE, Int.reduceNeg, Int.reduceAdd, Int.reduceSub, Int.reduceMul, reduceCtorEq, iA, iS, iM, iD, iR, iN, lA, lS, lM, lD, lR, m0, m2, lt, hw.k, hw.p4, hw.a3, hw.n3, o1, hw.er j o1.1 o1.2, hr.k]
      refine wM_mono (c_clearParts hr) ?_
      rintro r1 w1 e1 ⟨g1, g2⟩
      simp only [wE_I, wE_V, wE_F, wE_A, wE_N, wE_1, wE_2, wE_D, wE_B, wE_If, wE_C, wE_CV, wE_SL, wE_SA, wA_0, wA_1, wC_B, wC_E, wC_And, wC_Or, wC_Not, wS_Skip, wS_Brk, wS_Cnt, wS_RetV, wS_Ret, wS_Seq, wS_Set, wS_Inc, wS_Do, wS_Put, wS_PutC, wS_Arr, wS_ArrC, wS_If, wS_Sw, wS_F0, wS_F1, wM_q, lu_ap, aL_ap, ct_0, ct_1, ct_2, ct_3, ct_4, ct_5, headD_1, List.mem_cons, List.not_mem_nil, or_false, false_or, or_true, true_or, true_and, and_true, false_and, and_false, not_true_eq_false, not_false_eq_true, if_true, if_false, nr_20, nr_24, nr_40, nr_41, nr_44, pt_lt, pt_ge, pt_eq, pt_ne, pt_gt, pt_le, pt_E, pt_N, pt_F, ite_10, ite_11, ne_eq, and_self, or_self, decide_true, decide_false, Bool.not_true, Bool.not_false, Bool.false_eq_true, Nat.reduceEqDiff, Nat.reduceAdd, Int.reduceEq, Int.reduceLT, Int.reduceLE, Int.reduceNeg, Int.reduceAdd, Int.reduceSub, Int.reduceMul, reduceCtorEq, m0, m2, ew]
      clear ew
      refine ⟨p1.tr (Kc.of kX7_clearParts e1).p, fun a i0 i1 m z0 z1 => ?_, fun a k a1 => by rw [g2 _ _ (by omega)]; exact p4 a k a1⟩
      by_cases e : a = (j : Int)
      · subst e
        exact g1 m z0 z1
      · rw [g2 _ _ (by omega), g2 _ _ (by omega), g2 _ _ (by omega)]
        exact p3 a i0 (by omega) m z0 z1
    · rintro L w' ⟨⟨m0, m2⟩, p1, p3, p4⟩
      have nlt : ¬ (((4 : Nat)) : Int) < 4 := by decide
      simp only [cX8_begin_2, wE_I, wE_V, wE_F, wE_A, wE_N, wE_1, wE_2, wE_D, wE_B, wE_If, wE_C, wE_CV, wE_SL, wE_SA, wA_0, wA_1, wC_B, wC_E, wC_And, wC_Or, wC_Not, wS_Skip, wS_Brk, wS_Cnt, wS_RetV, wS_Ret, wS_Seq, wS_Set, wS_Inc, wS_Do, wS_Put, wS_PutC, wS_Arr, wS_ArrC, wS_If, wS_Sw, wS_F0, wS_F1, wM_q, lu_ap, aL_ap, ct_0, ct_1, ct_2, ct_3, ct_4, ct_5, headD_1, List.mem_cons, List.not_mem_nil, or_false, false_or, or_true, true_or, true_and, and_true, false_and, and_false, not_true_eq_false, not_false_eq_true, if_true, if_false, nr_20, nr_24, nr_40, nr_41, nr_44, pt_lt, pt_ge, pt_eq, pt_ne, pt_gt, pt_le, pt_E, pt_N, pt_F, ite_10, ite_11, ne_eq, and_self, or_self, decide_true, decide_false, Bool.not_true, Bool.not_false, Bool.false_eq_true, Nat.reduceEqDiff, Nat.reduceAdd, Int.reduceEq, Int.reduceLT, Int.reduceLE, Int.reduceNeg, Int.reduceAdd, Int.reduceSub, Int.reduceMul, reduceCtorEq, iA, iS, iM, iD, iR, iN, lA, lS, lM, lD, lR, m0, m2, nlt]
      refine ⟨⟨by rw [p4 _ _ (by omega), q4 _ _ (by omega)]; exact f0.1, by rw [p4 _ _ (by omega), q4 _ _ (by omega)]; exact f0.2⟩, fun m z0 z1 => (q3 m z0 z1).cg (fun a k a0 a1 => p4 _ _ (by omega)) (fun k => (ff _ _ (by omega)).symm), fun a z0 z1 => p3 a z0 (by omega), fun a k q => ?_⟩
      rw [p4 _ _ (by omega), q4 _ _ (by omega)]
      exact ff _ _ (by omega)
  · rintro k z L' w ⟨rfl, hh⟩
    simp only [wE_I, wE_V, wE_F, wE_A, wE_N, wE_1, wE_2, wE_D, wE_B, wE_If, wE_C, wE_CV, wE_SL, wE_SA, wA_0, wA_1, wC_B, wC_E, wC_And, wC_Or, wC_Not, wS_Skip, wS_Brk, wS_Cnt, wS_RetV, wS_Ret, wS_Seq, wS_Set, wS_Inc, wS_Do, wS_Put, wS_PutC, wS_Arr, wS_ArrC, wS_If, wS_Sw, wS_F0, wS_F1, wM_q, lu_ap, aL_ap, ct_0, ct_1, ct_2, ct_3, ct_4, ct_5, headD_1, List.mem_cons, List.not_mem_nil, or_false, false_or, or_true, true_or, true_and, and_true, false_and, and_false, not_true_eq_false, not_false_eq_true, if_true, if_false, nr_20, nr_24, nr_40, nr_41, nr_44, pt_lt, pt_ge, pt_eq, pt_ne, pt_gt, pt_le, pt_E, pt_N, pt_F, ite_10, ite_11, ne_eq, and_self, or_self, decide_true, decide_false, Bool.not_true, Bool.not_false, Bool.false_eq_true, Nat.reduceEqDiff, Nat.reduceAdd, Int.reduceEq, Int.reduceLT, Int.reduceLE, Int.reduceNeg, Int.reduceAdd, Int.reduceSub, Int.reduceMul, reduceCtorEq, iA, iS, iM, iD, iR, iN, lA, lS, lM, lD, lR, if_pos]
    exact hh
end BG
