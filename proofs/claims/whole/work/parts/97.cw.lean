/-! A FORECAST FOLLOWS: the class's machine -/
section CW
variable {S : QS} {v w : QV} {b M P B s : Int} {f F : Int → Int}
theorem HOo.more {v : QV} {o g N N' : Int} {f : Int → Int} (h : HOo v o f g N) (hN : N ≤ N') : HOo v o f g N' := by
  obtain ⟨o1, o2, o3, o4, o5, o6⟩ := h
  exact ⟨o1, o2, o3, ⟨o4.1, by omega, o4.2.2⟩, o5, o6⟩
theorem learnF_at {lb tb sb C p x off : Int} {g : Int → Int} (hp : 0 ≤ p ∧ p < 24) : learnF lb tb sb C p x off g (C + 0) = mixF lb (x - g (C + (4 + p))) (g (C + 0) + g (C + 1)) ∧ learnF lb tb sb C p x off g (C + 1) = mixF tb (mixF lb (x - g (C + (4 + p))) (g (C + 0) + g (C + 1)) - g (C + 0)) (g (C + 1)) ∧ (∀ j, 0 ≤ j → j < 24 → learnF lb tb sb C p x off g (C + (4 + j)) = (if j = p then mixF sb (x - mixF lb (x - g (C + (4 + p))) (g (C + 0) + g (C + 1))) (g (C + (4 + p))) else g (C + (4 + j))) ∧ learnF lb tb sb C p x off g (C + (28 + j)) = (if j = p then mixF sb off (g (C + (28 + p))) else g (C + (28 + j)))) ∧ ∀ i, i = 2 ∨ i = 3 ∨ (52 ≤ i ∧ i < 112) → learnF lb tb sb C p x off g (C + i) = g (C + i) := by
  unfold learnF
  refine ⟨?_, ?_, fun j j0 j1 => ⟨?_, ?_⟩, fun i hi => ?_⟩
  · rw [fu_ne (by omega), fu_ne (by omega), fu_ne (by omega), fu_is]
  · rw [fu_ne (by omega), fu_ne (by omega), fu_is]
  · rw [fu_ne (by omega)]
    by_cases e : j = p
    · rw [e, fu_is, if_pos rfl]
    · rw [fu_ne (by omega), fu_ne (by omega), fu_ne (by omega), if_neg e]
  · by_cases e : j = p
    · rw [e, fu_is, if_pos rfl]
    · rw [fu_ne (by omega), fu_ne (by omega), fu_ne (by omega), fu_ne (by omega), if_neg e]
  · rw [fu_ne (by omega), fu_ne (by omega), fu_ne (by omega), fu_ne (by omega)]
theorem c_follow {o p pl m x N : Int} (hO : LOu S v o) (hp : S.1 p = 3) (hpo : p < o) (hq : v p 7 = v (M + 20) (4 * B + m) ∧ v p 8 = v (M + 21) (4 * B + m) ∧ v p 9 = v (M + 22) (4 * B + m) ∧ v p 10 = v (M + 23) (4 * B + m)) (hP : PBf v M (4 * B + m)) (hpl : pl = f 1 % v (M + 19) (4 * B + m)) (hx : tv x) (h : HOo v o f (647 + 112 * m) N) (hN : N ≤ 100000) (hF : ∀ i, 0 ≤ i → i < 112 → F (647 + 112 * m + i) = followF v M B m x f (647 + 112 * m + i)) : wM mX4_follow [o, p, pl, x] S v (fun _ w => HOo w o F (647 + 112 * m) (N + 1) ∧ ∀ a k, a < o ∨ o + 4 < a → w a k = v a k) := by
  have kO := fun (u : QV) (hk : Kp S v u) => hO.keep hk
  obtain ⟨hss, hlb, htb, hsb, hbd⟩ := hP
  have p1 := Int.emod_nonneg (f 1) (show v (M + 19) (4 * B + m) ≠ 0 by omega)
  have p2 := Int.emod_lt_of_pos (f 1) (show 0 < v (M + 19) (4 * B + m) by omega)
  have hpl2 : 0 ≤ pl ∧ pl < 24 := by omega
  suffices key : wM mX4_follow [o, p, pl, x] S v (fun _ w => HOo w o (followF v M B m x f) (647 + 112 * m) (N + 1) ∧ ∀ a k, a < o ∨ o + 4 < a → w a k = v a k) from wM_mono key (fun r w e hw => ⟨hw.1.cong (fun _ _ _ _ => rfl) hF, hw.2⟩)
  clear hF
  obtain ⟨o1, o2, o3, o4, o5, o6⟩ := id h
  have nl : ¬ pl < 0 := by omega
  have ng : ¬ 24 ≤ pl := by omega
  have no1 : ¬ o + 1 = o := by omega
  have no2 : ¬ o + 2 = o := by omega
  have n12 : ¬ o + 2 = o + 1 := by omega
  have n21 : ¬ o + 1 = o + 2 := by omega
  by_cases c0 : v o 0 = 0
  · have c2 : f (647 + 112 * m + 2) = 0 := by omega
    have fe : followF v M B m x f = if x = -2147483648 then f else fu (fu f (647 + 112 * m + 2) 1) (647 + 112 * m + 0) (hd x) := by
      unfold followF
      rw [if_pos c2]
    rw [fe]
    have l0 : f (647 + 112 * m + 0) = 0 := by omega
    by_cases cx : x = -2147483648
    · rw [if_pos cx]
      have fin : HOo (vu (vu v o 0 0) o 1 0) o f (647 + 112 * m) (N + 1) := by
        refine (h.more (by omega)).upd ?_ ?_ ?_ ?_ (fun j j0 j1 => ?_) (fun k => ?_) rfl (fun _ _ _ => rfl)
        · rw [show vu (vu v o 0 0) o 1 0 o 0 = 0 by simp [vu_ap]]
          exact ⟨c2.symm, Or.inl ⟨rfl, l0⟩⟩
        · rw [vu_is]; omega
        · rw [vu_ne (by simp), vu_ne (by simp)]; exact o3
        · rw [vu_ne (by simp), vu_ne (by simp)]
        · rw [vu_ne (by omega), vu_ne (by omega), vu_ne (by omega), vu_ne (by omega)]; exact o5 j j0 j1
        · rw [vu_ne (by omega), vu_ne (by omega), vu_ne (by omega), vu_ne (by omega)]; exact ⟨rfl, rfl⟩
      simp only [mX4_follow, sX4_follow, wE_I, wE_V, wE_F, wE_A, wE_N, wE_1, wE_2, wE_D, wE_B, wE_If, wE_C, wE_CV, wE_SL, wE_SA, wA_0, wA_1, wC_B, wC_E, wC_And, wC_Or, wC_Not, wS_Skip, wS_Brk, wS_Cnt, wS_RetV, wS_Ret, wS_Seq, wS_Set, wS_Inc, wS_Do, wS_Put, wS_PutC, wS_Arr, wS_ArrC, wS_If, wS_Sw, wS_F0, wS_F1, wM_q, lu_ap, aL_ap, ct_0, ct_1, ct_2, ct_3, ct_4, ct_5, headD_1, List.mem_cons, List.not_mem_nil, or_false, false_or, or_true, true_or, true_and, and_true, false_and, and_false, not_true_eq_false, not_false_eq_true, if_true, if_false, nr_20, nr_24, nr_40, nr_41, nr_44, pt_lt, pt_ge, pt_eq, pt_ne, pt_gt, pt_le, pt_E, pt_N, pt_F, ite_10, ite_11, ne_eq, and_self, or_self, decide_true, decide_false, Bool.not_true, Bool.not_false, Bool.false_eq_true, Nat.reduceEqDiff, Nat.reduceAdd, Int.reduceEq, Int.reduceLT, Int.reduceLE, Int.reduceNeg, Int.reduceAdd, Int.reduceSub, Int.reduceMul, reduceCtorEq, iA, iS, iM, iD, iR, iN, lA, lS, lM, lD, lR, hO.k, nl, ng, c0, cx, vu_is]
      exact ⟨fin, fun a k ha => by rw [vu_ne (by omega), vu_ne (by omega)]⟩
    · rw [if_neg cx]
      have hx2 : 0 ≤ x ∧ x ≤ 999999000 := by unfold tv at hx; omega
      have eh : hd x = x := by unfold hd; rw [if_neg (by omega), if_neg (by omega)]
      rw [eh]
      have fin : HOo (vu (vu v o 0 1) o 1 x) o (fu (fu f (647 + 112 * m + 2) 1) (647 + 112 * m + 0) x) (647 + 112 * m) (N + 1) := by
        refine (h.more (by omega)).upd ?_ ?_ ?_ ?_ (fun j j0 j1 => ?_) (fun k => ?_) ?_ (fun i i0 i1 => ?_)
        · rw [show vu (vu v o 0 1) o 1 x o 0 = 1 by simp [vu_ap], fu_ne (by omega), fu_is]
          exact ⟨rfl, Or.inr rfl⟩
        · rw [vu_is, fu_is]; omega
        · rw [vu_ne (by simp), vu_ne (by simp), fu_ne (by omega), fu_ne (by omega)]; exact o3
        · rw [vu_ne (by simp), vu_ne (by simp)]
        · rw [vu_ne (by omega), vu_ne (by omega), vu_ne (by omega), vu_ne (by omega), fu_ne (by omega), fu_ne (by omega), fu_ne (by omega), fu_ne (by omega)]; exact o5 j j0 j1
        · rw [vu_ne (by omega), vu_ne (by omega), vu_ne (by omega), vu_ne (by omega)]; exact ⟨rfl, rfl⟩
        · rw [fu_ne (by omega), fu_ne (by omega)]
        · rw [fu_ne (by omega), fu_ne (by omega)]
      simp only [mX4_follow, sX4_follow, wE_I, wE_V, wE_F, wE_A, wE_N, wE_1, wE_2, wE_D, wE_B, wE_If, wE_C, wE_CV, wE_SL, wE_SA, wA_0, wA_1, wC_B, wC_E, wC_And, wC_Or, wC_Not, wS_Skip, wS_Brk, wS_Cnt, wS_RetV, wS_Ret, wS_Seq, wS_Set, wS_Inc, wS_Do, wS_Put, wS_PutC, wS_Arr, wS_ArrC, wS_If, wS_Sw, wS_F0, wS_F1, wM_q, lu_ap, aL_ap, ct_0, ct_1, ct_2, ct_3, ct_4, ct_5, headD_1, List.mem_cons, List.not_mem_nil, or_false, false_or, or_true, true_or, true_and, and_true, false_and, and_false, not_true_eq_false, not_false_eq_true, if_true, if_false, nr_20, nr_24, nr_40, nr_41, nr_44, pt_lt, pt_ge, pt_eq, pt_ne, pt_gt, pt_le, pt_E, pt_N, pt_F, ite_10, ite_11, ne_eq, and_self, or_self, decide_true, decide_false, Bool.not_true, Bool.not_false, Bool.false_eq_true, Nat.reduceEqDiff, Nat.reduceAdd, Int.reduceEq, Int.reduceLT, Int.reduceLE, Int.reduceNeg, Int.reduceAdd, Int.reduceSub, Int.reduceMul, reduceCtorEq, iA, iS, iM, iD, iR, iN, lA, lS, lM, lD, lR, hO.k, nl, ng, c0, cx, vu_is]
      exact ⟨fin, fun a k ha => by rw [vu_ne (by omega), vu_ne (by omega)]⟩
  · have c2 : ¬ f (647 + 112 * m + 2) = 0 := by omega
    have hr : RO v o := ⟨by omega, o2.2, o3.2, fun j j0 j1 => (o5 j j0 j1).1.2⟩
    have hta := q_tellAhead hO hr (show (1 : Int) ≤ 1 ∧ (1 : Int) ≤ 100 by decide) hpl2
    have ea : ahL (v o 1) (v o 2) ((1 : Int).toNat - 1) = v o 1 := rfl
    rw [ea, o2.1, o3.1, (o5 pl hpl2.1 hpl2.2).1.1] at hta
    unfold followF
    rw [if_neg c2]
    try dsimp only
    rw [← hpl]
    generalize hT : hd (f (647 + 112 * m + 0) + f (647 + 112 * m + 1) + f (647 + 112 * m + (4 + pl))) = t at *
    have tb : -2000000000 ≤ t ∧ t ≤ 2000000000 := by rw [← hT]; exact hd_in _
    clear hT
    simp only [mX4_follow, sX4_follow, wM_q]
    generalize hL : aL 0 [2, 2, 0, 0] [o, p, pl, x] = L
    have m0 : L 0 = o := by rw [← hL]; simp [lu_ap, aL_ap, ct_0, ct_1, ct_2]
    have m1 : L 1 = p := by rw [← hL]; simp [lu_ap, aL_ap, ct_0, ct_1, ct_2]
    have m2 : L 2 = pl := by rw [← hL]; simp [lu_ap, aL_ap, ct_0, ct_1, ct_2]
    have m3 : L 3 = x := by rw [← hL]; simp [lu_ap, aL_ap, ct_0, ct_1, ct_2]
    clear hL
    refine ws_step (L' := L) (w := v) (by simp only [wE_I, wE_V, wE_F, wE_A, wE_N, wE_1, wE_2, wE_D, wE_B, wE_If, wE_C, wE_CV, wE_SL, wE_SA, wA_0, wA_1, wC_B, wC_E, wC_And, wC_Or, wC_Not, wS_Skip, wS_Brk, wS_Cnt, wS_RetV, wS_Ret, wS_Seq, wS_Set, wS_Inc, wS_Do, wS_Put, wS_PutC, wS_Arr, wS_ArrC, wS_If, wS_Sw, wS_F0, wS_F1, wM_q, lu_ap, aL_ap, ct_0, ct_1, ct_2, ct_3, ct_4, ct_5, headD_1, List.mem_cons, List.not_mem_nil, or_false, false_or, or_true, true_or, true_and, and_true, false_and, and_false, not_true_eq_false, not_false_eq_true, if_true, if_false, nr_20, nr_24, nr_40, nr_41, nr_44, pt_lt, pt_ge, pt_eq, pt_ne, pt_gt, pt_le, pt_E, pt_N, pt_F, ite_10, ite_11, ne_eq, and_self, or_self, decide_true, decide_false, Bool.not_true, Bool.not_false, Bool.false_eq_true, Nat.reduceEqDiff, Nat.reduceAdd, Int.reduceEq, Int.reduceLT, Int.reduceLE, Int.reduceNeg, Int.reduceAdd, Int.reduceSub, Int.reduceMul, reduceCtorEq, iA, iS, iM, iD, iR, iN, lA, lS, lM, lD, lR, m2, nl, ng]) ?_
    refine ws_step (L' := L) (w := v) (by simp only [wE_I, wE_V, wE_F, wE_A, wE_N, wE_1, wE_2, wE_D, wE_B, wE_If, wE_C, wE_CV, wE_SL, wE_SA, wA_0, wA_1, wC_B, wC_E, wC_And, wC_Or, wC_Not, wS_Skip, wS_Brk, wS_Cnt, wS_RetV, wS_Ret, wS_Seq, wS_Set, wS_Inc, wS_Do, wS_Put, wS_PutC, wS_Arr, wS_ArrC, wS_If, wS_Sw, wS_F0, wS_F1, wM_q, lu_ap, aL_ap, ct_0, ct_1, ct_2, ct_3, ct_4, ct_5, headD_1, List.mem_cons, List.not_mem_nil, or_false, false_or, or_true, true_or, true_and, and_true, false_and, and_false, not_true_eq_false, not_false_eq_true, if_true, if_false, nr_20, nr_24, nr_40, nr_41, nr_44, pt_lt, pt_ge, pt_eq, pt_ne, pt_gt, pt_le, pt_E, pt_N, pt_F, ite_10, ite_11, ne_eq, and_self, or_self, decide_true, decide_false, Bool.not_true, Bool.not_false, Bool.false_eq_true, Nat.reduceEqDiff, Nat.reduceAdd, Int.reduceEq, Int.reduceLT, Int.reduceLE, Int.reduceNeg, Int.reduceAdd, Int.reduceSub, Int.reduceMul, reduceCtorEq, iA, iS, iM, iD, iR, iN, lA, lS, lM, lD, lR, m0, hO.k, c0]) ?_
    refine ws_step (L' := lu L 4 t) (w := v) (by simp only [wE_I, wE_V, wE_F, wE_A, wE_N, wE_1, wE_2, wE_D, wE_B, wE_If, wE_C, wE_CV, wE_SL, wE_SA, wA_0, wA_1, wC_B, wC_E, wC_And, wC_Or, wC_Not, wS_Skip, wS_Brk, wS_Cnt, wS_RetV, wS_Ret, wS_Seq, wS_Set, wS_Inc, wS_Do, wS_Put, wS_PutC, wS_Arr, wS_ArrC, wS_If, wS_Sw, wS_F0, wS_F1, wM_q, lu_ap, aL_ap, ct_0, ct_1, ct_2, ct_3, ct_4, ct_5, headD_1, List.mem_cons, List.not_mem_nil, or_false, false_or, or_true, true_or, true_and, and_true, false_and, and_false, not_true_eq_false, not_false_eq_true, if_true, if_false, nr_20, nr_24, nr_40, nr_41, nr_44, pt_lt, pt_ge, pt_eq, pt_ne, pt_gt, pt_le, pt_E, pt_N, pt_F, ite_10, ite_11, ne_eq, and_self, or_self, decide_true, decide_false, Bool.not_true, Bool.not_false, Bool.false_eq_true, Nat.reduceEqDiff, Nat.reduceAdd, Int.reduceEq, Int.reduceLT, Int.reduceLE, Int.reduceNeg, Int.reduceAdd, Int.reduceSub, Int.reduceMul, reduceCtorEq, iA, iS, iM, iD, iR, iN, lA, lS, lM, lD, lR, m0, m2, hO.k, wM_of hta]) ?_
    generalize hL4 : lu L 4 t = L4
    have n0 : L4 0 = o := by rw [← hL4]; simp [lu_ap, m0]
    have n1 : L4 1 = p := by rw [← hL4]; simp [lu_ap, m1]
    have n2 : L4 2 = pl := by rw [← hL4]; simp [lu_ap, m2]
    have n3 : L4 3 = x := by rw [← hL4]; simp [lu_ap, m3]
    have n4 : L4 4 = t := by rw [← hL4]; simp [lu_ap]
    clear hL4
    have kp := fun z hz => q_keep (S := S) (v := v) (t := t) (z := z) hO (show 0 ≤ v o 7 ∧ v o 7 ≤ 200000 by omega) hz
    have hk := fun z hz => h.kp (t := t) (z := z) tb hz
    have kf : ∀ z, ∀ a k, a < o ∨ o + 4 < a → vu (vu (vu v (o + 3) (v o 7 % 30) t) (o + 4) (v o 7 % 30) z) o 7 (v o 7 + 1) a k = v a k := fun z a k ha => by rw [vu_ne (by omega), vu_ne (by omega), vu_ne (by omega)]
    have kk : ∀ z hz, LOu S (vu (vu (vu v (o + 3) (v o 7 % 30) t) (o + 4) (v o 7 % 30) z) o 7 (v o 7 + 1)) o := fun z hz => hO.keep ((Kc.of kX4_keep (kp z hz)).p)
    have klo : ∀ z, ∀ k, k < 647 + 112 * m + 52 → k ≠ 647 + 112 * m + 3 → keepF (647 + 112 * m) t z f k = f k := fun z k q q3 => keepF_lo (Or.inl q) q3
    have ke : ∀ z, ∀ a k, a ≠ o + 3 → a ≠ o + 4 → (a = o → k ≠ 7) → vu (vu (vu v (o + 3) (v o 7 % 30) t) (o + 4) (v o 7 % 30) z) o 7 (v o 7 + 1) a k = v a k := fun z a k h3 h4 h7 => by
      rw [vu_ne (fun e => h7 e.1 e.2), vu_ne (fun e => h4 e.1), vu_ne (fun e => h3 e.1)]
    by_cases cx : x = -2147483648
    · rw [if_pos cx]
      have z0 : (if (¬ x = -2147483648 ∧ 0 < f (647 + 112 * m + (28 + pl))) ∧ v (M + 23) (4 * B + m) * f (647 + 112 * m + (28 + pl)) < (if t < x then x - t else t - x) then (1 : Int) else 0) = 0 := if_neg (fun q => q.1.1 cx)
      rw [z0]
      have c01 : vu (vu (vu v (o + 3) (v o 7 % 30) t) (o + 4) (v o 7 % 30) 0) o 7 (v o 7 + 1) o 0 = 1 := by
        rw [ke 0 o 0 (by omega) (by omega) (fun _ => by decide)]; omega
      have hk0 := hk 0 (Or.inl rfl)
      have kk0 := kk 0 (Or.inl rfl)
      have kp0 := kp 0 (Or.inl rfl)
      have kf0 := kf 0
      have klo0 := klo 0
      have g1 := klo0 (647 + 112 * m + 1) (by omega) (by omega)
      generalize vu (vu (vu v (o + 3) (v o 7 % 30) t) (o + 4) (v o 7 % 30) 0) o 7 (v o 7 + 1) = w1 at *
      generalize keepF (647 + 112 * m) t 0 f = g at *
      obtain ⟨k1, k2, k3, k4, k5, k6⟩ := id hk0
      have ia : w64 (g (647 + 112 * m + 0) + g (647 + 112 * m + 1)) = g (647 + 112 * m + 0) + g (647 + 112 * m + 1) := w64_e (by omega)
      simp only [wE_I, wE_V, wE_F, wE_A, wE_N, wE_1, wE_2, wE_D, wE_B, wE_If, wE_C, wE_CV, wE_SL, wE_SA, wA_0, wA_1, wC_B, wC_E, wC_And, wC_Or, wC_Not, wS_Skip, wS_Brk, wS_Cnt, wS_RetV, wS_Ret, wS_Seq, wS_Set, wS_Inc, wS_Do, wS_Put, wS_PutC, wS_Arr, wS_ArrC, wS_If, wS_Sw, wS_F0, wS_F1, wM_q, lu_ap, aL_ap, ct_0, ct_1, ct_2, ct_3, ct_4, ct_5, headD_1, List.mem_cons, List.not_mem_nil, or_false, false_or, or_true, true_or, true_and, and_true, false_and, and_false, not_true_eq_false, not_false_eq_true, if_true, if_false, nr_20, nr_24, nr_40, nr_41, nr_44, pt_lt, pt_ge, pt_eq, pt_ne, pt_gt, pt_le, pt_E, pt_N, pt_F, ite_10, ite_11, ne_eq, and_self, or_self, decide_true, decide_false, Bool.not_true, Bool.not_false, Bool.false_eq_true, Nat.reduceEqDiff, Nat.reduceAdd, Int.reduceEq, Int.reduceLT, Int.reduceLE, Int.reduceNeg, Int.reduceAdd, Int.reduceSub, Int.reduceMul, reduceCtorEq, iA, iS, iM, iD, iR, iN, lA, lS, lM, lD, lR, hO.k, kk0.k, n0, n1, n2, n3, n4, cx, wM_of kp0, k2.1, k3.1, ia, wM_of q_held]
      have hb := hd_in (g (647 + 112 * m + 0) + g (647 + 112 * m + 1))
      generalize hd (g (647 + 112 * m + 0) + g (647 + 112 * m + 1)) = y at *
      refine ⟨hk0.upd ?_ ?_ ?_ ?_ (fun j j0 j1 => ?_) (fun k => ?_) ?_ (fun i i0 i1 => ?_), fun a k ha => by rw [vu_ne (by omega)]; exact kf0 a k ha⟩
      · rw [vu_ne (by simp), c01, fu_ne (by omega), ← k1.1, c01]; exact ⟨rfl, Or.inr rfl⟩
      · rw [vu_is, fu_is]; exact ⟨rfl, hb⟩
      · rw [vu_ne (by simp), fu_ne (by omega)]; exact k3
      · rw [vu_ne (by simp)]
      · rw [vu_ne (by omega), vu_ne (by omega), fu_ne (by omega), fu_ne (by omega)]; exact k5 j j0 j1
      · rw [vu_ne (by omega), vu_ne (by omega)]; exact ⟨rfl, rfl⟩
      · rw [fu_ne (by omega)]
      · rw [fu_ne (by omega)]
    · rw [if_neg cx]
      have hx2 : 0 ≤ x ∧ x ≤ 999999000 := by unfold tv at hx; omega
      have hoff : lAbs (w64 (x - t)) = if t < x then x - t else t - x := by
        have i1 : w64 (x - t) = x - t := w64_e (by omega)
        have i2 : w64 (-(x - t)) = -(x - t) := by clear i1; exact w64_e (by omega)
        rw [i1]
        unfold lAbs
        rw [i2]
        clear i1 i2
        split <;> split <;> omega
      have ob : 0 ≤ (if t < x then x - t else t - x) ∧ (if t < x then x - t else t - x) ≤ 4000000000 := by split <;> omega
      refine ws_step (L' := L4) (w := v) (by simp only [wE_I, wE_V, wE_F, wE_A, wE_N, wE_1, wE_2, wE_D, wE_B, wE_If, wE_C, wE_CV, wE_SL, wE_SA, wA_0, wA_1, wC_B, wC_E, wC_And, wC_Or, wC_Not, wS_Skip, wS_Brk, wS_Cnt, wS_RetV, wS_Ret, wS_Seq, wS_Set, wS_Inc, wS_Do, wS_Put, wS_PutC, wS_Arr, wS_ArrC, wS_If, wS_Sw, wS_F0, wS_F1, wM_q, lu_ap, aL_ap, ct_0, ct_1, ct_2, ct_3, ct_4, ct_5, headD_1, List.mem_cons, List.not_mem_nil, or_false, false_or, or_true, true_or, true_and, and_true, false_and, and_false, not_true_eq_false, not_false_eq_true, if_true, if_false, nr_20, nr_24, nr_40, nr_41, nr_44, pt_lt, pt_ge, pt_eq, pt_ne, pt_gt, pt_le, pt_E, pt_N, pt_F, ite_10, ite_11, ne_eq, and_self, or_self, decide_true, decide_false, Bool.not_true, Bool.not_false, Bool.false_eq_true, Nat.reduceEqDiff, Nat.reduceAdd, Int.reduceEq, Int.reduceLT, Int.reduceLE, Int.reduceNeg, Int.reduceAdd, Int.reduceSub, Int.reduceMul, reduceCtorEq, iA, iS, iM, iD, iR, iN, lA, lS, lM, lD, lR, n3, cx]) ?_
      refine ws_step (L' := lu L4 5 (if t < x then x - t else t - x)) (w := v) (by simp only [wE_I, wE_V, wE_F, wE_A, wE_N, wE_1, wE_2, wE_D, wE_B, wE_If, wE_C, wE_CV, wE_SL, wE_SA, wA_0, wA_1, wC_B, wC_E, wC_And, wC_Or, wC_Not, wS_Skip, wS_Brk, wS_Cnt, wS_RetV, wS_Ret, wS_Seq, wS_Set, wS_Inc, wS_Do, wS_Put, wS_PutC, wS_Arr, wS_ArrC, wS_If, wS_Sw, wS_F0, wS_F1, wM_q, lu_ap, aL_ap, ct_0, ct_1, ct_2, ct_3, ct_4, ct_5, headD_1, List.mem_cons, List.not_mem_nil, or_false, false_or, or_true, true_or, true_and, and_true, false_and, and_false, not_true_eq_false, not_false_eq_true, if_true, if_false, nr_20, nr_24, nr_40, nr_41, nr_44, pt_lt, pt_ge, pt_eq, pt_ne, pt_gt, pt_le, pt_E, pt_N, pt_F, ite_10, ite_11, ne_eq, and_self, or_self, decide_true, decide_false, Bool.not_true, Bool.not_false, Bool.false_eq_true, Nat.reduceEqDiff, Nat.reduceAdd, Int.reduceEq, Int.reduceLT, Int.reduceLE, Int.reduceNeg, Int.reduceAdd, Int.reduceSub, Int.reduceMul, reduceCtorEq, iA, iS, iM, iD, iR, iN, lA, lS, lM, lD, lR, n3, n4, hoff]) ?_
      clear hoff
      generalize (if t < x then x - t else t - x) = off at *
      generalize hL5 : lu L4 5 off = L5
      have q0 : L5 0 = o := by rw [← hL5]; simp [lu_ap, n0]
      have q1 : L5 1 = p := by rw [← hL5]; simp [lu_ap, n1]
      have q2 : L5 2 = pl := by rw [← hL5]; simp [lu_ap, n2]
      have q3 : L5 3 = x := by rw [← hL5]; simp [lu_ap, n3]
      have q4 : L5 4 = t := by rw [← hL5]; simp [lu_ap, n4]
      have q5 : L5 5 = off := by rw [← hL5]; simp [lu_ap]
      clear hL5
      have hsp := (o5 pl hpl2.1 hpl2.2).2
      have bs1 := Int.mul_le_mul hbd.2 (show f (647 + 112 * m + (28 + pl)) ≤ 2000000000 by omega) (show 0 ≤ f (647 + 112 * m + (28 + pl)) by omega) (by omega)
      have bs2 : 0 ≤ v (M + 23) (4 * B + m) * f (647 + 112 * m + (28 + pl)) := Int.mul_nonneg (by omega) (by omega)
      have ib : w64 (v (M + 23) (4 * B + m) * f (647 + 112 * m + (28 + pl))) = v (M + 23) (4 * B + m) * f (647 + 112 * m + (28 + pl)) := w64_e (by omega)
      have hz : ∃ z : Int, (z = 0 ∨ z = 1) ∧ (if (¬ x = -2147483648 ∧ 0 < f (647 + 112 * m + (28 + pl))) ∧ v (M + 23) (4 * B + m) * f (647 + 112 * m + (28 + pl)) < off then (1 : Int) else 0) = z ∧ wS (sDo (eCallV 4 mX4_keep [(eV 0), (eV 4), (eB (cAnd (cB qgt (eA 20 (eF 4 4 (eV 0)) (eV 2)) (eI 0)) (cB qgt (eV 5) (e2 lM (eF 2 10 (eV 1)) (eA 20 (eF 4 4 (eV 0)) (eV 2))))))])) L5 S v (fun k _ M u => k = 0 ∧ M = L5 ∧ u = vu (vu (vu v (o + 3) (v o 7 % 30) t) (o + 4) (v o 7 % 30) z) o 7 (v o 7 + 1)) := by
        by_cases c1 : 0 < f (647 + 112 * m + (28 + pl))
        · by_cases c3 : v (M + 23) (4 * B + m) * f (647 + 112 * m + (28 + pl)) < off
          · refine ⟨1, Or.inr rfl, if_pos ⟨⟨cx, c1⟩, c3⟩, ?_⟩
            simp only [wE_I, wE_V, wE_F, wE_A, wE_N, wE_1, wE_2, wE_D, wE_B, wE_If, wE_C, wE_CV, wE_SL, wE_SA, wA_0, wA_1, wC_B, wC_E, wC_And, wC_Or, wC_Not, wS_Skip, wS_Brk, wS_Cnt, wS_RetV, wS_Ret, wS_Seq, wS_Set, wS_Inc, wS_Do, wS_Put, wS_PutC, wS_Arr, wS_ArrC, wS_If, wS_Sw, wS_F0, wS_F1, wM_q, lu_ap, aL_ap, ct_0, ct_1, ct_2, ct_3, ct_4, ct_5, headD_1, List.mem_cons, List.not_mem_nil, or_false, false_or, or_true, true_or, true_and, and_true, false_and, and_false, not_true_eq_false, not_false_eq_true, if_true, if_false, nr_20, nr_24, nr_40, nr_41, nr_44, pt_lt, pt_ge, pt_eq, pt_ne, pt_gt, pt_le, pt_E, pt_N, pt_F, ite_10, ite_11, ne_eq, and_self, or_self, decide_true, decide_false, Bool.not_true, Bool.not_false, Bool.false_eq_true, Nat.reduceEqDiff, Nat.reduceAdd, Int.reduceEq, Int.reduceLT, Int.reduceLE, Int.reduceNeg, Int.reduceAdd, Int.reduceSub, Int.reduceMul, reduceCtorEq, iA, iS, iM, iD, iR, iN, lA, lS, lM, lD, lR, q0, q1, q2, q4, q5, hO.k, hp, hO.p4, hO.a2, hO.n2, hpl2, hsp.1, hq.2.2.2, ib, c1, c3, wM_of (kp 1 (Or.inr rfl))]
          · refine ⟨0, Or.inl rfl, if_neg (fun z => c3 z.2), ?_⟩
            simp only [wE_I, wE_V, wE_F, wE_A, wE_N, wE_1, wE_2, wE_D, wE_B, wE_If, wE_C, wE_CV, wE_SL, wE_SA, wA_0, wA_1, wC_B, wC_E, wC_And, wC_Or, wC_Not, wS_Skip, wS_Brk, wS_Cnt, wS_RetV, wS_Ret, wS_Seq, wS_Set, wS_Inc, wS_Do, wS_Put, wS_PutC, wS_Arr, wS_ArrC, wS_If, wS_Sw, wS_F0, wS_F1, wM_q, lu_ap, aL_ap, ct_0, ct_1, ct_2, ct_3, ct_4, ct_5, headD_1, List.mem_cons, List.not_mem_nil, or_false, false_or, or_true, true_or, true_and, and_true, false_and, and_false, not_true_eq_false, not_false_eq_true, if_true, if_false, nr_20, nr_24, nr_40, nr_41, nr_44, pt_lt, pt_ge, pt_eq, pt_ne, pt_gt, pt_le, pt_E, pt_N, pt_F, ite_10, ite_11, ne_eq, and_self, or_self, decide_true, decide_false, Bool.not_true, Bool.not_false, Bool.false_eq_true, Nat.reduceEqDiff, Nat.reduceAdd, Int.reduceEq, Int.reduceLT, Int.reduceLE, Int.reduceNeg, Int.reduceAdd, Int.reduceSub, Int.reduceMul, reduceCtorEq, iA, iS, iM, iD, iR, iN, lA, lS, lM, lD, lR, q0, q1, q2, q4, q5, hO.k, hp, hO.p4, hO.a2, hO.n2, hpl2, hsp.1, hq.2.2.2, ib, c1, c3, wM_of (kp 0 (Or.inl rfl))]
        · refine ⟨0, Or.inl rfl, if_neg (fun z => c1 z.1.2), ?_⟩
          simp only [wE_I, wE_V, wE_F, wE_A, wE_N, wE_1, wE_2, wE_D, wE_B, wE_If, wE_C, wE_CV, wE_SL, wE_SA, wA_0, wA_1, wC_B, wC_E, wC_And, wC_Or, wC_Not, wS_Skip, wS_Brk, wS_Cnt, wS_RetV, wS_Ret, wS_Seq, wS_Set, wS_Inc, wS_Do, wS_Put, wS_PutC, wS_Arr, wS_ArrC, wS_If, wS_Sw, wS_F0, wS_F1, wM_q, lu_ap, aL_ap, ct_0, ct_1, ct_2, ct_3, ct_4, ct_5, headD_1, List.mem_cons, List.not_mem_nil, or_false, false_or, or_true, true_or, true_and, and_true, false_and, and_false, not_true_eq_false, not_false_eq_true, if_true, if_false, nr_20, nr_24, nr_40, nr_41, nr_44, pt_lt, pt_ge, pt_eq, pt_ne, pt_gt, pt_le, pt_E, pt_N, pt_F, ite_10, ite_11, ne_eq, and_self, or_self, decide_true, decide_false, Bool.not_true, Bool.not_false, Bool.false_eq_true, Nat.reduceEqDiff, Nat.reduceAdd, Int.reduceEq, Int.reduceLT, Int.reduceLE, Int.reduceNeg, Int.reduceAdd, Int.reduceSub, Int.reduceMul, reduceCtorEq, iA, iS, iM, iD, iR, iN, lA, lS, lM, lD, lR, q0, q1, q2, q4, q5, hO.k, hp, hO.p4, hO.a2, hO.n2, hpl2, hsp.1, hq.2.2.2, ib, c1, wM_of (kp 0 (Or.inl rfl))]
      clear ib bs1 bs2
      obtain ⟨z, hz1, hz2, hz3⟩ := hz
      rw [hz2]
      clear hz2
      refine ws_step hz3 ?_
      clear hz3 kp
      have c01 : vu (vu (vu v (o + 3) (v o 7 % 30) t) (o + 4) (v o 7 % 30) z) o 7 (v o 7 + 1) o 0 = 1 := by
        rw [ke z o 0 (by omega) (by omega) (fun _ => by decide)]; omega
      have hk0 := hk z hz1
      have kk0 := kk z hz1
      have kf0 := kf z
      have kep : ∀ k, vu (vu (vu v (o + 3) (v o 7 % 30) t) (o + 4) (v o 7 % 30) z) o 7 (v o 7 + 1) p k = v p k := fun k => kf z p k (Or.inl hpo)
      clear hk kk kf ke klo
      generalize vu (vu (vu v (o + 3) (v o 7 % 30) t) (o + 4) (v o 7 % 30) z) o 7 (v o 7 + 1) = w1 at *
      generalize keepF (647 + 112 * m) t z f = g at *
      obtain ⟨k1, k2, k3, k4, k5, k6⟩ := id hk0
      have kpl := k5 pl hpl2.1 hpl2.2
      obtain ⟨a0, a1, aj, ai⟩ := learnF_at (lb := v (M + 20) (4 * B + m)) (tb := v (M + 21) (4 * B + m)) (sb := v (M + 22) (4 * B + m)) (C := 647 + 112 * m) (p := pl) (x := x) (off := off) (g := g) hpl2
      have mm1 := fun u : QV => q_mixed (S := S) (v := u) (z := v (M + 20) (4 * B + m)) (x := x - g (647 + 112 * m + (4 + pl))) (y := g (647 + 112 * m + 0) + g (647 + 112 * m + 1)) hlb (by omega) (by omega)
      have lvb := mixF_b (v (M + 20) (4 * B + m)) (x - g (647 + 112 * m + (4 + pl))) (g (647 + 112 * m + 0) + g (647 + 112 * m + 1))
      have i3 : w64 (x - g (647 + 112 * m + (4 + pl))) = x - g (647 + 112 * m + (4 + pl)) := w64_e (by omega)
      have i4 : w64 (g (647 + 112 * m + 0) + g (647 + 112 * m + 1)) = g (647 + 112 * m + 0) + g (647 + 112 * m + 1) := by clear i3; exact w64_e (by omega)
      refine ws_step (L' := lu L5 7 (mixF (v (M + 20) (4 * B + m)) (x - g (647 + 112 * m + (4 + pl))) (g (647 + 112 * m + 0) + g (647 + 112 * m + 1)))) (w := w1) (by simp only [wE_I, wE_V, wE_F, wE_A, wE_N, wE_1, wE_2, wE_D, wE_B, wE_If, wE_C, wE_CV, wE_SL, wE_SA, wA_0, wA_1, wC_B, wC_E, wC_And, wC_Or, wC_Not, wS_Skip, wS_Brk, wS_Cnt, wS_RetV, wS_Ret, wS_Seq, wS_Set, wS_Inc, wS_Do, wS_Put, wS_PutC, wS_Arr, wS_ArrC, wS_If, wS_Sw, wS_F0, wS_F1, wM_q, lu_ap, aL_ap, ct_0, ct_1, ct_2, ct_3, ct_4, ct_5, headD_1, List.mem_cons, List.not_mem_nil, or_false, false_or, or_true, true_or, true_and, and_true, false_and, and_false, not_true_eq_false, not_false_eq_true, if_true, if_false, nr_20, nr_24, nr_40, nr_41, nr_44, pt_lt, pt_ge, pt_eq, pt_ne, pt_gt, pt_le, pt_E, pt_N, pt_F, ite_10, ite_11, ne_eq, and_self, or_self, decide_true, decide_false, Bool.not_true, Bool.not_false, Bool.false_eq_true, Nat.reduceEqDiff, Nat.reduceAdd, Int.reduceEq, Int.reduceLT, Int.reduceLE, Int.reduceNeg, Int.reduceAdd, Int.reduceSub, Int.reduceMul, reduceCtorEq, iA, iS, iM, iD, iR, iN, lA, lS, lM, lD, lR, q0, q1, q2, q3, kk0.k, hp, kep, hq.1, kk0.p3, kk0.a1, kk0.n1, hpl2, kpl.1.1, k2.1, k3.1, i3, i4, wM_of (mm1 _)]) ?_
      clear i3 i4 mm1
      generalize learnF (v (M + 20) (4 * B + m)) (v (M + 21) (4 * B + m)) (v (M + 22) (4 * B + m)) (647 + 112 * m) pl x off g = G at *
      generalize mixF (v (M + 20) (4 * B + m)) (x - g (647 + 112 * m + (4 + pl))) (g (647 + 112 * m + 0) + g (647 + 112 * m + 1)) = lv at *
      have mm2 := fun u : QV => q_mixed (S := S) (v := u) (z := v (M + 21) (4 * B + m)) (x := lv - g (647 + 112 * m + 0)) (y := g (647 + 112 * m + 1)) htb (by omega) (by omega)
      have mm3 := fun u : QV => q_mixed (S := S) (v := u) (z := v (M + 22) (4 * B + m)) (x := x - lv) (y := g (647 + 112 * m + (4 + pl))) hsb (by omega) (by omega)
      have mm4 := fun u : QV => q_mixed (S := S) (v := u) (z := v (M + 22) (4 * B + m)) (x := off) (y := g (647 + 112 * m + (28 + pl))) hsb (by omega) (by omega)
      have i5 : w64 (lv - g (647 + 112 * m + 0)) = lv - g (647 + 112 * m + 0) := w64_e (by omega)
      have i6 : w64 (x - lv) = x - lv := by clear i5; exact w64_e (by omega)
      have b2 := mixF_b (v (M + 21) (4 * B + m)) (lv - g (647 + 112 * m + 0)) (g (647 + 112 * m + 1))
      have b3 := mixF_b (v (M + 22) (4 * B + m)) (x - lv) (g (647 + 112 * m + (4 + pl)))
      have b4 := mixF_b (v (M + 22) (4 * B + m)) off (g (647 + 112 * m + (28 + pl)))
      have b5 := mixF_n (z := v (M + 22) (4 * B + m)) (x := off) (y := g (647 + 112 * m + (28 + pl))) hsb ob.1 (by clear i5 i6; omega)
      generalize hL7 : lu L5 7 lv = L7
      have r0 : L7 0 = o := by rw [← hL7]; simp [lu_ap, q0]
      have r1 : L7 1 = p := by rw [← hL7]; simp [lu_ap, q1]
      have r2 : L7 2 = pl := by rw [← hL7]; simp [lu_ap, q2]
      have r3 : L7 3 = x := by rw [← hL7]; simp [lu_ap, q3]
      have r5 : L7 5 = off := by rw [← hL7]; simp [lu_ap, q5]
      have r7 : L7 7 = lv := by rw [← hL7]; simp [lu_ap]
      clear hL7
      refine ws_step (L' := L7) (w := vu w1 o 2 (mixF (v (M + 21) (4 * B + m)) (lv - g (647 + 112 * m + 0)) (g (647 + 112 * m + 1)))) (by simp only [wE_I, wE_V, wE_F, wE_A, wE_N, wE_1, wE_2, wE_D, wE_B, wE_If, wE_C, wE_CV, wE_SL, wE_SA, wA_0, wA_1, wC_B, wC_E, wC_And, wC_Or, wC_Not, wS_Skip, wS_Brk, wS_Cnt, wS_RetV, wS_Ret, wS_Seq, wS_Set, wS_Inc, wS_Do, wS_Put, wS_PutC, wS_Arr, wS_ArrC, wS_If, wS_Sw, wS_F0, wS_F1, wM_q, lu_ap, aL_ap, ct_0, ct_1, ct_2, ct_3, ct_4, ct_5, headD_1, List.mem_cons, List.not_mem_nil, or_false, false_or, or_true, true_or, true_and, and_true, false_and, and_false, not_true_eq_false, not_false_eq_true, if_true, if_false, nr_20, nr_24, nr_40, nr_41, nr_44, pt_lt, pt_ge, pt_eq, pt_ne, pt_gt, pt_le, pt_E, pt_N, pt_F, ite_10, ite_11, ne_eq, and_self, or_self, decide_true, decide_false, Bool.not_true, Bool.not_false, Bool.false_eq_true, Nat.reduceEqDiff, Nat.reduceAdd, Int.reduceEq, Int.reduceLT, Int.reduceLE, Int.reduceNeg, Int.reduceAdd, Int.reduceSub, Int.reduceMul, reduceCtorEq, iA, iS, iM, iD, iR, iN, lA, lS, lM, lD, lR, r0, r1, r7, kk0.k, hp, kep, hq.2.1, k2.1, k3.1, i5, wM_of (mm2 _)]) ?_
      clear mm2 i5
      generalize mixF (v (M + 21) (4 * B + m)) (lv - g (647 + 112 * m + 0)) (g (647 + 112 * m + 1)) = tr at *
      refine ws_step (L' := L7) (w := vu (vu w1 o 2 tr) o 1 lv) (by simp only [wE_I, wE_V, wE_F, wE_A, wE_N, wE_1, wE_2, wE_D, wE_B, wE_If, wE_C, wE_CV, wE_SL, wE_SA, wA_0, wA_1, wC_B, wC_E, wC_And, wC_Or, wC_Not, wS_Skip, wS_Brk, wS_Cnt, wS_RetV, wS_Ret, wS_Seq, wS_Set, wS_Inc, wS_Do, wS_Put, wS_PutC, wS_Arr, wS_ArrC, wS_If, wS_Sw, wS_F0, wS_F1, wM_q, lu_ap, aL_ap, ct_0, ct_1, ct_2, ct_3, ct_4, ct_5, headD_1, List.mem_cons, List.not_mem_nil, or_false, false_or, or_true, true_or, true_and, and_true, false_and, and_false, not_true_eq_false, not_false_eq_true, if_true, if_false, nr_20, nr_24, nr_40, nr_41, nr_44, pt_lt, pt_ge, pt_eq, pt_ne, pt_gt, pt_le, pt_E, pt_N, pt_F, ite_10, ite_11, ne_eq, and_self, or_self, decide_true, decide_false, Bool.not_true, Bool.not_false, Bool.false_eq_true, Nat.reduceEqDiff, Nat.reduceAdd, Int.reduceEq, Int.reduceLT, Int.reduceLE, Int.reduceNeg, Int.reduceAdd, Int.reduceSub, Int.reduceMul, reduceCtorEq, iA, iS, iM, iD, iR, iN, lA, lS, lM, lD, lR, r0, r7, kk0.k]) ?_
      have u3 : vu (vu w1 o 2 tr) o 1 lv o 3 = o + 1 := by rw [vu_ne (by simp), vu_ne (by simp)]; exact kk0.p3
      have u4 : vu (vu w1 o 2 tr) o 1 lv o 4 = o + 2 := by rw [vu_ne (by simp), vu_ne (by simp)]; exact kk0.p4
      have us : vu (vu w1 o 2 tr) o 1 lv (o + 1) pl = g (647 + 112 * m + (4 + pl)) := by rw [vu_ne (by clear i6; omega), vu_ne (by clear i6; omega)]; exact kpl.1.1
      have ut : vu (vu w1 o 2 tr) o 1 lv (o + 2) pl = g (647 + 112 * m + (28 + pl)) := by rw [vu_ne (by clear i6; omega), vu_ne (by clear i6; omega)]; exact kpl.2.1
      have up : ∀ k, vu (vu w1 o 2 tr) o 1 lv p k = v p k := fun k => by rw [vu_ne (by clear i6; omega), vu_ne (by clear i6; omega)]; exact kep k
      refine ws_step (L' := L7) (w := vu (vu (vu w1 o 2 tr) o 1 lv) (o + 1) pl (mixF (v (M + 22) (4 * B + m)) (x - lv) (g (647 + 112 * m + (4 + pl))))) (by simp only [wE_I, wE_V, wE_F, wE_A, wE_N, wE_1, wE_2, wE_D, wE_B, wE_If, wE_C, wE_CV, wE_SL, wE_SA, wA_0, wA_1, wC_B, wC_E, wC_And, wC_Or, wC_Not, wS_Skip, wS_Brk, wS_Cnt, wS_RetV, wS_Ret, wS_Seq, wS_Set, wS_Inc, wS_Do, wS_Put, wS_PutC, wS_Arr, wS_ArrC, wS_If, wS_Sw, wS_F0, wS_F1, wM_q, lu_ap, aL_ap, ct_0, ct_1, ct_2, ct_3, ct_4, ct_5, headD_1, List.mem_cons, List.not_mem_nil, or_false, false_or, or_true, true_or, true_and, and_true, false_and, and_false, not_true_eq_false, not_false_eq_true, if_true, if_false, nr_20, nr_24, nr_40, nr_41, nr_44, pt_lt, pt_ge, pt_eq, pt_ne, pt_gt, pt_le, pt_E, pt_N, pt_F, ite_10, ite_11, ne_eq, and_self, or_self, decide_true, decide_false, Bool.not_true, Bool.not_false, Bool.false_eq_true, Nat.reduceEqDiff, Nat.reduceAdd, Int.reduceEq, Int.reduceLT, Int.reduceLE, Int.reduceNeg, Int.reduceAdd, Int.reduceSub, Int.reduceMul, reduceCtorEq, iA, iS, iM, iD, iR, iN, lA, lS, lM, lD, lR, r0, r1, r2, r3, r7, kk0.k, hp, up, hq.2.2.1, u3, kk0.a1, kk0.n1, hpl2, us, i6, wM_of (mm3 _)]) ?_
      clear mm3 i6
      generalize mixF (v (M + 22) (4 * B + m)) (x - lv) (g (647 + 112 * m + (4 + pl))) = sw at *
      have x4 : vu (vu (vu w1 o 2 tr) o 1 lv) (o + 1) pl sw o 4 = o + 2 := by rw [vu_ne (by omega)]; exact u4
      have xt : vu (vu (vu w1 o 2 tr) o 1 lv) (o + 1) pl sw (o + 2) pl = g (647 + 112 * m + (28 + pl)) := by rw [vu_ne (by omega)]; exact ut
      have xp : ∀ k, vu (vu (vu w1 o 2 tr) o 1 lv) (o + 1) pl sw p k = v p k := fun k => by rw [vu_ne (by omega)]; exact up k
      simp only [wE_I, wE_V, wE_F, wE_A, wE_N, wE_1, wE_2, wE_D, wE_B, wE_If, wE_C, wE_CV, wE_SL, wE_SA, wA_0, wA_1, wC_B, wC_E, wC_And, wC_Or, wC_Not, wS_Skip, wS_Brk, wS_Cnt, wS_RetV, wS_Ret, wS_Seq, wS_Set, wS_Inc, wS_Do, wS_Put, wS_PutC, wS_Arr, wS_ArrC, wS_If, wS_Sw, wS_F0, wS_F1, wM_q, lu_ap, aL_ap, ct_0, ct_1, ct_2, ct_3, ct_4, ct_5, headD_1, List.mem_cons, List.not_mem_nil, or_false, false_or, or_true, true_or, true_and, and_true, false_and, and_false, not_true_eq_false, not_false_eq_true, if_true, if_false, nr_20, nr_24, nr_40, nr_41, nr_44, pt_lt, pt_ge, pt_eq, pt_ne, pt_gt, pt_le, pt_E, pt_N, pt_F, ite_10, ite_11, ne_eq, and_self, or_self, decide_true, decide_false, Bool.not_true, Bool.not_false, Bool.false_eq_true, Nat.reduceEqDiff, Nat.reduceAdd, Int.reduceEq, Int.reduceLT, Int.reduceLE, Int.reduceNeg, Int.reduceAdd, Int.reduceSub, Int.reduceMul, reduceCtorEq, iA, iS, iM, iD, iR, iN, lA, lS, lM, lD, lR, r0, r1, r2, r5, kk0.k, hp, xp, hq.2.2.1, x4, kk0.a2, kk0.n2, hpl2, xt, wM_of (mm4 _)]
      clear mm4
      generalize mixF (v (M + 22) (4 * B + m)) off (g (647 + 112 * m + (28 + pl))) = sp at *
      refine ⟨hk0.upd ?_ ?_ ?_ ?_ (fun j j0 j1 => ?_) (fun k => ?_) (ai 3 (by omega)) (fun i i0 i1 => ai i (by omega)), fun a k ha => ?_⟩
      · rw [ai 2 (by omega), vu_ne (by omega), vu_ne (by omega), vu_ne (by simp), vu_ne (by simp), c01, ← k1.1, c01]; exact ⟨rfl, Or.inr rfl⟩
      · rw [a0, vu_ne (by omega), vu_ne (by omega), vu_is]; exact ⟨rfl, lvb⟩
      · rw [a1, vu_ne (by omega), vu_ne (by omega), vu_ne (by simp), vu_is]; exact ⟨rfl, b2⟩
      · rw [vu_ne (by omega), vu_ne (by omega), vu_ne (by simp), vu_ne (by simp)]
      · obtain ⟨j2, j3⟩ := aj j j0 j1
        obtain ⟨k7, k8⟩ := k5 j j0 j1
        rw [j2, j3]
        refine ⟨?_, ?_⟩
        · rw [vu_ne (by omega)]
          by_cases e : j = pl
          · rw [e, vu_is, if_pos rfl]; exact ⟨rfl, b3⟩
          · rw [vu_ne (fun q => e q.2), vu_ne (by omega), vu_ne (by omega), if_neg e]; exact k7
        · by_cases e : j = pl
          · rw [e, vu_is, if_pos rfl]; exact ⟨rfl, b5, b4.2⟩
          · rw [vu_ne (fun q => e q.2), vu_ne (by omega), vu_ne (by omega), vu_ne (by omega), if_neg e]; exact k8
      · rw [vu_ne (by omega), vu_ne (by omega), vu_ne (by omega), vu_ne (by omega), vu_ne (by omega), vu_ne (by omega), vu_ne (by omega), vu_ne (by omega)]; exact ⟨rfl, rfl⟩
      · rw [vu_ne (by omega), vu_ne (by omega), vu_ne (by omega), vu_ne (by omega)]; exact kf0 a k ha
end CW
