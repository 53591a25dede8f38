/-! A STEP ENDED: the class's whole -/
section CP
variable {S : QS} {v w : QV} {b M P B s : Int} {f F : Int → Int} {K D O : Int → Int} {N : Int → Int → Int}
theorem HS.FI (hR : PR v P M B) (hf1 : 0 ≤ f 1 ∧ f 1 ≤ 200000) {k : Int} (h : HS v w P s f (fun _ => k) D (fun a _ => f 1 % v (P + (13 + a)) 1) O) (hD : ∀ a, 0 ≤ a → a < v P 2 → 0 ≤ D a) : FI v M B f k := by
  obtain ⟨r1, r2, r3, r4, r5, r6, r7⟩ := hR
  obtain ⟨h1, h2, h3, h4⟩ := h
  refine ⟨hf1, fun m m0 m1 => (h2 m m0 (by omega)).fi, fun a a0 a1 => ⟨?_, fun m m0 m1 => ?_⟩, fun m m0 m1 m2 => ?_⟩
  · obtain ⟨⟨q1, q2⟩, -⟩ := (h3 a a0 (by omega)).1
    have := hD a a0 (by omega)
    have := (r6 a a0 (by omega)).2.2.1
    refine ⟨?_, q2⟩
    rw [q1]
    split <;> omega
  · have := ((h3 a a0 (by omega)).2 m m0 (by omega)).fi
    dsimp only at this
    rw [(r6 a a0 (by omega)).2.1.1] at this
    exact this
  · obtain ⟨-, -, -, -, pm5⟩ := r5 m m0 (by omega)
    exact (h4 m m0 (by omega) (by omega)).fi
theorem c_endStep (hSt : LSt S w s) (hPl : LPl S w P) (hPs : P + 16 < s) (hMs : s + 56 ≤ M) (hR : PR v P M B) (hw : Fs s v w) {x : Int} (hx : 0 ≤ x ∧ x < 100000) (h1 : f 1 = x) (h : HS v w P s f (fun _ => v P 0) (fun a => x / v (P + (13 + a)) 1) (fun a _ => x % v (P + (13 + a)) 1) (fun _ => x)) : wM mX8_endStep [s, P, x + 1] S w (fun _ w' => Kp S w w' ∧ Fs s v w' ∧ HS v w' P s (closeF v M B f) (fun _ => 0) (fun a => (x + 1) / v (P + (13 + a)) 1) (fun a _ => (x + 1) % v (P + (13 + a)) 1) (fun _ => x + 1)) := by
  obtain ⟨r1, r2, r3, r4, r5, r6, r7⟩ := id hR
  have hn4 : v (M + 3) B ≤ 4 := by omega
  have hm1 : ∀ j : Nat, (j : Int) ≤ v (M + 3) B → itF (fun m => measF v M B m) j f 1 = f 1 := fun j hj => measI_fr (by omega) j (fun m m0 m1 => ⟨hR.pb.2.2.2.1 m m0 (by omega), by omega, fun a _ _ => by omega, by omega⟩)
  have wP : ∀ u, Fs s v u → ∀ a k, P ≤ a → a ≤ P + 16 → u a k = v a k := fun u hu a k q0 q1 => hu a k (by omega)
  rw [closeF_eq]
  simp only [mX8_endStep, sX8_endStep, wM_q]
  generalize hL : aL 0 [2, 2, 0] [s, P, x + 1] = L
  have m0 : L 0 = s := by rw [← hL]; simp [lu_ap, aL_ap, ct_0, ct_1, ct_2]
  have m1 : L 1 = P := by rw [← hL]; simp [lu_ap, aL_ap, ct_0, ct_1, ct_2]
  have m2 : L 2 = x + 1 := by rw [← hL]; simp [lu_ap, aL_ap, ct_0, ct_1, ct_2]
  clear hL
  rw [wS_Seq]
  refine wS_mono (Q' := fun k _ L' w' => k = 0 ∧ (L' 0 = s ∧ L' 1 = P ∧ L' 2 = x + 1) ∧ Kp S w w' ∧ Fs s v w' ∧ HS v w' P s (itF (fun m => measF v M B m) (v (M + 3) B).toNat f) (fun _ => 0) (fun a => x / v (P + (13 + a)) 1) (fun a _ => x % v (P + (13 + a)) 1 + 1) (fun _ => x + 1)) ?_ ?_
  · simp only [wE_I, wE_V, wE_F, wE_A, wE_N, wE_1, wE_2, wE_D, wE_B, wE_If, wE_C, wE_CV, wE_SL, wE_SA, wA_0, wA_1, wC_B, wC_E, wC_And, wC_Or, wC_Not, wS_Skip, wS_Brk, wS_Cnt, wS_RetV, wS_Ret, wS_Seq, wS_Set, wS_Inc, wS_Do, wS_Put, wS_PutC, wS_Arr, wS_ArrC, wS_If, wS_Sw, wS_F0, wS_F1, wM_q, lu_ap, aL_ap, ct_0, ct_1, ct_2, ct_3, ct_4, ct_5, headD_1, List.mem_cons, List.not_mem_nil, or_false, false_or, or_true, true_or, true_and, and_true, false_and, and_false, not_true_eq_false, not_false_eq_true, if_true, if_false, nr_20, nr_24, nr_40, nr_41, nr_44, pt_lt, pt_ge, pt_eq, pt_ne, pt_gt, pt_le, pt_E, pt_N, pt_F, ite_10, ite_11, ne_eq, and_self, or_self, decide_true, decide_false, Bool.not_true, Bool.not_false, Bool.false_eq_true, Nat.reduceEqDiff, Nat.reduceAdd, Int.reduceEq, Int.reduceLT, Int.reduceLE, Int.reduceNeg, Int.reduceAdd, Int.reduceSub, Int.reduceMul, reduceCtorEq, iA, iS, iM, iD, iR, iN, lA, lS, lM, lD, lR]
    refine wS_For (v (M + 3) B).toNat (fun j L' w' => (L' 0 = s ∧ L' 1 = P ∧ L' 2 = x + 1 ∧ L' 3 = j) ∧ Kp S w w' ∧ Fs s v w' ∧ HS v w' P s (itF (fun m => measF v M B m) j f) (fun m => if m < (j : Int) then 0 else v P 0) (fun a => x / v (P + (13 + a)) 1) (fun a m => x % v (P + (13 + a)) 1 + if m < (j : Int) then 1 else 0) (fun m => x + if m < (j : Int) then 1 else 0)) (by omega) ?_ ?_ ?_
    · refine ⟨⟨by simp [lu_ap, m0], by simp [lu_ap, m1], by simp [lu_ap, m2], by simp [lu_ap]⟩, Kp.rf, hw, h.conv (fun m q0 q1 => ?_) (fun _ _ _ => rfl) (fun a m a0 a1 q0 q1 => ?_) (fun m q0 q1 => ?_)⟩
      · simp only [show ¬ m < ((0 : Nat) : Int) by omega, if_false]; exact Int.le_refl _
      · simp only [show ¬ m < ((0 : Nat) : Int) by omega, if_false]; omega
      · simp only [show ¬ m < ((0 : Nat) : Int) by omega, if_false]; omega
    · rintro j L' w' hj ⟨⟨l0, l1, l2, l3⟩, hk, hf, hh⟩
      have hjn : (j : Int) < v P 1 := by omega
      have e1 : w32 ((j : Int) + 1) = j + 1 := w32_e (by omega)
      have g1 := hm1 j (by clear e1; omega)
      have wP1 : w' P 1 = v P 1 := wP w' hf P 1 (by clear e1; omega) (by clear e1; omega)
      have hPw := hPl.keep hk
      have cm := c_endMeas (hSt.keep hk) hPw hPs hMs hR hf (show 0 ≤ (j : Int) ∧ (j : Int) < v P 1 by clear e1; omega) (by rw [g1]; clear e1; omega) hh (by simp) (fun a a0 a1 => by
        have hp := (r6 a a0 a1).2.1
        have := Int.emod_lt_of_pos x (show 0 < v (P + (13 + a)) 1 by clear e1; omega)
        simp only [show ¬ (j : Int) < (j : Int) from Int.lt_irrefl _, if_false]
        clear e1
        omega) (by simp only [show ¬ (j : Int) < (j : Int) from Int.lt_irrefl _, if_false]; clear e1; omega) (by exact l0) (by exact l1) (by rw [g1, h1]; exact l2) (by exact l3)
      simp only [cX8_endStep_1, wE_I, wE_V, wE_F, wE_A, wE_N, wE_1, wE_2, wE_D, wE_B, wE_If, wE_C, wE_CV, wE_SL, wE_SA, wA_0, wA_1, wC_B, wC_E, wC_And, wC_Or, wC_Not, wS_Skip, wS_Brk, wS_Cnt, wS_RetV, wS_Ret, wS_Seq, wS_Set, wS_Inc, wS_Do, wS_Put, wS_PutC, wS_Arr, wS_ArrC, wS_If, wS_Sw, wS_F0, wS_F1, wM_q, lu_ap, aL_ap, ct_0, ct_1, ct_2, ct_3, ct_4, ct_5, headD_1, List.mem_cons, List.not_mem_nil, or_false, false_or, or_true, true_or, true_and, and_true, false_and, and_false, not_true_eq_false, not_false_eq_true, if_true, if_false, nr_20, nr_24, nr_40, nr_41, nr_44, pt_lt, pt_ge, pt_eq, pt_ne, pt_gt, pt_le, pt_E, pt_N, pt_F, ite_10, ite_11, ne_eq, and_self, or_self, decide_true, decide_false, Bool.not_true, Bool.not_false, Bool.false_eq_true, Nat.reduceEqDiff, Nat.reduceAdd, Int.reduceEq, Int.reduceLT, Int.reduceLE, Int.reduceNeg, Int.reduceAdd, Int.reduceSub, Int.reduceMul, reduceCtorEq, iA, iS, iM, iD, iR, iN, lA, lS, lM, lD, lR, l1, l3, hPw.k, wP1, hjn]
      refine wS_mono cm ?_
      rintro k z L3 w3 ⟨rfl, ⟨n0, n1, n2, n3⟩, hk3, hf3, hh3⟩
      rw [g1, h1] at n2
      simp only [uX8_endStep_1, wE_I, wE_V, wE_F, wE_A, wE_N, wE_1, wE_2, wE_D, wE_B, wE_If, wE_C, wE_CV, wE_SL, wE_SA, wA_0, wA_1, wC_B, wC_E, wC_And, wC_Or, wC_Not, wS_Skip, wS_Brk, wS_Cnt, wS_RetV, wS_Ret, wS_Seq, wS_Set, wS_Inc, wS_Do, wS_Put, wS_PutC, wS_Arr, wS_ArrC, wS_If, wS_Sw, wS_F0, wS_F1, wM_q, lu_ap, aL_ap, ct_0, ct_1, ct_2, ct_3, ct_4, ct_5, headD_1, List.mem_cons, List.not_mem_nil, or_false, false_or, or_true, true_or, true_and, and_true, false_and, and_false, not_true_eq_false, not_false_eq_true, if_true, if_false, nr_20, nr_24, nr_40, nr_41, nr_44, pt_lt, pt_ge, pt_eq, pt_ne, pt_gt, pt_le, pt_E, pt_N, pt_F, ite_10, ite_11, ne_eq, and_self, or_self, decide_true, decide_false, Bool.not_true, Bool.not_false, Bool.false_eq_true, Nat.reduceEqDiff, Nat.reduceAdd, Int.reduceEq, Int.reduceLT, Int.reduceLE, Int.reduceNeg, Int.reduceAdd, Int.reduceSub, Int.reduceMul, reduceCtorEq, iA, iS, iM, iD, iR, iN, lA, lS, lM, lD, lR, n0, n1, n2, n3, e1]
      clear e1
      refine ⟨rfl, hk.tr hk3, hf3, hh3.conv (fun m q0 q1 => ?_) (fun _ _ _ => rfl) (fun a m a0 a1 q0 q1 => ?_) (fun m q0 q1 => ?_)⟩
      · by_cases c : m = j
        · rw [if_pos c, if_pos (by omega)]; exact Int.le_refl _
        · rw [if_neg c]
          by_cases c2 : m < (j : Int)
          · rw [if_pos c2, if_pos (by omega)]; exact Int.le_refl _
          · rw [if_neg c2, if_neg (by omega)]; exact Int.le_refl _
      · by_cases c : m = j
        · rw [if_pos c, if_pos (by omega), if_neg (by omega)]; omega
        · rw [if_neg c]
          by_cases c2 : m < (j : Int)
          · rw [if_pos c2, if_pos (by omega)]
          · rw [if_neg c2, if_neg (by omega)]
      · by_cases c : m = j
        · rw [if_pos c, if_neg (show ¬ m < (j : Int) by omega), if_pos (by omega)]; omega
        · rw [if_neg c]
          by_cases c2 : m < (j : Int)
          · rw [if_pos c2, if_pos (by omega)]; exact Int.le_refl _
          · rw [if_neg c2, if_neg (by omega)]; exact Int.le_refl _
    · rintro L' w' ⟨⟨l0, l1, l2, l3⟩, hk, hf, hh⟩
      have l4 : L' 3 = v P 1 := by omega
      have wP1 : w' P 1 = v P 1 := wP w' hf P 1 (by omega) (by omega)
      have hPw := hPl.keep hk
      simp only [cX8_endStep_1, wE_I, wE_V, wE_F, wE_A, wE_N, wE_1, wE_2, wE_D, wE_B, wE_If, wE_C, wE_CV, wE_SL, wE_SA, wA_0, wA_1, wC_B, wC_E, wC_And, wC_Or, wC_Not, wS_Skip, wS_Brk, wS_Cnt, wS_RetV, wS_Ret, wS_Seq, wS_Set, wS_Inc, wS_Do, wS_Put, wS_PutC, wS_Arr, wS_ArrC, wS_If, wS_Sw, wS_F0, wS_F1, wM_q, lu_ap, aL_ap, ct_0, ct_1, ct_2, ct_3, ct_4, ct_5, headD_1, List.mem_cons, List.not_mem_nil, or_false, false_or, or_true, true_or, true_and, and_true, false_and, and_false, not_true_eq_false, not_false_eq_true, if_true, if_false, nr_20, nr_24, nr_40, nr_41, nr_44, pt_lt, pt_ge, pt_eq, pt_ne, pt_gt, pt_le, pt_E, pt_N, pt_F, ite_10, ite_11, ne_eq, and_self, or_self, decide_true, decide_false, Bool.not_true, Bool.not_false, Bool.false_eq_true, Nat.reduceEqDiff, Nat.reduceAdd, Int.reduceEq, Int.reduceLT, Int.reduceLE, Int.reduceNeg, Int.reduceAdd, Int.reduceSub, Int.reduceMul, reduceCtorEq, iA, iS, iM, iD, iR, iN, lA, lS, lM, lD, lR, l1, l4, hPw.k, wP1]
      refine ⟨Int.lt_irrefl _, ⟨l0, l2⟩, hk, hf, hh.conv (fun m q0 q1 => ?_) (fun _ _ _ => rfl) (fun a m a0 a1 q0 q1 => ?_) (fun m q0 q1 => ?_)⟩
      · rw [if_pos (by omega)]; exact Int.le_refl _
      · rw [if_pos (by omega)]
      · rw [if_pos (by omega)]; exact Int.le_refl _
  · rintro k z L1 w1 ⟨rfl, ⟨l0, l1, l2⟩, hk1, hf1, hh1⟩
    rw [if_pos rfl]
    have g1 := hm1 (v (M + 3) B).toNat (by omega)
    generalize itF (fun m => measF v M B m) (v (M + 3) B).toNat f = g at *
    have hh2 := hh1.congf (F := fu g 1 (g 1 + 1)) (by omega) (by omega) (fun k hk => fu_ne hk)
    have e2 : fu g 1 (g 1 + 1) 1 = x + 1 := by rw [fu_is, g1, h1]
    generalize fu g 1 (g 1 + 1) = G at *
    clear hh1
    have hG : ∀ j : Nat, (j : Int) ≤ v (M + 4) B → itF (fun a => rwF v M B a) j G 1 = x + 1 := fun j hj => by
      rw [rwI_fr hn4 j (fun a a0 a1 => by omega)]; exact e2
    simp only [wE_I, wE_V, wE_F, wE_A, wE_N, wE_1, wE_2, wE_D, wE_B, wE_If, wE_C, wE_CV, wE_SL, wE_SA, wA_0, wA_1, wC_B, wC_E, wC_And, wC_Or, wC_Not, wS_Skip, wS_Brk, wS_Cnt, wS_RetV, wS_Ret, wS_Seq, wS_Set, wS_Inc, wS_Do, wS_Put, wS_PutC, wS_Arr, wS_ArrC, wS_If, wS_Sw, wS_F0, wS_F1, wM_q, lu_ap, aL_ap, ct_0, ct_1, ct_2, ct_3, ct_4, ct_5, headD_1, List.mem_cons, List.not_mem_nil, or_false, false_or, or_true, true_or, true_and, and_true, false_and, and_false, not_true_eq_false, not_false_eq_true, if_true, if_false, nr_20, nr_24, nr_40, nr_41, nr_44, pt_lt, pt_ge, pt_eq, pt_ne, pt_gt, pt_le, pt_E, pt_N, pt_F, ite_10, ite_11, ne_eq, and_self, or_self, decide_true, decide_false, Bool.not_true, Bool.not_false, Bool.false_eq_true, Nat.reduceEqDiff, Nat.reduceAdd, Int.reduceEq, Int.reduceLT, Int.reduceLE, Int.reduceNeg, Int.reduceAdd, Int.reduceSub, Int.reduceMul, reduceCtorEq, iA, iS, iM, iD, iR, iN, lA, lS, lM, lD, lR]
    refine wS_For (v (M + 4) B).toNat (fun j L' w' => (L' 0 = s ∧ L' 1 = P ∧ L' 2 = x + 1 ∧ L' 3 = j) ∧ Kp S w w' ∧ Fs s v w' ∧ HS v w' P s (itF (fun a => rwF v M B a) j G) (fun _ => 0) (fun a => if a < (j : Int) then (x + 1) / v (P + (13 + a)) 1 else x / v (P + (13 + a)) 1) (fun a m => if a < (j : Int) then (x + 1) % v (P + (13 + a)) 1 else x % v (P + (13 + a)) 1 + 1) (fun _ => x + 1)) (by omega) ?_ ?_ ?_
    · refine ⟨⟨by simp [lu_ap, l0], by simp [lu_ap, l1], by simp [lu_ap, l2], by simp [lu_ap]⟩, hk1, hf1, hh2.conv (fun m q0 q1 => Int.le_refl _) (fun a a0 a1 => ?_) (fun a m a0 a1 q0 q1 => ?_) (fun m q0 q1 => Int.le_refl _)⟩
      · simp only [show ¬ a < ((0 : Nat) : Int) by omega, if_false]
      · simp only [show ¬ a < ((0 : Nat) : Int) by omega, if_false]
    · rintro j L' w' hj ⟨⟨l0, l1, l2, l3⟩, hk, hf, hh⟩
      have hjn : (j : Int) < v P 2 := by omega
      have e1 : w32 ((j : Int) + 1) = j + 1 := w32_e (by omega)
      have wP2 : w' P 2 = v P 2 := wP w' hf P 2 (by clear e1; omega) (by clear e1; omega)
      have hPw := hPl.keep hk
      have ca := c_endArch (x := x) (i := (j : Int)) (hSt.keep hk) hPw hPs hR hf (by clear e1; omega) hx (hG j (by clear e1; omega)) hh (by simp) (fun m q0 q1 => by simp) l0 l1 l2 l3
      simp only [cX8_endStep_3, wE_I, wE_V, wE_F, wE_A, wE_N, wE_1, wE_2, wE_D, wE_B, wE_If, wE_C, wE_CV, wE_SL, wE_SA, wA_0, wA_1, wC_B, wC_E, wC_And, wC_Or, wC_Not, wS_Skip, wS_Brk, wS_Cnt, wS_RetV, wS_Ret, wS_Seq, wS_Set, wS_Inc, wS_Do, wS_Put, wS_PutC, wS_Arr, wS_ArrC, wS_If, wS_Sw, wS_F0, wS_F1, wM_q, lu_ap, aL_ap, ct_0, ct_1, ct_2, ct_3, ct_4, ct_5, headD_1, List.mem_cons, List.not_mem_nil, or_false, false_or, or_true, true_or, true_and, and_true, false_and, and_false, not_true_eq_false, not_false_eq_true, if_true, if_false, nr_20, nr_24, nr_40, nr_41, nr_44, pt_lt, pt_ge, pt_eq, pt_ne, pt_gt, pt_le, pt_E, pt_N, pt_F, ite_10, ite_11, ne_eq, and_self, or_self, decide_true, decide_false, Bool.not_true, Bool.not_false, Bool.false_eq_true, Nat.reduceEqDiff, Nat.reduceAdd, Int.reduceEq, Int.reduceLT, Int.reduceLE, Int.reduceNeg, Int.reduceAdd, Int.reduceSub, Int.reduceMul, reduceCtorEq, iA, iS, iM, iD, iR, iN, lA, lS, lM, lD, lR, l1, l3, hPw.k, wP2, hjn]
      refine wS_mono ca ?_
      rintro k z L3 w3 ⟨rfl, ⟨n0, n1, n2, n3⟩, hk3, hf3, hh3⟩
      simp only [uX8_endStep_3, wE_I, wE_V, wE_F, wE_A, wE_N, wE_1, wE_2, wE_D, wE_B, wE_If, wE_C, wE_CV, wE_SL, wE_SA, wA_0, wA_1, wC_B, wC_E, wC_And, wC_Or, wC_Not, wS_Skip, wS_Brk, wS_Cnt, wS_RetV, wS_Ret, wS_Seq, wS_Set, wS_Inc, wS_Do, wS_Put, wS_PutC, wS_Arr, wS_ArrC, wS_If, wS_Sw, wS_F0, wS_F1, wM_q, lu_ap, aL_ap, ct_0, ct_1, ct_2, ct_3, ct_4, ct_5, headD_1, List.mem_cons, List.not_mem_nil, or_false, false_or, or_true, true_or, true_and, and_true, false_and, and_false, not_true_eq_false, not_false_eq_true, if_true, if_false, nr_20, nr_24, nr_40, nr_41, nr_44, pt_lt, pt_ge, pt_eq, pt_ne, pt_gt, pt_le, pt_E, pt_N, pt_F, ite_10, ite_11, ne_eq, and_self, or_self, decide_true, decide_false, Bool.not_true, Bool.not_false, Bool.false_eq_true, Nat.reduceEqDiff, Nat.reduceAdd, Int.reduceEq, Int.reduceLT, Int.reduceLE, Int.reduceNeg, Int.reduceAdd, Int.reduceSub, Int.reduceMul, reduceCtorEq, iA, iS, iM, iD, iR, iN, lA, lS, lM, lD, lR, n0, n1, n2, n3, e1]
      clear e1
      refine ⟨rfl, hk.tr hk3, hf3, hh3.conv (fun m q0 q1 => Int.le_refl _) (fun a a0 a1 => ?_) (fun a m a0 a1 q0 q1 => ?_) (fun m q0 q1 => Int.le_refl _)⟩
      · by_cases c : a = j
        · rw [if_pos c, if_pos (by omega), c]
        · rw [if_neg c]
          by_cases c2 : a < (j : Int)
          · rw [if_pos c2, if_pos (by omega)]
          · rw [if_neg c2, if_neg (by omega)]
      · by_cases c : a = j
        · rw [if_pos c, if_pos (by omega), c]
        · rw [if_neg c]
          by_cases c2 : a < (j : Int)
          · rw [if_pos c2, if_pos (by omega)]
          · rw [if_neg c2, if_neg (by omega)]
    · rintro L' w' ⟨⟨l0, l1, l2, l3⟩, hk, hf, hh⟩
      have l4 : L' 3 = v P 2 := by omega
      have wP2 : w' P 2 = v P 2 := wP w' hf P 2 (by omega) (by omega)
      have hPw := hPl.keep hk
      simp only [cX8_endStep_3, wE_I, wE_V, wE_F, wE_A, wE_N, wE_1, wE_2, wE_D, wE_B, wE_If, wE_C, wE_CV, wE_SL, wE_SA, wA_0, wA_1, wC_B, wC_E, wC_And, wC_Or, wC_Not, wS_Skip, wS_Brk, wS_Cnt, wS_RetV, wS_Ret, wS_Seq, wS_Set, wS_Inc, wS_Do, wS_Put, wS_PutC, wS_Arr, wS_ArrC, wS_If, wS_Sw, wS_F0, wS_F1, wM_q, lu_ap, aL_ap, ct_0, ct_1, ct_2, ct_3, ct_4, ct_5, headD_1, List.mem_cons, List.not_mem_nil, or_false, false_or, or_true, true_or, true_and, and_true, false_and, and_false, not_true_eq_false, not_false_eq_true, if_true, if_false, nr_20, nr_24, nr_40, nr_41, nr_44, pt_lt, pt_ge, pt_eq, pt_ne, pt_gt, pt_le, pt_E, pt_N, pt_F, ite_10, ite_11, ne_eq, and_self, or_self, decide_true, decide_false, Bool.not_true, Bool.not_false, Bool.false_eq_true, Nat.reduceEqDiff, Nat.reduceAdd, Int.reduceEq, Int.reduceLT, Int.reduceLE, Int.reduceNeg, Int.reduceAdd, Int.reduceSub, Int.reduceMul, reduceCtorEq, iA, iS, iM, iD, iR, iN, lA, lS, lM, lD, lR, l1, l4, hPw.k, wP2]
      refine ⟨Int.lt_irrefl _, hk, hf, hh.conv (fun m q0 q1 => Int.le_refl _) (fun a a0 a1 => ?_) (fun a m a0 a1 q0 q1 => ?_) (fun m q0 q1 => Int.le_refl _)⟩
      · rw [if_pos (by omega)]
      · rw [if_pos (by omega)]
end CP
