/-! STORE: a show's line, the class's -/
def shM (v : QV) (T i sh b : Int) (f : Int × Int) : Int × Int := if 4 ≤ sh then (4, i) else if ¬ kdT v T (i + 1) = 4 then (1, i + 1) else if ¬ b = -1 then (3, i + 1) else if ¬ kdT v T (i + 2) = 61 then (1, i + 2) else f
def slF (u w : QV) (x F nn sh : Int) : Prop := ∀ a k, (a = x → k ≠ 2 ∧ k ≠ 3 ∧ k ≠ 4 ∧ k ≠ 7 ∧ k ≠ 9) → (a = x + 1 → k ≠ nn) → (a = x + 2 → k ≠ nn) → a ≠ x + 3 → (a = F → k ≠ 0 ∧ k ≠ 1 ∧ k ≠ 2) → a ≠ F + 1 → a ≠ F + 2 → (a = F + 3 → k ≠ sh) → w a k = u a k
theorem be_ex {u : QV} {T x : Int} (i : Int) : ∃ b, isBe u T x i b := by
  by_cases z : ∃ b, isBe u T x i b
  · exact z
  · refine ⟨-1, Or.inr ⟨rfl, fun j j0 j1 hsm => ?_⟩⟩
    exfalso
    have hmin : ∀ k : Nat, ∀ j : Int, j = k → j < u x 7 → smW u T (u (x + 1) j) i → ∃ b, isBe u T x i b := by
      intro k
      induction k using Nat.strongRecOn with
      | ind k ih =>
        intro j hj hj1 hs
        by_cases y : ∃ j', 0 ≤ j' ∧ j' < j ∧ smW u T (u (x + 1) j') i
        · obtain ⟨j', a, b, c⟩ := y
          exact ih j'.toNat (by omega) j' (by omega) (by omega) c
        · exact ⟨_, Or.inl ⟨j, ⟨by omega, hj1⟩, hs, fun j' a b c => y ⟨j', a, b, c⟩, rfl⟩⟩
    exact z (hmin j.toNat j (by omega) j1 hsm)
theorem ffr.sh {u w : QV} {x F nn sh : Int} (h : ffr x F u w) : slF u w x F nn sh := fun a k q1 _ _ q4 q5 q6 q7 _ => h a k (fun e => ⟨(q1 e).1, (q1 e).2.1, (q1 e).2.2.1, (q1 e).2.2.2.2⟩) q4 (fun e => ⟨(q5 e).2.1, (q5 e).2.2⟩) q6 q7
theorem FRp.kp {S : QS} {w w' : QV} {x F l : Int} {st : List Int} {c : Int → Int} (h : FRp S w x F st c l) (hk : Kp S w w') (h9 : w' x 9 = w x 9) (h3 : ∀ k, w' (x + 3) k = w (x + 3) k) (f2 : w' F 2 = w F 2) (f3 : ∀ k, w' (F + 1) k = w (F + 1) k ∧ w' (F + 2) k = w (F + 2) k) : FRp S w' x F st c l := by
  obtain ⟨g1, g2, g3, g4, g5⟩ := h
  exact ⟨g1.keep hk, by rw [f2]; exact g2, fun k k0 k1 => by rw [(f3 k).1, (f3 k).2]; exact g3 k k0 k1, by rw [h9]; exact g4, fun k hk => by rw [h3]; exact g5 k hk⟩
section CSH
variable {S : QS} {u v w : QV} {T x P F l nm un : Int} {ns : Nat} {β : Int → Int} {st : List Int} {c : Int → Int} {i : Int}
theorem q_endShow {sh : Int} (h : LFo S w F) (h0 : w F 0 = sh) (h2 : w F 2 = l) (hb : 0 ≤ sh ∧ sh < 4) : mX1_endShow [F] S w = some (0, vu (vu w (F + 3) sh l) F 0 (sh + 1)) := by
  have n1 : ¬ F = F + 3 := by omega
  have lt : sh < 4 := hb.2
  have e1 : w32 (sh + 1) = sh + 1 := w32_e (by omega)
  apply wM_eq
  simp only [mX1_endShow, sX1_endShow, wE_I, wE_V, wE_F, wE_A, wE_N, wE_1, wE_2, wE_D, wE_B, wE_If, wE_C, wE_CV, wE_SL, wE_SA, wA_0, wA_1, wC_B, wC_E, wC_And, wC_Or, wC_Not, wS_Skip, wS_Brk, wS_Cnt, wS_RetV, wS_Ret, wS_Seq, wS_Set, wS_Inc, wS_Do, wS_Put, wS_PutC, wS_Arr, wS_ArrC, wS_If, wS_Sw, wS_F0, wS_F1, wM_q, lu_ap, aL_ap, ct_0, ct_1, ct_2, ct_3, ct_4, ct_5, headD_1, List.mem_cons, List.not_mem_nil, or_false, false_or, or_true, true_or, true_and, and_true, false_and, and_false, not_true_eq_false, not_false_eq_true, if_true, if_false, nr_20, nr_24, nr_40, nr_41, nr_44, pt_lt, pt_ge, pt_eq, pt_ne, pt_gt, pt_le, pt_E, pt_N, pt_F, ite_10, ite_11, ne_eq, and_self, or_self, decide_true, decide_false, Bool.not_true, Bool.not_false, Bool.false_eq_true, Nat.reduceEqDiff, Nat.reduceAdd, Int.reduceEq, Int.reduceLT, Int.reduceLE, Int.reduceNeg, Int.reduceAdd, Int.reduceSub, Int.reduceMul, reduceCtorEq, iA, iS, iM, iD, iR, iN, lA, lS, lM, lD, lR, h.k, h0, h2, h.p5, h.a3, h.n3, hb, lt, Nat.le_refl, vu_ne, n1, e1]
theorem c_showLine {i sh nn : Int} (h : PS S u T x P i) (hL : LPl S u P) (hxP : x + 3 < P) (hF : F = P + 3) (ht : TR T v u) (hK : kdT v T i ≠ 1) (hN : NB u T x) (hsh : u F 0 = sh) (hs0 : 0 ≤ sh) (hnn : u x 7 = nn) (hnb4 : sh < 4 → nn < 8) (hFR : FR0 S u F c l) (hu1 : u F 1 = un) (hβ : ∀ i r, (0 ≤ i ∧ i < nTk v T) → kdT v T i = 4 → isBe u T x i r → r = β i) (hu : 0 ≤ un ∧ un ≤ 30) (hl : 0 ≤ l ∧ l ≤ 2 * un) (hb : bOk v T β nm ns) (hend : kdT v T (nTk v T - 1) = 1) {RES : (Int × Int) × (Int → Int) × Int × Int} (hR : RES = fmG v T β (nTk v T - (i + 3)).toNat [] c l 0 un true (i + 3)) : wM mX5_showLine [x] S u (fun r w => ∃ b, (kdT v T (i + 1) = 4 → isBe u T x (i + 1) b) ∧ LnC u w T x v (stp (fKd v T 59) (shM v T i sh b RES.1)) r ∧ slF u w x F nn sh ∧ ((stp (fKd v T 59) (shM v T i sh b RES.1)).1 = 0 → (kdT v T (i + 1) = 4 ∧ b = -1 ∧ kdT v T (i + 2) = 61 ∧ sh < 4 ∧ RES.1.1 = 0) ∧ (w F 0 = sh + 1 ∧ w F 1 = RES.2.2.2 ∧ w (F + 3) sh = RES.2.2.1 ∧ FR0 S w F RES.2.1 RES.2.2.1) ∧ (w x 7 = nn + 1 ∧ w (x + 1) nn = i + 1 ∧ w (x + 2) nn = 4 + sh))) := by
  have h10 := h.2.2.2.2.2.2.2.2.2
  have hx1 := h.2.2.2.1
  have hx2 := h.2.2.2.2.1
  have hi6 := h.2.2.2.2.2.1
  have hi7 := h.2.2.2.2.2.2.1.1
  have hk := h.2.1.k
  have hp5 : u P 5 = F := by rw [hL.p5, hF]
  have hkF := hFR.1.k
  by_cases c4 : 4 ≤ sh
  · have ho : ∀ b, stp (fKd v T 59) (shM v T i sh b RES.1) = (4, i) := fun b => by unfold shM; rw [if_pos c4, stp_ff (by decide)]
    have hf := q_fail (f := 4) h
    rw [st_q ht] at hf
    obtain ⟨b, hb⟩ := be_ex (u := u) (T := T) (x := x) (i + 1)
    simp only [mX5_showLine, sX5_showLine, wE_I, wE_V, wE_F, wE_A, wE_N, wE_1, wE_2, wE_D, wE_B, wE_If, wE_C, wE_CV, wE_SL, wE_SA, wA_0, wA_1, wC_B, wC_E, wC_And, wC_Or, wC_Not, wS_Skip, wS_Brk, wS_Cnt, wS_RetV, wS_Ret, wS_Seq, wS_Set, wS_Inc, wS_Do, wS_Put, wS_PutC, wS_Arr, wS_ArrC, wS_If, wS_Sw, wS_F0, wS_F1, wM_q, lu_ap, aL_ap, ct_0, ct_1, ct_2, ct_3, ct_4, ct_5, headD_1, List.mem_cons, List.not_mem_nil, or_false, false_or, or_true, true_or, true_and, and_true, false_and, and_false, not_true_eq_false, not_false_eq_true, if_true, if_false, nr_20, nr_24, nr_40, nr_41, nr_44, pt_lt, pt_ge, pt_eq, pt_ne, pt_gt, pt_le, pt_E, pt_N, pt_F, ite_10, ite_11, ne_eq, and_self, or_self, decide_true, decide_false, Bool.not_true, Bool.not_false, Bool.false_eq_true, Nat.reduceEqDiff, Nat.reduceAdd, Int.reduceEq, Int.reduceLT, Int.reduceLE, Int.reduceNeg, Int.reduceAdd, Int.reduceSub, Int.reduceMul, reduceCtorEq, iA, iS, iM, iD, iR, iN, lA, lS, lM, lD, lR, hk, hx1, hL.k, hp5, hkF, hsh, c4, wM_of hf]
    refine ⟨b, fun _ => hb, ?_, fun a k q1 q2 q3 q4 q5 q6 q7 q8 => ?_, fun z => ?_⟩
    · rw [ho]
      exact Or.inr ⟨by simp, rfl, by rw [vu_ne (by simp), vu_is], vu_is⟩
    · rw [vu_ne (fun e => (q1 e.1).2.2.1 e.2), vu_ne (fun e => (q1 e.1).2.1 e.2)]
    · rw [ho] at z; exact absurd z (by simp)
  · have o4 : 0 ≤ sh ∧ sh < 4 := by omega
    have hnb : nn < 8 := hnb4 o4.2
    have hFx : x + 3 < F := by omega
    have hQ : ∀ c l un, Qx x (FQ0 S u x F c l un) := fun c l un => FQ0.qx hFx hk
    have hM0 : Mi S u v T x P (FQ0 S u x F c l un) u i := ⟨h, ht, ⟨rfl, rfl⟩, fun _ _ _ _ _ _ _ => rfl, hFR, hu1⟩
    obtain ⟨hM1, hib⟩ := hM0.nx (hQ _ _ _) hK
    simp only [mX5_showLine, sX5_showLine, wM_q]
    generalize hLL : aL 0 [2] [x] = L
    have m0 : L 0 = x := by rw [← hLL]; simp [aL_ap, ct_0, ct_1, ct_2]
    clear hLL
    refine ws_step (L' := L) (w := u) (by simp only [wE_I, wE_V, wE_F, wE_A, wE_N, wE_1, wE_2, wE_D, wE_B, wE_If, wE_C, wE_CV, wE_SL, wE_SA, wA_0, wA_1, wC_B, wC_E, wC_And, wC_Or, wC_Not, wS_Skip, wS_Brk, wS_Cnt, wS_RetV, wS_Ret, wS_Seq, wS_Set, wS_Inc, wS_Do, wS_Put, wS_PutC, wS_Arr, wS_ArrC, wS_If, wS_Sw, wS_F0, wS_F1, wM_q, lu_ap, aL_ap, ct_0, ct_1, ct_2, ct_3, ct_4, ct_5, headD_1, List.mem_cons, List.not_mem_nil, or_false, false_or, or_true, true_or, true_and, and_true, false_and, and_false, not_true_eq_false, not_false_eq_true, if_true, if_false, nr_20, nr_24, nr_40, nr_41, nr_44, pt_lt, pt_ge, pt_eq, pt_ne, pt_gt, pt_le, pt_E, pt_N, pt_F, ite_10, ite_11, ne_eq, and_self, or_self, decide_true, decide_false, Bool.not_true, Bool.not_false, Bool.false_eq_true, Nat.reduceEqDiff, Nat.reduceAdd, Int.reduceEq, Int.reduceLT, Int.reduceLE, Int.reduceNeg, Int.reduceAdd, Int.reduceSub, Int.reduceMul, reduceCtorEq, iA, iS, iM, iD, iR, iN, lA, lS, lM, lD, lR, m0, hk, hx1, hL.k, hp5, hkF, hsh, c4]) ?_
    have e1 : w32 (i + 1) = i + 1 := w32_e (by omega)
    refine ws_step (L' := L) (w := vu u x 2 (i + 1)) (by simp only [wE_I, wE_V, wE_F, wE_A, wE_N, wE_1, wE_2, wE_D, wE_B, wE_If, wE_C, wE_CV, wE_SL, wE_SA, wA_0, wA_1, wC_B, wC_E, wC_And, wC_Or, wC_Not, wS_Skip, wS_Brk, wS_Cnt, wS_RetV, wS_Ret, wS_Seq, wS_Set, wS_Inc, wS_Do, wS_Put, wS_PutC, wS_Arr, wS_ArrC, wS_If, wS_Sw, wS_F0, wS_F1, wM_q, lu_ap, aL_ap, ct_0, ct_1, ct_2, ct_3, ct_4, ct_5, headD_1, List.mem_cons, List.not_mem_nil, or_false, false_or, or_true, true_or, true_and, and_true, false_and, and_false, not_true_eq_false, not_false_eq_true, if_true, if_false, nr_20, nr_24, nr_40, nr_41, nr_44, pt_lt, pt_ge, pt_eq, pt_ne, pt_gt, pt_le, pt_E, pt_N, pt_F, ite_10, ite_11, ne_eq, and_self, or_self, decide_true, decide_false, Bool.not_true, Bool.not_false, Bool.false_eq_true, Nat.reduceEqDiff, Nat.reduceAdd, Int.reduceEq, Int.reduceLT, Int.reduceLE, Int.reduceNeg, Int.reduceAdd, Int.reduceSub, Int.reduceMul, reduceCtorEq, iA, iS, iM, iD, iR, iN, lA, lS, lM, lD, lR, m0, hk, hx2, e1]) ?_
    clear e1
    generalize vu u x 2 (i + 1) = u2 at *
    refine ws_step (L' := lu L 1 (i + 1)) (w := u2) (by simp only [wE_I, wE_V, wE_F, wE_A, wE_N, wE_1, wE_2, wE_D, wE_B, wE_If, wE_C, wE_CV, wE_SL, wE_SA, wA_0, wA_1, wC_B, wC_E, wC_And, wC_Or, wC_Not, wS_Skip, wS_Brk, wS_Cnt, wS_RetV, wS_Ret, wS_Seq, wS_Set, wS_Inc, wS_Do, wS_Put, wS_PutC, wS_Arr, wS_ArrC, wS_If, wS_Sw, wS_F0, wS_F1, wM_q, lu_ap, aL_ap, ct_0, ct_1, ct_2, ct_3, ct_4, ct_5, headD_1, List.mem_cons, List.not_mem_nil, or_false, false_or, or_true, true_or, true_and, and_true, false_and, and_false, not_true_eq_false, not_false_eq_true, if_true, if_false, nr_20, nr_24, nr_40, nr_41, nr_44, pt_lt, pt_ge, pt_eq, pt_ne, pt_gt, pt_le, pt_E, pt_N, pt_F, ite_10, ite_11, ne_eq, and_self, or_self, decide_true, decide_false, Bool.not_true, Bool.not_false, Bool.false_eq_true, Nat.reduceEqDiff, Nat.reduceAdd, Int.reduceEq, Int.reduceLT, Int.reduceLE, Int.reduceNeg, Int.reduceAdd, Int.reduceSub, Int.reduceMul, reduceCtorEq, iA, iS, iM, iD, iR, iN, lA, lS, lM, lD, lR, m0, hk, hM1.tok]) ?_
    have k0 : lu L 1 (i + 1) 0 = x := by simp [lu_ap, m0]
    have k1 : lu L 1 (i + 1) 1 = i + 1 := by simp [lu_ap]
    generalize lu L 1 (i + 1) = L2 at *
    simp only [wE_I, wE_V, wE_F, wE_A, wE_N, wE_1, wE_2, wE_D, wE_B, wE_If, wE_C, wE_CV, wE_SL, wE_SA, wA_0, wA_1, wC_B, wC_E, wC_And, wC_Or, wC_Not, wS_Skip, wS_Brk, wS_Cnt, wS_RetV, wS_Ret, wS_Seq, wS_Set, wS_Inc, wS_Do, wS_Put, wS_PutC, wS_Arr, wS_ArrC, wS_If, wS_Sw, wS_F0, wS_F1, wM_q, lu_ap, aL_ap, ct_0, ct_1, ct_2, ct_3, ct_4, ct_5, headD_1, List.mem_cons, List.not_mem_nil, or_false, false_or, or_true, true_or, true_and, and_true, false_and, and_false, not_true_eq_false, not_false_eq_true, if_true, if_false, nr_20, nr_24, nr_40, nr_41, nr_44, pt_lt, pt_ge, pt_eq, pt_ne, pt_gt, pt_le, pt_E, pt_N, pt_F, ite_10, ite_11, ne_eq, and_self, or_self, decide_true, decide_false, Bool.not_true, Bool.not_false, Bool.false_eq_true, Nat.reduceEqDiff, Nat.reduceAdd, Int.reduceEq, Int.reduceLT, Int.reduceLE, Int.reduceNeg, Int.reduceAdd, Int.reduceSub, Int.reduceMul, reduceCtorEq, iA, iS, iM, iD, iR, iN, lA, lS, lM, lD, lR, k0, k1, hk]
    refine wM_mono (c_newName hM1 (hQ _ _ _) hN ht (fun q => ⟨q.1 _ _ (by omega) (by omega) (by omega) (by omega) (by omega), fun k => q.1 _ _ (by omega) (by omega) (by omega) (by omega) (by omega), fun k => q.1 _ _ (by omega) (by omega) (by omega) (by omega) (by omega)⟩)) ?_
    rintro r w3 e3 ⟨b, hbe, (⟨ck, cb, rfl, hM3⟩ | ⟨ck, rfl, hb, hq⟩ | ⟨ck, cb, rfl, hb, hq⟩)⟩
    · have hme : shM v T i sh b RES.1 = if ¬ kdT v T (i + 2) = 61 then (1, i + 2) else RES.1 := by
        unfold shM
        rw [if_neg c4, if_neg (fun z => z ck), if_neg (fun z => z cb)]
      rw [show i + 1 + 1 = i + 2 by omega] at hM3
      simp only [k0, k1, hk, wE_I, wE_V, wE_F, wE_A, wE_N, wE_1, wE_2, wE_D, wE_B, wE_If, wE_C, wE_CV, wE_SL, wE_SA, wA_0, wA_1, wC_B, wC_E, wC_And, wC_Or, wC_Not, wS_Skip, wS_Brk, wS_Cnt, wS_RetV, wS_Ret, wS_Seq, wS_Set, wS_Inc, wS_Do, wS_Put, wS_PutC, wS_Arr, wS_ArrC, wS_If, wS_Sw, wS_F0, wS_F1, wM_q, lu_ap, aL_ap, ct_0, ct_1, ct_2, ct_3, ct_4, ct_5, headD_1, List.mem_cons, List.not_mem_nil, or_false, false_or, or_true, true_or, true_and, and_true, false_and, and_false, not_true_eq_false, not_false_eq_true, if_true, if_false, nr_20, nr_24, nr_40, nr_41, nr_44, pt_lt, pt_ge, pt_eq, pt_ne, pt_gt, pt_le, pt_E, pt_N, pt_F, ite_10, ite_11, ne_eq, and_self, or_self, decide_true, decide_false, Bool.not_true, Bool.not_false, Bool.false_eq_true, Nat.reduceEqDiff, Nat.reduceAdd, Int.reduceEq, Int.reduceLT, Int.reduceLE, Int.reduceNeg, Int.reduceAdd, Int.reduceSub, Int.reduceMul, reduceCtorEq]
      refine wM_mono (hM3.tak (hQ _ _ _) (k := 61) (by decide)) ?_
      rintro r w4 e4 (⟨g4, rfl, hM4⟩ | ⟨g4, rfl, hln, hq⟩)
      · have c61 : kdT v T (i + 2) = 61 := by
          unfold fKd at g4
          by_cases z : kdT v T (i + 2) = 61
          · exact z
          · rw [if_neg z] at g4; exact absurd g4 (by decide)
        rw [if_neg (fun z => z c61)] at hme
        rw [show i + 2 + 1 = i + 3 by omega] at hM4
        simp only [k0, k1, hk, wE_I, wE_V, wE_F, wE_A, wE_N, wE_1, wE_2, wE_D, wE_B, wE_If, wE_C, wE_CV, wE_SL, wE_SA, wA_0, wA_1, wC_B, wC_E, wC_And, wC_Or, wC_Not, wS_Skip, wS_Brk, wS_Cnt, wS_RetV, wS_Ret, wS_Seq, wS_Set, wS_Inc, wS_Do, wS_Put, wS_PutC, wS_Arr, wS_ArrC, wS_If, wS_Sw, wS_F0, wS_F1, wM_q, lu_ap, aL_ap, ct_0, ct_1, ct_2, ct_3, ct_4, ct_5, headD_1, List.mem_cons, List.not_mem_nil, or_false, false_or, or_true, true_or, true_and, and_true, false_and, and_false, not_true_eq_false, not_false_eq_true, if_true, if_false, nr_20, nr_24, nr_40, nr_41, nr_44, pt_lt, pt_ge, pt_eq, pt_ne, pt_gt, pt_le, pt_E, pt_N, pt_F, ite_10, ite_11, ne_eq, and_self, or_self, decide_true, decide_false, Bool.not_true, Bool.not_false, Bool.false_eq_true, Nat.reduceEqDiff, Nat.reduceAdd, Int.reduceEq, Int.reduceLT, Int.reduceLE, Int.reduceNeg, Int.reduceAdd, Int.reduceSub, Int.reduceMul, reduceCtorEq]
        refine wM_mono (c_formula hL.k hp5 hxP (by omega) hM4 hN hβ hu hl hb hend hR) ?_
        rintro r w5 e5 (⟨g5, rfl, st', hM5⟩ | ⟨g5, rfl, hln, hq⟩)
        · obtain ⟨hPS5, hTR5, hxx5, hfr5, hFR5, hun5⟩ := hM5
          have y1 : w5 x 1 = P := hPS5.2.2.2.1
          have yp : w5 P 5 = F := by rw [hfr5 _ _ (by omega) (by omega) (by omega) (by omega) (by omega)]; exact hp5
          have y0 : w5 F 0 = sh := by rw [hfr5 _ _ (by omega) (by omega) (by omega) (by omega) (by omega)]; exact hsh
          have y7 : w5 x 7 = nn := by rw [hfr5 _ _ (by omega) (by omega) (by omega) (by omega) (by omega)]; exact hnn
          have n0 : 0 ≤ nn := by have := hN.1; omega
          have hrm := q_remember (a := i + 1) (b := 4 + sh) hPS5 y7 ⟨n0, hnb⟩
          have hpl := hL.k
          have e1 : w32 (4 + sh) = 4 + sh := w32_e (by omega)
          simp only [wE_I, wE_V, wE_F, wE_A, wE_N, wE_1, wE_2, wE_D, wE_B, wE_If, wE_C, wE_CV, wE_SL, wE_SA, wA_0, wA_1, wC_B, wC_E, wC_And, wC_Or, wC_Not, wS_Skip, wS_Brk, wS_Cnt, wS_RetV, wS_Ret, wS_Seq, wS_Set, wS_Inc, wS_Do, wS_Put, wS_PutC, wS_Arr, wS_ArrC, wS_If, wS_Sw, wS_F0, wS_F1, wM_q, lu_ap, aL_ap, ct_0, ct_1, ct_2, ct_3, ct_4, ct_5, headD_1, List.mem_cons, List.not_mem_nil, or_false, false_or, or_true, true_or, true_and, and_true, false_and, and_false, not_true_eq_false, not_false_eq_true, if_true, if_false, nr_20, nr_24, nr_40, nr_41, nr_44, pt_lt, pt_ge, pt_eq, pt_ne, pt_gt, pt_le, pt_E, pt_N, pt_F, ite_10, ite_11, ne_eq, and_self, or_self, decide_true, decide_false, Bool.not_true, Bool.not_false, Bool.false_eq_true, Nat.reduceEqDiff, Nat.reduceAdd, Int.reduceEq, Int.reduceLT, Int.reduceLE, Int.reduceNeg, Int.reduceAdd, Int.reduceSub, Int.reduceMul, reduceCtorEq, k0, k1, hk, y1, hpl, yp, hkF, y0, e1, wM_of hrm]
          clear e1
          have kr := (Kc.of kX5_remember hrm).p
          have z1 : (vu (vu (vu w5 (x + 1) nn (i + 1)) (x + 2) nn (4 + sh)) x 7 (nn + 1)) x 1 = P := by rw [vu_ne (by simp), vu_ne (by omega), vu_ne (by omega)]; exact y1
          have zp : (vu (vu (vu w5 (x + 1) nn (i + 1)) (x + 2) nn (4 + sh)) x 7 (nn + 1)) P 5 = F := by rw [vu_ne (by omega), vu_ne (by omega), vu_ne (by omega)]; exact yp
          have z0 : (vu (vu (vu w5 (x + 1) nn (i + 1)) (x + 2) nn (4 + sh)) x 7 (nn + 1)) F 0 = sh := by rw [vu_ne (by omega), vu_ne (by omega), vu_ne (by omega)]; exact y0
          have zn : ∀ a k, a ≠ x → a ≠ x + 1 → a ≠ x + 2 → (vu (vu (vu w5 (x + 1) nn (i + 1)) (x + 2) nn (4 + sh)) x 7 (nn + 1)) a k = w5 a k := fun a k q1 q2 q3 => by rw [vu_ne (by omega), vu_ne (by omega), vu_ne (by omega)]
          have zx : ∀ k, k ≠ 7 → (vu (vu (vu w5 (x + 1) nn (i + 1)) (x + 2) nn (4 + sh)) x 7 (nn + 1)) x k = w5 x k := fun k hk => by rw [vu_ne (by omega), vu_ne (by omega), vu_ne (by omega)]
          have zs : (vu (vu (vu w5 (x + 1) nn (i + 1)) (x + 2) nn (4 + sh)) x 7 (nn + 1)) x 7 = nn + 1 ∧ (vu (vu (vu w5 (x + 1) nn (i + 1)) (x + 2) nn (4 + sh)) x 7 (nn + 1)) (x + 1) nn = i + 1 ∧ (vu (vu (vu w5 (x + 1) nn (i + 1)) (x + 2) nn (4 + sh)) x 7 (nn + 1)) (x + 2) nn = 4 + sh := ⟨vu_is, by rw [vu_ne (by omega), vu_ne (by omega), vu_is], by rw [vu_ne (by omega), vu_is]⟩
          have zf : ∀ a k, (a = x → k ≠ 7) → (a = x + 1 → k ≠ nn) → (a = x + 2 → k ≠ nn) → (vu (vu (vu w5 (x + 1) nn (i + 1)) (x + 2) nn (4 + sh)) x 7 (nn + 1)) a k = w5 a k := fun a k q1 q2 q3 => by rw [vu_ne (fun e => q1 e.1 e.2), vu_ne (fun e => q3 e.1 e.2), vu_ne (fun e => q2 e.1 e.2)]
          generalize (vu (vu (vu w5 (x + 1) nn (i + 1)) (x + 2) nn (4 + sh)) x 7 (nn + 1)) = w6 at *
          have hFR6 := hFR5.kp kr (zx 9 (by decide)) (fun k => zn _ _ (by omega) (by omega) (by omega)) (zn _ _ (by omega) (by omega) (by omega)) (fun k => ⟨zn _ _ (by omega) (by omega) (by omega), zn _ _ (by omega) (by omega) (by omega)⟩)
          have hes := q_endShow hFR6.1 z0 hFR6.2.1 o4
          simp only [wE_I, wE_V, wE_F, wE_A, wE_N, wE_1, wE_2, wE_D, wE_B, wE_If, wE_C, wE_CV, wE_SL, wE_SA, wA_0, wA_1, wC_B, wC_E, wC_And, wC_Or, wC_Not, wS_Skip, wS_Brk, wS_Cnt, wS_RetV, wS_Ret, wS_Seq, wS_Set, wS_Inc, wS_Do, wS_Put, wS_PutC, wS_Arr, wS_ArrC, wS_If, wS_Sw, wS_F0, wS_F1, wM_q, lu_ap, aL_ap, ct_0, ct_1, ct_2, ct_3, ct_4, ct_5, headD_1, List.mem_cons, List.not_mem_nil, or_false, false_or, or_true, true_or, true_and, and_true, false_and, and_false, not_true_eq_false, not_false_eq_true, if_true, if_false, nr_20, nr_24, nr_40, nr_41, nr_44, pt_lt, pt_ge, pt_eq, pt_ne, pt_gt, pt_le, pt_E, pt_N, pt_F, ite_10, ite_11, ne_eq, and_self, or_self, decide_true, decide_false, Bool.not_true, Bool.not_false, Bool.false_eq_true, Nat.reduceEqDiff, Nat.reduceAdd, Int.reduceEq, Int.reduceLT, Int.reduceLE, Int.reduceNeg, Int.reduceAdd, Int.reduceSub, Int.reduceMul, reduceCtorEq, k0, hk, z1, hpl, zp, hkF, wM_of hes]
          have kf := (Kc.of kX1_endShow hes).p
          have hFR7 := hFR6.kp kf (by rw [vu_ne (by omega), vu_ne (by omega)]) (fun k => by rw [vu_ne (by omega), vu_ne (by omega)]) (by rw [vu_ne (by simp), vu_ne (by omega)]) (fun k => ⟨by rw [vu_ne (by omega), vu_ne (by omega)], by rw [vu_ne (by omega), vu_ne (by omega)]⟩)
          have hRz : RES.1.1 = 0 := (stp_i g5).1
          refine ⟨b, hbe, ?_, fun a k q1 q2 q3 q4 q5 q6 q7 q8 => ?_, fun _ => ⟨⟨ck, cb, c61, by omega, hRz⟩, ⟨vu_is, ?_, by rw [vu_ne (by omega), vu_is], hFR7.1, hFR7.2.1, hFR7.2.2.1⟩, ?_⟩⟩
          · rw [hme]
            refine Or.inl ⟨g5, rfl, ?_, ?_, ?_⟩
            · rw [vu_ne (by omega), vu_ne (by omega), zx _ (by decide)]; exact hPS5.2.2.2.2.1
            · rw [vu_ne (by omega), vu_ne (by omega), zx _ (by decide)]; exact hxx5.1
            · rw [vu_ne (by omega), vu_ne (by omega), zx _ (by decide)]; exact hxx5.2
          · rw [vu_ne (fun e => (q5 e.1).1 e.2), vu_ne (fun e => q8 e.1 e.2), zf a k (fun e => (q1 e).2.2.2.1) q2 q3]
            exact ffr.sh hfr5 (nn := nn) (sh := sh) a k q1 q2 q3 q4 q5 q6 q7 q8
          · rw [vu_ne (by simp), vu_ne (by omega), zn _ _ (by omega) (by omega) (by omega)]; exact hun5
          · rw [vu_ne (by omega), vu_ne (by omega), vu_ne (by omega), vu_ne (by omega), vu_ne (by omega), vu_ne (by omega)]; exact zs
        · simp only [wE_I, wE_V, wE_F, wE_A, wE_N, wE_1, wE_2, wE_D, wE_B, wE_If, wE_C, wE_CV, wE_SL, wE_SA, wA_0, wA_1, wC_B, wC_E, wC_And, wC_Or, wC_Not, wS_Skip, wS_Brk, wS_Cnt, wS_RetV, wS_Ret, wS_Seq, wS_Set, wS_Inc, wS_Do, wS_Put, wS_PutC, wS_Arr, wS_ArrC, wS_If, wS_Sw, wS_F0, wS_F1, wM_q, lu_ap, aL_ap, ct_0, ct_1, ct_2, ct_3, ct_4, ct_5, headD_1, List.mem_cons, List.not_mem_nil, or_false, false_or, or_true, true_or, true_and, and_true, false_and, and_false, not_true_eq_false, not_false_eq_true, if_true, if_false, nr_20, nr_24, nr_40, nr_41, nr_44, pt_lt, pt_ge, pt_eq, pt_ne, pt_gt, pt_le, pt_E, pt_N, pt_F, ite_10, ite_11, ne_eq, and_self, or_self, decide_true, decide_false, Bool.not_true, Bool.not_false, Bool.false_eq_true, Nat.reduceEqDiff, Nat.reduceAdd, Int.reduceEq, Int.reduceLT, Int.reduceLE, Int.reduceNeg, Int.reduceAdd, Int.reduceSub, Int.reduceMul, reduceCtorEq]
          exact ⟨b, hbe, by rw [hme]; exact hln, ffr.sh hq, fun z => by rw [hme] at z; exact absurd z g5⟩
      · have c61 : ¬ kdT v T (i + 2) = 61 := fun z => g4 (by unfold fKd; rw [if_pos z])
        have e1 : fKd v T 61 (i + 2) = 1 := by unfold fKd; rw [if_neg c61]
        rw [e1] at hln
        rw [if_pos c61] at hme
        simp only [wE_I, wE_V, wE_F, wE_A, wE_N, wE_1, wE_2, wE_D, wE_B, wE_If, wE_C, wE_CV, wE_SL, wE_SA, wA_0, wA_1, wC_B, wC_E, wC_And, wC_Or, wC_Not, wS_Skip, wS_Brk, wS_Cnt, wS_RetV, wS_Ret, wS_Seq, wS_Set, wS_Inc, wS_Do, wS_Put, wS_PutC, wS_Arr, wS_ArrC, wS_If, wS_Sw, wS_F0, wS_F1, wM_q, lu_ap, aL_ap, ct_0, ct_1, ct_2, ct_3, ct_4, ct_5, headD_1, List.mem_cons, List.not_mem_nil, or_false, false_or, or_true, true_or, true_and, and_true, false_and, and_false, not_true_eq_false, not_false_eq_true, if_true, if_false, nr_20, nr_24, nr_40, nr_41, nr_44, pt_lt, pt_ge, pt_eq, pt_ne, pt_gt, pt_le, pt_E, pt_N, pt_F, ite_10, ite_11, ne_eq, and_self, or_self, decide_true, decide_false, Bool.not_true, Bool.not_false, Bool.false_eq_true, Nat.reduceEqDiff, Nat.reduceAdd, Int.reduceEq, Int.reduceLT, Int.reduceLE, Int.reduceNeg, Int.reduceAdd, Int.reduceSub, Int.reduceMul, reduceCtorEq]
        exact ⟨b, hbe, by rw [hme, stp_ff (by decide)]; exact hln, ffr.sh hq.1, fun z => by rw [hme, stp_ff (by decide)] at z; exact absurd z (by simp)⟩
    · have hme : shM v T i sh b RES.1 = (1, i + 1) := by unfold shM; rw [if_neg c4, if_pos ck]
      simp only [wE_I, wE_V, wE_F, wE_A, wE_N, wE_1, wE_2, wE_D, wE_B, wE_If, wE_C, wE_CV, wE_SL, wE_SA, wA_0, wA_1, wC_B, wC_E, wC_And, wC_Or, wC_Not, wS_Skip, wS_Brk, wS_Cnt, wS_RetV, wS_Ret, wS_Seq, wS_Set, wS_Inc, wS_Do, wS_Put, wS_PutC, wS_Arr, wS_ArrC, wS_If, wS_Sw, wS_F0, wS_F1, wM_q, lu_ap, aL_ap, ct_0, ct_1, ct_2, ct_3, ct_4, ct_5, headD_1, List.mem_cons, List.not_mem_nil, or_false, false_or, or_true, true_or, true_and, and_true, false_and, and_false, not_true_eq_false, not_false_eq_true, if_true, if_false, nr_20, nr_24, nr_40, nr_41, nr_44, pt_lt, pt_ge, pt_eq, pt_ne, pt_gt, pt_le, pt_E, pt_N, pt_F, ite_10, ite_11, ne_eq, and_self, or_self, decide_true, decide_false, Bool.not_true, Bool.not_false, Bool.false_eq_true, Nat.reduceEqDiff, Nat.reduceAdd, Int.reduceEq, Int.reduceLT, Int.reduceLE, Int.reduceNeg, Int.reduceAdd, Int.reduceSub, Int.reduceMul, reduceCtorEq]
      exact ⟨b, hbe, by rw [hme, stp_ff (by decide)]; exact hb, ffr.sh hq.1, fun z => by rw [hme, stp_ff (by decide)] at z; exact absurd z (by simp)⟩
    · have hme : shM v T i sh b RES.1 = (3, i + 1) := by unfold shM; rw [if_neg c4, if_neg (fun z => z ck), if_pos cb]
      simp only [wE_I, wE_V, wE_F, wE_A, wE_N, wE_1, wE_2, wE_D, wE_B, wE_If, wE_C, wE_CV, wE_SL, wE_SA, wA_0, wA_1, wC_B, wC_E, wC_And, wC_Or, wC_Not, wS_Skip, wS_Brk, wS_Cnt, wS_RetV, wS_Ret, wS_Seq, wS_Set, wS_Inc, wS_Do, wS_Put, wS_PutC, wS_Arr, wS_ArrC, wS_If, wS_Sw, wS_F0, wS_F1, wM_q, lu_ap, aL_ap, ct_0, ct_1, ct_2, ct_3, ct_4, ct_5, headD_1, List.mem_cons, List.not_mem_nil, or_false, false_or, or_true, true_or, true_and, and_true, false_and, and_false, not_true_eq_false, not_false_eq_true, if_true, if_false, nr_20, nr_24, nr_40, nr_41, nr_44, pt_lt, pt_ge, pt_eq, pt_ne, pt_gt, pt_le, pt_E, pt_N, pt_F, ite_10, ite_11, ne_eq, and_self, or_self, decide_true, decide_false, Bool.not_true, Bool.not_false, Bool.false_eq_true, Nat.reduceEqDiff, Nat.reduceAdd, Int.reduceEq, Int.reduceLT, Int.reduceLE, Int.reduceNeg, Int.reduceAdd, Int.reduceSub, Int.reduceMul, reduceCtorEq]
      exact ⟨b, hbe, by rw [hme, stp_ff (by decide)]; exact hb, ffr.sh hq.1, fun z => by rw [hme, stp_ff (by decide)] at z; exact absurd z (by simp)⟩
end CSH
