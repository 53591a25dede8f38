/-! STORE: a measure's line, the class's whole -/
def meB (v : QV) (T srt i : Int) : Int × Int := meM v T (leT v T (stp (fNu v T 1 1000) (stp (fKd v T 261) (meW v T srt i))).2) (meL v T (stp (fNu v T 1 1000) (stp (fKd v T 261) (meW v T srt i))))
def meO (v : QV) (T i cnt b : Int) : Int × Int := if 4 ≤ cnt then (4, i) else if ¬ kdT v T (i + 1) = 4 then (1, i + 1) else if ¬ b = -1 then (3, i + 1) else if srtK (kdT v T (i + 2)) = -1 then (1, i + 2) else stp (fKd v T 59) (meB v T (srtK (kdT v T (i + 2))) (i + 3))
def meJ (srt i : Int) : Int := if srt = 2 then i + 2 else i
def mlF (u w : QV) (x P p nn : Int) : Prop := ∀ a k, (a = x → k ≠ 2 ∧ k ≠ 3 ∧ k ≠ 4 ∧ k ≠ 7) → (a = x + 1 → k ≠ nn) → (a = x + 2 → k ≠ nn) → (a = P → k ≠ 1) → a ≠ p → w a k = u a k
theorem meM_d {v : QV} {T lea : Int} {o : Int × Int} (h : ¬ o.1 = 0) : meM v T lea o = o := by
  unfold meM; rw [if_neg (fun z => h z.1)]
theorem meL_d {v : QV} {T : Int} {o : Int × Int} (h : ¬ o.1 = 0) : meL v T o = o := by
  unfold meL; rw [if_neg (fun z => h z.1)]
theorem meW_2 {v : QV} {T srt i : Int} (h : (meW v T srt i).1 = 0) : (meW v T srt i).2 = meJ srt i := by
  unfold meW meJ at *
  by_cases c : srt = 2
  · rw [if_pos c] at h ⊢
    rw [if_pos c]
    obtain ⟨a, b, e⟩ := stp_i h
    obtain ⟨a', b', e'⟩ := stp_i a
    rw [e, e']
    show i + 1 + 1 = i + 2
    omega
  · rw [if_neg c, if_neg c]
section CL2
variable {S : QS} {v w u : QV} {M T n x P : Int} {o : Int × Int}
theorem q_remember {P i a b nn : Int} (h : PS S w T x P i) (hn : w x 7 = nn) (hb : 0 ≤ nn ∧ nn < 8) : mX5_remember [x, a, b] S w = some (0, vu (vu (vu w (x + 1) nn a) (x + 2) nn b) x 7 (nn + 1)) := by
  have hx := h.2.1
  have n1 : ¬ x = x + 1 := by omega
  have n2 : ¬ x = x + 2 := by omega
  have lt : nn < 8 := hb.2
  have e1 : w32 (nn + 1) = nn + 1 := w32_e (by omega)
  apply wM_eq
  simp only [mX5_remember, sX5_remember, wE_I, wE_V, wE_F, wE_A, wE_N, wE_1, wE_2, wE_D, wE_B, wE_If, wE_C, wE_CV, wE_SL, wE_SA, wA_0, wA_1, wC_B, wC_E, wC_And, wC_Or, wC_Not, wS_Skip, wS_Brk, wS_Cnt, wS_RetV, wS_Ret, wS_Seq, wS_Set, wS_Inc, wS_Do, wS_Put, wS_PutC, wS_Arr, wS_ArrC, wS_If, wS_Sw, wS_F0, wS_F1, wM_q, lu_ap, aL_ap, ct_0, ct_1, ct_2, ct_3, ct_4, ct_5, headD_1, List.mem_cons, List.not_mem_nil, or_false, false_or, or_true, true_or, true_and, and_true, false_and, and_false, not_true_eq_false, not_false_eq_true, if_true, if_false, nr_20, nr_24, nr_40, nr_41, nr_44, pt_lt, pt_ge, pt_eq, pt_ne, pt_gt, pt_le, pt_E, pt_N, pt_F, ite_10, ite_11, ne_eq, and_self, or_self, decide_true, decide_false, Bool.not_true, Bool.not_false, Bool.false_eq_true, Nat.reduceEqDiff, Nat.reduceAdd, Int.reduceEq, Int.reduceLT, Int.reduceLE, Int.reduceNeg, Int.reduceAdd, Int.reduceSub, Int.reduceMul, reduceCtorEq, iA, iS, iM, iD, iR, iN, lA, lS, lM, lD, lR, hx.k, hn, hx.p5, hx.p6, hx.a1, hx.n1, hx.a2, hx.n2, hb, lt, Nat.le_refl, vu_ne, n1, n2, e1]
theorem c_newName {Q : QV → Prop} {j : Int} (h : Mi S u v T x P Q w j) (hQ : Qx x Q) (hN : NB u T x) (hT : TR T v u) (hq : Q w → w x 7 = u x 7 ∧ (∀ k, w (x + 1) k = u (x + 1) k) ∧ (∀ k, w (x + 2) k = u (x + 2) k)) : wM mX5_newName [x] S w (fun r w' => ∃ b, (kdT v T j = 4 → isBe u T x j b) ∧ ((kdT v T j = 4 ∧ b = -1 ∧ r = 1 ∧ Mi S u v T x P Q w' (j + 1)) ∨ (¬ kdT v T j = 4 ∧ r = 0 ∧ LnC u w' T x v (1, j) 0 ∧ Q w') ∨ (kdT v T j = 4 ∧ ¬ b = -1 ∧ r = 0 ∧ LnC u w' T x v (3, j) 0 ∧ Q w'))) := by
  have hk := h.1.2.1.k
  have hkd := h.kd
  have h10 := h.1.2.2.2.2.2.2.2.2.2
  obtain ⟨e7, e1, e2⟩ := hq h.2.2.2
  have huw : ∀ a k, T ≤ a → a ≤ T + 4 → w a k = u a k := fun a k q1 q2 => by rw [h.2.1 a k q1 q2, hT a k q1 q2]
  by_cases c : kdT v T j = 4
  · have hNw : NB w T x := by
      unfold NB at hN ⊢
      rw [e7, nt_q huw]
      simp only [e1, e2]
      exact hN
    simp only [mX5_newName, sX5_newName, wE_I, wE_V, wE_F, wE_A, wE_N, wE_1, wE_2, wE_D, wE_B, wE_If, wE_C, wE_CV, wE_SL, wE_SA, wA_0, wA_1, wC_B, wC_E, wC_And, wC_Or, wC_Not, wS_Skip, wS_Brk, wS_Cnt, wS_RetV, wS_Ret, wS_Seq, wS_Set, wS_Inc, wS_Do, wS_Put, wS_PutC, wS_Arr, wS_ArrC, wS_If, wS_Sw, wS_F0, wS_F1, wM_q, lu_ap, aL_ap, ct_0, ct_1, ct_2, ct_3, ct_4, ct_5, headD_1, List.mem_cons, List.not_mem_nil, or_false, false_or, or_true, true_or, true_and, and_true, false_and, and_false, not_true_eq_false, not_false_eq_true, if_true, if_false, nr_20, nr_24, nr_40, nr_41, nr_44, pt_lt, pt_ge, pt_eq, pt_ne, pt_gt, pt_le, pt_E, pt_N, pt_F, ite_10, ite_11, ne_eq, and_self, or_self, decide_true, decide_false, Bool.not_true, Bool.not_false, Bool.false_eq_true, Nat.reduceEqDiff, Nat.reduceAdd, Int.reduceEq, Int.reduceLT, Int.reduceLE, Int.reduceNeg, Int.reduceAdd, Int.reduceSub, Int.reduceMul, reduceCtorEq, iA, iS, iM, iD, iR, iN, lA, lS, lM, lD, lR, hk, wM_of hkd, c]
    refine wM_mono (c_bearerHere h.1 hNw) ?_
    rintro b w1 e ⟨rfl, hbe⟩
    have hbe' : isBe u T x j b := isBe_q huw e7 e1 e2 hbe
    by_cases cb : b = -1
    · obtain ⟨h1, hb0⟩ := h.nx hQ (by rw [c]; decide)
      have htok := h.tok
      have ew : w32 (j + 1) = j + 1 := w32_e (by omega)
      simp only [cb, hk, htok, ew, wE_I, wE_V, wE_F, wE_A, wE_N, wE_1, wE_2, wE_D, wE_B, wE_If, wE_C, wE_CV, wE_SL, wE_SA, wA_0, wA_1, wC_B, wC_E, wC_And, wC_Or, wC_Not, wS_Skip, wS_Brk, wS_Cnt, wS_RetV, wS_Ret, wS_Seq, wS_Set, wS_Inc, wS_Do, wS_Put, wS_PutC, wS_Arr, wS_ArrC, wS_If, wS_Sw, wS_F0, wS_F1, wM_q, lu_ap, aL_ap, ct_0, ct_1, ct_2, ct_3, ct_4, ct_5, headD_1, List.mem_cons, List.not_mem_nil, or_false, false_or, or_true, true_or, true_and, and_true, false_and, and_false, not_true_eq_false, not_false_eq_true, if_true, if_false, nr_20, nr_24, nr_40, nr_41, nr_44, pt_lt, pt_ge, pt_eq, pt_ne, pt_gt, pt_le, pt_E, pt_N, pt_F, ite_10, ite_11, ne_eq, and_self, or_self, decide_true, decide_false, Bool.not_true, Bool.not_false, Bool.false_eq_true, Nat.reduceEqDiff, Nat.reduceAdd, Int.reduceEq, Int.reduceLT, Int.reduceLE, Int.reduceNeg, Int.reduceAdd, Int.reduceSub, Int.reduceMul, reduceCtorEq, iA, iS, iM, iD, iR, iN, lA, lS, lM, lD, lR]
      exact ⟨-1, by rw [← cb]; exact fun _ => hbe', rfl, h1⟩
    · have hf := h.fl (f := 3)
      obtain ⟨f1, f2⟩ := h.fail hQ (f := 3) (by decide)
      simp only [cb, hk, wM_of hf, wE_I, wE_V, wE_F, wE_A, wE_N, wE_1, wE_2, wE_D, wE_B, wE_If, wE_C, wE_CV, wE_SL, wE_SA, wA_0, wA_1, wC_B, wC_E, wC_And, wC_Or, wC_Not, wS_Skip, wS_Brk, wS_Cnt, wS_RetV, wS_Ret, wS_Seq, wS_Set, wS_Inc, wS_Do, wS_Put, wS_PutC, wS_Arr, wS_ArrC, wS_If, wS_Sw, wS_F0, wS_F1, wM_q, lu_ap, aL_ap, ct_0, ct_1, ct_2, ct_3, ct_4, ct_5, headD_1, List.mem_cons, List.not_mem_nil, or_false, false_or, or_true, true_or, true_and, and_true, false_and, and_false, not_true_eq_false, not_false_eq_true, if_true, if_false, nr_20, nr_24, nr_40, nr_41, nr_44, pt_lt, pt_ge, pt_eq, pt_ne, pt_gt, pt_le, pt_E, pt_N, pt_F, ite_10, ite_11, ne_eq, and_self, or_self, decide_true, decide_false, Bool.not_true, Bool.not_false, Bool.false_eq_true, Nat.reduceEqDiff, Nat.reduceAdd, Int.reduceEq, Int.reduceLT, Int.reduceLE, Int.reduceNeg, Int.reduceAdd, Int.reduceSub, Int.reduceMul, reduceCtorEq]
      exact ⟨b, fun _ => hbe', cb, f1, f2⟩
  · have hf := h.fl (f := 1)
    obtain ⟨f1, f2⟩ := h.fail hQ (f := 1) (by decide)
    simp only [mX5_newName, sX5_newName, wE_I, wE_V, wE_F, wE_A, wE_N, wE_1, wE_2, wE_D, wE_B, wE_If, wE_C, wE_CV, wE_SL, wE_SA, wA_0, wA_1, wC_B, wC_E, wC_And, wC_Or, wC_Not, wS_Skip, wS_Brk, wS_Cnt, wS_RetV, wS_Ret, wS_Seq, wS_Set, wS_Inc, wS_Do, wS_Put, wS_PutC, wS_Arr, wS_ArrC, wS_If, wS_Sw, wS_F0, wS_F1, wM_q, lu_ap, aL_ap, ct_0, ct_1, ct_2, ct_3, ct_4, ct_5, headD_1, List.mem_cons, List.not_mem_nil, or_false, false_or, or_true, true_or, true_and, and_true, false_and, and_false, not_true_eq_false, not_false_eq_true, if_true, if_false, nr_20, nr_24, nr_40, nr_41, nr_44, pt_lt, pt_ge, pt_eq, pt_ne, pt_gt, pt_le, pt_E, pt_N, pt_F, ite_10, ite_11, ne_eq, and_self, or_self, decide_true, decide_false, Bool.not_true, Bool.not_false, Bool.false_eq_true, Nat.reduceEqDiff, Nat.reduceAdd, Int.reduceEq, Int.reduceLT, Int.reduceLE, Int.reduceNeg, Int.reduceAdd, Int.reduceSub, Int.reduceMul, reduceCtorEq, iA, iS, iM, iD, iR, iN, lA, lS, lM, lD, lR, hk, wM_of hkd, c, wM_of hf]
    exact ⟨0, fun z => z.elim, f1, f2⟩
theorem c_measureLine {i cnt nn : Int} (h : PS S u T x P i) (hL : LPl S u P) (hxP : x + 3 < P) (ht : TR T v u) (hK : kdT v T i ≠ 1) (hN : NB u T x) (hcnt : u P 1 = cnt) (hc0 : 0 ≤ cnt) (hnn : u x 7 = nn) (hnb4 : cnt < 4 → nn < 8) : wM mX5_measureLine [x] S u (fun r w => ∃ b, (kdT v T (i + 1) = 4 → isBe u T x (i + 1) b) ∧ LnC u w T x v (meO v T i cnt b) r ∧ mlF u w x P (P + (9 + cnt)) nn ∧ ((meO v T i cnt b).1 = 0 → (kdT v T (i + 1) = 4 ∧ b = -1 ∧ ¬ srtK (kdT v T (i + 2)) = -1 ∧ cnt < 4) ∧ w P 1 = cnt + 1 ∧ (w x 7 = nn + 1 ∧ w (x + 1) nn = i + 1 ∧ w (x + 2) nn = cnt) ∧ w (P + (9 + cnt)) 0 = srtK (kdT v T (i + 2)) ∧ (srtK (kdT v T (i + 2)) = 2 → w (P + (9 + cnt)) 1 = nmT v T (i + 3) ∧ w (P + (9 + cnt)) 2 = nmT v T (i + 3 + 1)) ∧ w (P + (9 + cnt)) 3 = nmT v T (meJ (srtK (kdT v T (i + 2))) (i + 3) + 1) ∧ w (P + (9 + cnt)) 4 = leT v T (meJ (srtK (kdT v T (i + 2))) (i + 3) + 2) ∧ w (P + (9 + cnt)) 5 = moT v T (meL v T (0, meJ (srtK (kdT v T (i + 2))) (i + 3) + 2)).2 ∧ w (P + (9 + cnt)) 6 = 0)) := by
  have h10 := h.2.2.2.2.2.2.2.2.2
  have hx1 := h.2.2.2.1
  have hx2 := h.2.2.2.2.1
  have hi6 := h.2.2.2.2.2.1
  have hi7 := h.2.2.2.2.2.2.1.1
  have hk := h.2.1.k
  by_cases c4 : 4 ≤ cnt
  · have ho : meO v T i cnt (-1) = (4, i) := by unfold meO; rw [if_pos c4]
    have hf := q_fail (f := 4) h
    rw [st_q ht] at hf
    have hbx : ∃ b, (kdT v T (i + 1) = 4 → isBe u T x (i + 1) b) := by
      by_cases z : ∃ b, isBe u T x (i + 1) b
      · obtain ⟨b, hb⟩ := z; exact ⟨b, fun _ => hb⟩
      · refine ⟨-1, fun _ => Or.inr ⟨rfl, fun j j0 j1 hsm => ?_⟩⟩
        exfalso
        have hmin : ∀ k : Nat, ∀ j : Int, j = k → j < u x 7 → smW u T (u (x + 1) j) (i + 1) → ∃ b, isBe u T x (i + 1) b := by
          intro k
          induction k using Nat.strongRecOn with
          | ind k ih =>
            intro j hj hj1 hs
            by_cases y : ∃ j', 0 ≤ j' ∧ j' < j ∧ smW u T (u (x + 1) j') (i + 1)
            · obtain ⟨j', a, b, c⟩ := y
              exact ih j'.toNat (by omega) j' (by omega) (by omega) c
            · exact ⟨_, Or.inl ⟨j, ⟨by omega, hj1⟩, hs, fun j' a b c => y ⟨j', a, b, c⟩, rfl⟩⟩
        exact z (hmin j.toNat j (by omega) j1 hsm)
    obtain ⟨b, hb⟩ := hbx
    have ho' : meO v T i cnt b = (4, i) := by unfold meO; rw [if_pos c4]
    simp only [mX5_measureLine, sX5_measureLine, wE_I, wE_V, wE_F, wE_A, wE_N, wE_1, wE_2, wE_D, wE_B, wE_If, wE_C, wE_CV, wE_SL, wE_SA, wA_0, wA_1, wC_B, wC_E, wC_And, wC_Or, wC_Not, wS_Skip, wS_Brk, wS_Cnt, wS_RetV, wS_Ret, wS_Seq, wS_Set, wS_Inc, wS_Do, wS_Put, wS_PutC, wS_Arr, wS_ArrC, wS_If, wS_Sw, wS_F0, wS_F1, wM_q, lu_ap, aL_ap, ct_0, ct_1, ct_2, ct_3, ct_4, ct_5, headD_1, List.mem_cons, List.not_mem_nil, or_false, false_or, or_true, true_or, true_and, and_true, false_and, and_false, not_true_eq_false, not_false_eq_true, if_true, if_false, nr_20, nr_24, nr_40, nr_41, nr_44, pt_lt, pt_ge, pt_eq, pt_ne, pt_gt, pt_le, pt_E, pt_N, pt_F, ite_10, ite_11, ne_eq, and_self, or_self, decide_true, decide_false, Bool.not_true, Bool.not_false, Bool.false_eq_true, Nat.reduceEqDiff, Nat.reduceAdd, Int.reduceEq, Int.reduceLT, Int.reduceLE, Int.reduceNeg, Int.reduceAdd, Int.reduceSub, Int.reduceMul, reduceCtorEq, iA, iS, iM, iD, iR, iN, lA, lS, lM, lD, lR, hk, hx1, hL.k, hcnt, c4, wM_of hf]
    refine ⟨b, hb, ?_, fun a k q1 q2 q3 q4 q5 => ?_, fun z => ?_⟩
    · rw [ho']
      exact Or.inr ⟨by simp, rfl, by rw [vu_ne (by simp), vu_is], vu_is⟩
    · rw [vu_ne (fun e => (q1 e.1).2.2.1 e.2), vu_ne (fun e => (q1 e.1).2.1 e.2)]
    · rw [ho'] at z; exact absurd z (by simp)
  · have o4 : 0 ≤ cnt ∧ cnt < 4 := by omega
    have hnb : nn < 8 := hnb4 o4.2
    have hpm := hL.m cnt o4.1 o4.2
    have hem := hL.em cnt o4.1 o4.2
    have hnx := h.nx (by rw [kd_q ht]; exact hK)
    rw [nt_q ht] at hnx
    simp only [mX5_measureLine, sX5_measureLine, wM_q]
    generalize hLL : aL 0 [2] [x] = L
    have m0 : L 0 = x := by rw [← hLL]; simp [aL_ap, ct_0, ct_1, ct_2]
    clear hLL
    refine ws_step (L' := L) (w := u) (by simp only [wE_I, wE_V, wE_F, wE_A, wE_N, wE_1, wE_2, wE_D, wE_B, wE_If, wE_C, wE_CV, wE_SL, wE_SA, wA_0, wA_1, wC_B, wC_E, wC_And, wC_Or, wC_Not, wS_Skip, wS_Brk, wS_Cnt, wS_RetV, wS_Ret, wS_Seq, wS_Set, wS_Inc, wS_Do, wS_Put, wS_PutC, wS_Arr, wS_ArrC, wS_If, wS_Sw, wS_F0, wS_F1, wM_q, lu_ap, aL_ap, ct_0, ct_1, ct_2, ct_3, ct_4, ct_5, headD_1, List.mem_cons, List.not_mem_nil, or_false, false_or, or_true, true_or, true_and, and_true, false_and, and_false, not_true_eq_false, not_false_eq_true, if_true, if_false, nr_20, nr_24, nr_40, nr_41, nr_44, pt_lt, pt_ge, pt_eq, pt_ne, pt_gt, pt_le, pt_E, pt_N, pt_F, ite_10, ite_11, ne_eq, and_self, or_self, decide_true, decide_false, Bool.not_true, Bool.not_false, Bool.false_eq_true, Nat.reduceEqDiff, Nat.reduceAdd, Int.reduceEq, Int.reduceLT, Int.reduceLE, Int.reduceNeg, Int.reduceAdd, Int.reduceSub, Int.reduceMul, reduceCtorEq, iA, iS, iM, iD, iR, iN, lA, lS, lM, lD, lR, m0, hk, hx1, hL.k, hcnt, c4]) ?_
    refine ws_step (L' := lu L 1 (P + (9 + cnt))) (w := u) (by simp only [wE_I, wE_V, wE_F, wE_A, wE_N, wE_1, wE_2, wE_D, wE_B, wE_If, wE_C, wE_CV, wE_SL, wE_SA, wA_0, wA_1, wC_B, wC_E, wC_And, wC_Or, wC_Not, wS_Skip, wS_Brk, wS_Cnt, wS_RetV, wS_Ret, wS_Seq, wS_Set, wS_Inc, wS_Do, wS_Put, wS_PutC, wS_Arr, wS_ArrC, wS_If, wS_Sw, wS_F0, wS_F1, wM_q, lu_ap, aL_ap, ct_0, ct_1, ct_2, ct_3, ct_4, ct_5, headD_1, List.mem_cons, List.not_mem_nil, or_false, false_or, or_true, true_or, true_and, and_true, false_and, and_false, not_true_eq_false, not_false_eq_true, if_true, if_false, nr_20, nr_24, nr_40, nr_41, nr_44, pt_lt, pt_ge, pt_eq, pt_ne, pt_gt, pt_le, pt_E, pt_N, pt_F, ite_10, ite_11, ne_eq, and_self, or_self, decide_true, decide_false, Bool.not_true, Bool.not_false, Bool.false_eq_true, Nat.reduceEqDiff, Nat.reduceAdd, Int.reduceEq, Int.reduceLT, Int.reduceLE, Int.reduceNeg, Int.reduceAdd, Int.reduceSub, Int.reduceMul, reduceCtorEq, iA, iS, iM, iD, iR, iN, lA, lS, lM, lD, lR, m0, hk, hx1, hL.k, hcnt, hL.p3, hL.a1, hL.n1, o4, hem]) ?_
    have l0 : lu L 1 (P + (9 + cnt)) 0 = x := by simp [lu_ap, m0]
    have l1 : lu L 1 (P + (9 + cnt)) 1 = P + (9 + cnt) := by simp [lu_ap]
    generalize lu L 1 (P + (9 + cnt)) = L1 at *
    generalize hp : P + (9 + cnt) = p at *
    have hxp : x < p := by omega
    have hnpx : p ≠ x := by omega
    have hPp : P ≠ p := by omega
    have hcl : mX2_clear [p] S u = some (0, vu (vu (vu u p 4 0) p 5 999999) p 6 0) := by
      apply wM_eq
      simp only [mX2_clear, sX2_clear, wE_I, wE_V, wE_F, wE_A, wE_N, wE_1, wE_2, wE_D, wE_B, wE_If, wE_C, wE_CV, wE_SL, wE_SA, wA_0, wA_1, wC_B, wC_E, wC_And, wC_Or, wC_Not, wS_Skip, wS_Brk, wS_Cnt, wS_RetV, wS_Ret, wS_Seq, wS_Set, wS_Inc, wS_Do, wS_Put, wS_PutC, wS_Arr, wS_ArrC, wS_If, wS_Sw, wS_F0, wS_F1, wM_q, lu_ap, aL_ap, ct_0, ct_1, ct_2, ct_3, ct_4, ct_5, headD_1, List.mem_cons, List.not_mem_nil, or_false, false_or, or_true, true_or, true_and, and_true, false_and, and_false, not_true_eq_false, not_false_eq_true, if_true, if_false, nr_20, nr_24, nr_40, nr_41, nr_44, pt_lt, pt_ge, pt_eq, pt_ne, pt_gt, pt_le, pt_E, pt_N, pt_F, ite_10, ite_11, ne_eq, and_self, or_self, decide_true, decide_false, Bool.not_true, Bool.not_false, Bool.false_eq_true, Nat.reduceEqDiff, Nat.reduceAdd, Int.reduceEq, Int.reduceLT, Int.reduceLE, Int.reduceNeg, Int.reduceAdd, Int.reduceSub, Int.reduceMul, reduceCtorEq, iA, iS, iM, iD, iR, iN, lA, lS, lM, lD, lR, hpm]
    refine ws_step (L' := L1) (w := vu (vu (vu u p 4 0) p 5 999999) p 6 0) (by simp only [wE_I, wE_V, wE_F, wE_A, wE_N, wE_1, wE_2, wE_D, wE_B, wE_If, wE_C, wE_CV, wE_SL, wE_SA, wA_0, wA_1, wC_B, wC_E, wC_And, wC_Or, wC_Not, wS_Skip, wS_Brk, wS_Cnt, wS_RetV, wS_Ret, wS_Seq, wS_Set, wS_Inc, wS_Do, wS_Put, wS_PutC, wS_Arr, wS_ArrC, wS_If, wS_Sw, wS_F0, wS_F1, wM_q, lu_ap, aL_ap, ct_0, ct_1, ct_2, ct_3, ct_4, ct_5, headD_1, List.mem_cons, List.not_mem_nil, or_false, false_or, or_true, true_or, true_and, and_true, false_and, and_false, not_true_eq_false, not_false_eq_true, if_true, if_false, nr_20, nr_24, nr_40, nr_41, nr_44, pt_lt, pt_ge, pt_eq, pt_ne, pt_gt, pt_le, pt_E, pt_N, pt_F, ite_10, ite_11, ne_eq, and_self, or_self, decide_true, decide_false, Bool.not_true, Bool.not_false, Bool.false_eq_true, Nat.reduceEqDiff, Nat.reduceAdd, Int.reduceEq, Int.reduceLT, Int.reduceLE, Int.reduceNeg, Int.reduceAdd, Int.reduceSub, Int.reduceMul, reduceCtorEq, iA, iS, iM, iD, iR, iN, lA, lS, lM, lD, lR, l1, hpm, wM_of hcl]) ?_
    have wpk : ∀ k : Int, Wc (S.1 p) k = true := fun k => by rw [hpm]; rfl
    have hM0 : Mi S u v T x P (fun w => meF u w x p ∧ True) u i := ⟨h, ht, ⟨rfl, rfl⟩, fun _ _ _ _ => rfl, trivial⟩
    have hM1 := ((hM0.put (a := p) (k := 4) (z := 0) (Q' := fun w => meF u w x p ∧ w p 4 = 0) hxp (wpk 4) (fun w q => ⟨q.1.put, vu_is⟩)).put (a := p) (k := 5) (z := 999999) (Q' := fun w => meF u w x p ∧ w p 4 = 0 ∧ w p 5 = 999999) hxp (wpk 5) (fun w q => ⟨q.1.put, by rw [vu_ne (by simp)]; exact q.2, vu_is⟩)).put (a := p) (k := 6) (z := 0) (Q' := fun w => meF u w x p ∧ w p 6 = 0 ∧ w p 4 = 0 ∧ w p 5 = 999999) hxp (wpk 6) (fun w q => ⟨q.1.put, vu_is, by rw [vu_ne (by simp)]; exact q.2.1, by rw [vu_ne (by simp)]; exact q.2.2⟩)
    generalize vu (vu (vu u p 4 0) p 5 999999) p 6 0 = u1 at *
    have pv : ∀ (w : QV) (k z f : Int), vu w x k z p f = w p f := fun w k z f => vu_ne (by omega)
    have hQ1 : Qx x (fun w => meF u w x p ∧ w p 6 = 0 ∧ w p 4 = 0 ∧ w p 5 = 999999) := meF.qx hnpx _ (fun w k z q => by rw [pv, pv, pv]; exact q)
    have htok := hM1.tok
    obtain ⟨hM2, hib⟩ := hM1.nx hQ1 hK
    have e1 : w32 (i + 1) = i + 1 := w32_e (by omega)
    refine ws_step (L' := L1) (w := vu u1 x 2 (i + 1)) (by simp only [wE_I, wE_V, wE_F, wE_A, wE_N, wE_1, wE_2, wE_D, wE_B, wE_If, wE_C, wE_CV, wE_SL, wE_SA, wA_0, wA_1, wC_B, wC_E, wC_And, wC_Or, wC_Not, wS_Skip, wS_Brk, wS_Cnt, wS_RetV, wS_Ret, wS_Seq, wS_Set, wS_Inc, wS_Do, wS_Put, wS_PutC, wS_Arr, wS_ArrC, wS_If, wS_Sw, wS_F0, wS_F1, wM_q, lu_ap, aL_ap, ct_0, ct_1, ct_2, ct_3, ct_4, ct_5, headD_1, List.mem_cons, List.not_mem_nil, or_false, false_or, or_true, true_or, true_and, and_true, false_and, and_false, not_true_eq_false, not_false_eq_true, if_true, if_false, nr_20, nr_24, nr_40, nr_41, nr_44, pt_lt, pt_ge, pt_eq, pt_ne, pt_gt, pt_le, pt_E, pt_N, pt_F, ite_10, ite_11, ne_eq, and_self, or_self, decide_true, decide_false, Bool.not_true, Bool.not_false, Bool.false_eq_true, Nat.reduceEqDiff, Nat.reduceAdd, Int.reduceEq, Int.reduceLT, Int.reduceLE, Int.reduceNeg, Int.reduceAdd, Int.reduceSub, Int.reduceMul, reduceCtorEq, iA, iS, iM, iD, iR, iN, lA, lS, lM, lD, lR, l0, hk, htok, e1]) ?_
    clear e1
    generalize vu u1 x 2 (i + 1) = u2 at *
    refine ws_step (L' := lu L1 2 (i + 1)) (w := u2) (by simp only [wE_I, wE_V, wE_F, wE_A, wE_N, wE_1, wE_2, wE_D, wE_B, wE_If, wE_C, wE_CV, wE_SL, wE_SA, wA_0, wA_1, wC_B, wC_E, wC_And, wC_Or, wC_Not, wS_Skip, wS_Brk, wS_Cnt, wS_RetV, wS_Ret, wS_Seq, wS_Set, wS_Inc, wS_Do, wS_Put, wS_PutC, wS_Arr, wS_ArrC, wS_If, wS_Sw, wS_F0, wS_F1, wM_q, lu_ap, aL_ap, ct_0, ct_1, ct_2, ct_3, ct_4, ct_5, headD_1, List.mem_cons, List.not_mem_nil, or_false, false_or, or_true, true_or, true_and, and_true, false_and, and_false, not_true_eq_false, not_false_eq_true, if_true, if_false, nr_20, nr_24, nr_40, nr_41, nr_44, pt_lt, pt_ge, pt_eq, pt_ne, pt_gt, pt_le, pt_E, pt_N, pt_F, ite_10, ite_11, ne_eq, and_self, or_self, decide_true, decide_false, Bool.not_true, Bool.not_false, Bool.false_eq_true, Nat.reduceEqDiff, Nat.reduceAdd, Int.reduceEq, Int.reduceLT, Int.reduceLE, Int.reduceNeg, Int.reduceAdd, Int.reduceSub, Int.reduceMul, reduceCtorEq, iA, iS, iM, iD, iR, iN, lA, lS, lM, lD, lR, l0, hk, hM2.tok]) ?_
    have k0 : lu L1 2 (i + 1) 0 = x := by simp [lu_ap, l0]
    have k1 : lu L1 2 (i + 1) 1 = p := by simp [lu_ap, l1]
    have k2 : lu L1 2 (i + 1) 2 = i + 1 := by simp [lu_ap]
    generalize lu L1 2 (i + 1) = L2 at *
    have mlo : ∀ w, meF u w x p → mlF u w x P p nn := fun w hw a k q1 q2 q3 q4 q5 => hw a k (fun e => ⟨(q1 e).1, (q1 e).2.1, (q1 e).2.2.1⟩) q5
    simp only [wE_I, wE_V, wE_F, wE_A, wE_N, wE_1, wE_2, wE_D, wE_B, wE_If, wE_C, wE_CV, wE_SL, wE_SA, wA_0, wA_1, wC_B, wC_E, wC_And, wC_Or, wC_Not, wS_Skip, wS_Brk, wS_Cnt, wS_RetV, wS_Ret, wS_Seq, wS_Set, wS_Inc, wS_Do, wS_Put, wS_PutC, wS_Arr, wS_ArrC, wS_If, wS_Sw, wS_F0, wS_F1, wM_q, lu_ap, aL_ap, ct_0, ct_1, ct_2, ct_3, ct_4, ct_5, headD_1, List.mem_cons, List.not_mem_nil, or_false, false_or, or_true, true_or, true_and, and_true, false_and, and_false, not_true_eq_false, not_false_eq_true, if_true, if_false, nr_20, nr_24, nr_40, nr_41, nr_44, pt_lt, pt_ge, pt_eq, pt_ne, pt_gt, pt_le, pt_E, pt_N, pt_F, ite_10, ite_11, ne_eq, and_self, or_self, decide_true, decide_false, Bool.not_true, Bool.not_false, Bool.false_eq_true, Nat.reduceEqDiff, Nat.reduceAdd, Int.reduceEq, Int.reduceLT, Int.reduceLE, Int.reduceNeg, Int.reduceAdd, Int.reduceSub, Int.reduceMul, reduceCtorEq, iA, iS, iM, iD, iR, iN, lA, lS, lM, lD, lR, k0, k1, hk]
    refine wM_mono (c_newName hM2 hQ1 hN ht (fun q => ⟨q.1 _ _ (by omega) (by omega), fun k => q.1 _ _ (by omega) (by omega), fun k => q.1 _ _ (by omega) (by omega)⟩)) ?_
    rintro r w3 e3 ⟨b, hbe, (⟨ck, cb, rfl, hM3⟩ | ⟨ck, rfl, hb, hq⟩ | ⟨ck, cb, rfl, hb, hq⟩)⟩
    · have hme : meO v T i cnt b = if srtK (kdT v T (i + 2)) = -1 then (1, i + 2) else stp (fKd v T 59) (meB v T (srtK (kdT v T (i + 2))) (i + 3)) := by
        unfold meO
        rw [if_neg c4, if_neg (fun z => z ck), if_neg (fun z => z cb)]
      rw [show i + 1 + 1 = i + 2 by omega] at hM3
      simp only [k0, k1, hk, wE_I, wE_V, wE_F, wE_A, wE_N, wE_1, wE_2, wE_D, wE_B, wE_If, wE_C, wE_CV, wE_SL, wE_SA, wA_0, wA_1, wC_B, wC_E, wC_And, wC_Or, wC_Not, wS_Skip, wS_Brk, wS_Cnt, wS_RetV, wS_Ret, wS_Seq, wS_Set, wS_Inc, wS_Do, wS_Put, wS_PutC, wS_Arr, wS_ArrC, wS_If, wS_Sw, wS_F0, wS_F1, wM_q, lu_ap, aL_ap, ct_0, ct_1, ct_2, ct_3, ct_4, ct_5, headD_1, List.mem_cons, List.not_mem_nil, or_false, false_or, or_true, true_or, true_and, and_true, false_and, and_false, not_true_eq_false, not_false_eq_true, if_true, if_false, nr_20, nr_24, nr_40, nr_41, nr_44, pt_lt, pt_ge, pt_eq, pt_ne, pt_gt, pt_le, pt_E, pt_N, pt_F, ite_10, ite_11, ne_eq, and_self, or_self, decide_true, decide_false, Bool.not_true, Bool.not_false, Bool.false_eq_true, Nat.reduceEqDiff, Nat.reduceAdd, Int.reduceEq, Int.reduceLT, Int.reduceLE, Int.reduceNeg, Int.reduceAdd, Int.reduceSub, Int.reduceMul, reduceCtorEq]
      refine wM_mono (c_sort hpm hxp (fun w k z q => by rw [pv, pv, pv]; exact q) (fun w z q => by rw [vu_ne (by simp), vu_ne (by simp), vu_ne (by simp)]; exact q) hM3) ?_
      rintro r w4 e4 (⟨cs, rfl, hM4⟩ | ⟨cs, rfl, hb, hq⟩)
      rotate_left
      · simp only [wE_I, wE_V, wE_F, wE_A, wE_N, wE_1, wE_2, wE_D, wE_B, wE_If, wE_C, wE_CV, wE_SL, wE_SA, wA_0, wA_1, wC_B, wC_E, wC_And, wC_Or, wC_Not, wS_Skip, wS_Brk, wS_Cnt, wS_RetV, wS_Ret, wS_Seq, wS_Set, wS_Inc, wS_Do, wS_Put, wS_PutC, wS_Arr, wS_ArrC, wS_If, wS_Sw, wS_F0, wS_F1, wM_q, lu_ap, aL_ap, ct_0, ct_1, ct_2, ct_3, ct_4, ct_5, headD_1, List.mem_cons, List.not_mem_nil, or_false, false_or, or_true, true_or, true_and, and_true, false_and, and_false, not_true_eq_false, not_false_eq_true, if_true, if_false, nr_20, nr_24, nr_40, nr_41, nr_44, pt_lt, pt_ge, pt_eq, pt_ne, pt_gt, pt_le, pt_E, pt_N, pt_F, ite_10, ite_11, ne_eq, and_self, or_self, decide_true, decide_false, Bool.not_true, Bool.not_false, Bool.false_eq_true, Nat.reduceEqDiff, Nat.reduceAdd, Int.reduceEq, Int.reduceLT, Int.reduceLE, Int.reduceNeg, Int.reduceAdd, Int.reduceSub, Int.reduceMul, reduceCtorEq]
        rw [if_pos cs] at hme
        exact ⟨b, hbe, by rw [hme]; exact hb, mlo _ hq, fun z => by rw [hme] at z; exact absurd z (by simp)⟩
      rw [if_neg cs] at hme
      generalize srtK (kdT v T (i + 2)) = srt at *
      rw [show i + 2 + 1 = i + 3 by omega] at hM4
      have hM4' := hM4.cg (Q' := fun w => meF u w x p ∧ (w p 6 = 0 ∧ w p 4 = 0 ∧ w p 5 = 999999) ∧ w p 0 = srt) (fun q => q)
      simp only [k0, k1, hk, wE_I, wE_V, wE_F, wE_A, wE_N, wE_1, wE_2, wE_D, wE_B, wE_If, wE_C, wE_CV, wE_SL, wE_SA, wA_0, wA_1, wC_B, wC_E, wC_And, wC_Or, wC_Not, wS_Skip, wS_Brk, wS_Cnt, wS_RetV, wS_Ret, wS_Seq, wS_Set, wS_Inc, wS_Do, wS_Put, wS_PutC, wS_Arr, wS_ArrC, wS_If, wS_Sw, wS_F0, wS_F1, wM_q, lu_ap, aL_ap, ct_0, ct_1, ct_2, ct_3, ct_4, ct_5, headD_1, List.mem_cons, List.not_mem_nil, or_false, false_or, or_true, true_or, true_and, and_true, false_and, and_false, not_true_eq_false, not_false_eq_true, if_true, if_false, nr_20, nr_24, nr_40, nr_41, nr_44, pt_lt, pt_ge, pt_eq, pt_ne, pt_gt, pt_le, pt_E, pt_N, pt_F, ite_10, ite_11, ne_eq, and_self, or_self, decide_true, decide_false, Bool.not_true, Bool.not_false, Bool.false_eq_true, Nat.reduceEqDiff, Nat.reduceAdd, Int.reduceEq, Int.reduceLT, Int.reduceLE, Int.reduceNeg, Int.reduceAdd, Int.reduceSub, Int.reduceMul, reduceCtorEq]
      refine wM_mono (c_widths (R := fun w => (w p 6 = 0 ∧ w p 4 = 0 ∧ w p 5 = 999999) ∧ w p 0 = srt) hpm hxp (fun w k z q => by rw [pv, pv, pv, pv]; exact q) (fun w k z hk q => by rw [vu_ne (by omega), vu_ne (by omega), vu_ne (by omega), vu_ne (by omega)]; exact q) (fun w q => q.2) hM4') ?_
      rintro r w5 e5 (⟨g5, rfl, hM5⟩ | ⟨g5, rfl, hb, hq⟩)
      rotate_left
      · simp only [wE_I, wE_V, wE_F, wE_A, wE_N, wE_1, wE_2, wE_D, wE_B, wE_If, wE_C, wE_CV, wE_SL, wE_SA, wA_0, wA_1, wC_B, wC_E, wC_And, wC_Or, wC_Not, wS_Skip, wS_Brk, wS_Cnt, wS_RetV, wS_Ret, wS_Seq, wS_Set, wS_Inc, wS_Do, wS_Put, wS_PutC, wS_Arr, wS_ArrC, wS_If, wS_Sw, wS_F0, wS_F1, wM_q, lu_ap, aL_ap, ct_0, ct_1, ct_2, ct_3, ct_4, ct_5, headD_1, List.mem_cons, List.not_mem_nil, or_false, false_or, or_true, true_or, true_and, and_true, false_and, and_false, not_true_eq_false, not_false_eq_true, if_true, if_false, nr_20, nr_24, nr_40, nr_41, nr_44, pt_lt, pt_ge, pt_eq, pt_ne, pt_gt, pt_le, pt_E, pt_N, pt_F, ite_10, ite_11, ne_eq, and_self, or_self, decide_true, decide_false, Bool.not_true, Bool.not_false, Bool.false_eq_true, Nat.reduceEqDiff, Nat.reduceAdd, Int.reduceEq, Int.reduceLT, Int.reduceLE, Int.reduceNeg, Int.reduceAdd, Int.reduceSub, Int.reduceMul, reduceCtorEq]
        have ho : meO v T i cnt b = meW v T srt (i + 3) := by
          rw [hme]
          unfold meB
          rw [stp_t g5, stp_t g5, meL_d g5, meM_d g5, stp_t g5]
        exact ⟨b, hbe, by rw [ho]; exact hb, mlo _ hq, fun z => by rw [ho] at z; exact absurd z g5⟩
      have hj2 := meW_2 g5
      rw [hj2] at hM5
      have hmw : meW v T srt (i + 3) = (0, meJ srt (i + 3)) := pair_e g5 hj2
      unfold meB at hme
      rw [hmw] at hme
      generalize meJ srt (i + 3) = j at *
      simp only [k0, k1, hk, wE_I, wE_V, wE_F, wE_A, wE_N, wE_1, wE_2, wE_D, wE_B, wE_If, wE_C, wE_CV, wE_SL, wE_SA, wA_0, wA_1, wC_B, wC_E, wC_And, wC_Or, wC_Not, wS_Skip, wS_Brk, wS_Cnt, wS_RetV, wS_Ret, wS_Seq, wS_Set, wS_Inc, wS_Do, wS_Put, wS_PutC, wS_Arr, wS_ArrC, wS_If, wS_Sw, wS_F0, wS_F1, wM_q, lu_ap, aL_ap, ct_0, ct_1, ct_2, ct_3, ct_4, ct_5, headD_1, List.mem_cons, List.not_mem_nil, or_false, false_or, or_true, true_or, true_and, and_true, false_and, and_false, not_true_eq_false, not_false_eq_true, if_true, if_false, nr_20, nr_24, nr_40, nr_41, nr_44, pt_lt, pt_ge, pt_eq, pt_ne, pt_gt, pt_le, pt_E, pt_N, pt_F, ite_10, ite_11, ne_eq, and_self, or_self, decide_true, decide_false, Bool.not_true, Bool.not_false, Bool.false_eq_true, Nat.reduceEqDiff, Nat.reduceAdd, Int.reduceEq, Int.reduceLT, Int.reduceLE, Int.reduceNeg, Int.reduceAdd, Int.reduceSub, Int.reduceMul, reduceCtorEq]
      refine wM_mono (c_silence (R := fun w => ((w p 6 = 0 ∧ w p 4 = 0 ∧ w p 5 = 999999) ∧ w p 0 = srt) ∧ (srt = 2 → w p 1 = nmT v T (i + 3) ∧ w p 2 = nmT v T (i + 3 + 1))) hpm hxp (fun w k z q => by rw [pv, pv, pv, pv, pv, pv]; exact q) (fun w z q => by rw [vu_ne (by simp), vu_ne (by simp), vu_ne (by simp), vu_ne (by simp), vu_ne (by simp), vu_ne (by simp)]; exact q) hM5) ?_
      rintro r w6 e6 (⟨g6, rfl, hM6⟩ | ⟨g6, rfl, hb, hq⟩)
      rotate_left
      · simp only [wE_I, wE_V, wE_F, wE_A, wE_N, wE_1, wE_2, wE_D, wE_B, wE_If, wE_C, wE_CV, wE_SL, wE_SA, wA_0, wA_1, wC_B, wC_E, wC_And, wC_Or, wC_Not, wS_Skip, wS_Brk, wS_Cnt, wS_RetV, wS_Ret, wS_Seq, wS_Set, wS_Inc, wS_Do, wS_Put, wS_PutC, wS_Arr, wS_ArrC, wS_If, wS_Sw, wS_F0, wS_F1, wM_q, lu_ap, aL_ap, ct_0, ct_1, ct_2, ct_3, ct_4, ct_5, headD_1, List.mem_cons, List.not_mem_nil, or_false, false_or, or_true, true_or, true_and, and_true, false_and, and_false, not_true_eq_false, not_false_eq_true, if_true, if_false, nr_20, nr_24, nr_40, nr_41, nr_44, pt_lt, pt_ge, pt_eq, pt_ne, pt_gt, pt_le, pt_E, pt_N, pt_F, ite_10, ite_11, ne_eq, and_self, or_self, decide_true, decide_false, Bool.not_true, Bool.not_false, Bool.false_eq_true, Nat.reduceEqDiff, Nat.reduceAdd, Int.reduceEq, Int.reduceLT, Int.reduceLE, Int.reduceNeg, Int.reduceAdd, Int.reduceSub, Int.reduceMul, reduceCtorEq]
        have ho : meO v T i cnt b = stp (fNu v T 1 1000) (stp (fKd v T 261) (0, j)) := by
          rw [hme, meL_d g6, meM_d g6, stp_t g6]
        exact ⟨b, hbe, by rw [ho]; exact hb, mlo _ hq, fun z => by rw [ho] at z; exact absurd z g6⟩
      have hsj : stp (fNu v T 1 1000) (stp (fKd v T 261) (0, j)) = (0, j + 2) := by
        obtain ⟨a1, a2, a3⟩ := stp_i g6
        obtain ⟨b1, b2, b3⟩ := stp_i a1
        refine pair_e g6 ?_
        rw [a3, b3]
        show j + 1 + 1 = j + 2
        omega
      rw [hsj] at hme
      have hM6' := hM6.cg (Q' := fun w => meF u w x p ∧ (w p 6 = 0 ∧ w p 0 = srt ∧ (srt = 2 → w p 1 = nmT v T (i + 3) ∧ w p 2 = nmT v T (i + 3 + 1)) ∧ w p 3 = nmT v T (j + 1)) ∧ w p 4 = 0 ∧ w p 5 = 999999) (fun q => ⟨q.1, ⟨q.2.1.1.1.1, q.2.1.1.2, q.2.1.2, q.2.2⟩, q.2.1.1.1.2⟩)
      simp only [k0, k1, hk, wE_I, wE_V, wE_F, wE_A, wE_N, wE_1, wE_2, wE_D, wE_B, wE_If, wE_C, wE_CV, wE_SL, wE_SA, wA_0, wA_1, wC_B, wC_E, wC_And, wC_Or, wC_Not, wS_Skip, wS_Brk, wS_Cnt, wS_RetV, wS_Ret, wS_Seq, wS_Set, wS_Inc, wS_Do, wS_Put, wS_PutC, wS_Arr, wS_ArrC, wS_If, wS_Sw, wS_F0, wS_F1, wM_q, lu_ap, aL_ap, ct_0, ct_1, ct_2, ct_3, ct_4, ct_5, headD_1, List.mem_cons, List.not_mem_nil, or_false, false_or, or_true, true_or, true_and, and_true, false_and, and_false, not_true_eq_false, not_false_eq_true, if_true, if_false, nr_20, nr_24, nr_40, nr_41, nr_44, pt_lt, pt_ge, pt_eq, pt_ne, pt_gt, pt_le, pt_E, pt_N, pt_F, ite_10, ite_11, ne_eq, and_self, or_self, decide_true, decide_false, Bool.not_true, Bool.not_false, Bool.false_eq_true, Nat.reduceEqDiff, Nat.reduceAdd, Int.reduceEq, Int.reduceLT, Int.reduceLE, Int.reduceNeg, Int.reduceAdd, Int.reduceSub, Int.reduceMul, reduceCtorEq]
      refine wM_mono (c_bounds (R := fun w => w p 6 = 0 ∧ w p 0 = srt ∧ (srt = 2 → w p 1 = nmT v T (i + 3) ∧ w p 2 = nmT v T (i + 3 + 1)) ∧ w p 3 = nmT v T (j + 1)) hpm hxp (fun w k z q => by rw [pv, pv, pv, pv, pv]; exact q) (fun w k z hk q => by rw [vu_ne (by omega), vu_ne (by omega), vu_ne (by omega), vu_ne (by omega), vu_ne (by omega)]; exact q) hM6') ?_
      rintro r w7 e7 (⟨g7, rfl, hM7⟩ | ⟨g7, rfl, hb, hq⟩)
      rotate_left
      · simp only [wE_I, wE_V, wE_F, wE_A, wE_N, wE_1, wE_2, wE_D, wE_B, wE_If, wE_C, wE_CV, wE_SL, wE_SA, wA_0, wA_1, wC_B, wC_E, wC_And, wC_Or, wC_Not, wS_Skip, wS_Brk, wS_Cnt, wS_RetV, wS_Ret, wS_Seq, wS_Set, wS_Inc, wS_Do, wS_Put, wS_PutC, wS_Arr, wS_ArrC, wS_If, wS_Sw, wS_F0, wS_F1, wM_q, lu_ap, aL_ap, ct_0, ct_1, ct_2, ct_3, ct_4, ct_5, headD_1, List.mem_cons, List.not_mem_nil, or_false, false_or, or_true, true_or, true_and, and_true, false_and, and_false, not_true_eq_false, not_false_eq_true, if_true, if_false, nr_20, nr_24, nr_40, nr_41, nr_44, pt_lt, pt_ge, pt_eq, pt_ne, pt_gt, pt_le, pt_E, pt_N, pt_F, ite_10, ite_11, ne_eq, and_self, or_self, decide_true, decide_false, Bool.not_true, Bool.not_false, Bool.false_eq_true, Nat.reduceEqDiff, Nat.reduceAdd, Int.reduceEq, Int.reduceLT, Int.reduceLE, Int.reduceNeg, Int.reduceAdd, Int.reduceSub, Int.reduceMul, reduceCtorEq]
        have ho : meO v T i cnt b = meM v T (leT v T (j + 2)) (meL v T (0, j + 2)) := by rw [hme, stp_t g7]
        exact ⟨b, hbe, by rw [ho]; exact hb, mlo _ hq, fun z => by rw [ho] at z; exact absurd z g7⟩
      have hme2 : meO v T i cnt b = stp (fKd v T 59) (meM v T (leT v T (j + 2)) (meL v T (0, j + 2))) := hme
      rw [pair_e g7 rfl] at hme2
      generalize (meM v T (leT v T (j + 2)) (meL v T (0, j + 2))).2 = j7 at *
      simp only [k0, k1, hk, wE_I, wE_V, wE_F, wE_A, wE_N, wE_1, wE_2, wE_D, wE_B, wE_If, wE_C, wE_CV, wE_SL, wE_SA, wA_0, wA_1, wC_B, wC_E, wC_And, wC_Or, wC_Not, wS_Skip, wS_Brk, wS_Cnt, wS_RetV, wS_Ret, wS_Seq, wS_Set, wS_Inc, wS_Do, wS_Put, wS_PutC, wS_Arr, wS_ArrC, wS_If, wS_Sw, wS_F0, wS_F1, wM_q, lu_ap, aL_ap, ct_0, ct_1, ct_2, ct_3, ct_4, ct_5, headD_1, List.mem_cons, List.not_mem_nil, or_false, false_or, or_true, true_or, true_and, and_true, false_and, and_false, not_true_eq_false, not_false_eq_true, if_true, if_false, nr_20, nr_24, nr_40, nr_41, nr_44, pt_lt, pt_ge, pt_eq, pt_ne, pt_gt, pt_le, pt_E, pt_N, pt_F, ite_10, ite_11, ne_eq, and_self, or_self, decide_true, decide_false, Bool.not_true, Bool.not_false, Bool.false_eq_true, Nat.reduceEqDiff, Nat.reduceAdd, Int.reduceEq, Int.reduceLT, Int.reduceLE, Int.reduceNeg, Int.reduceAdd, Int.reduceSub, Int.reduceMul, reduceCtorEq]
      refine wM_mono (hM7.tak (k := 59) (meF.qx hnpx _ (fun w k z q => by rw [pv, pv, pv, pv, pv, pv, pv]; exact q)) (by decide)) ?_
      rintro r w8 e8 (⟨g8, rfl, hM8⟩ | ⟨g8, rfl, hb, hq⟩)
      rotate_left
      · simp only [wE_I, wE_V, wE_F, wE_A, wE_N, wE_1, wE_2, wE_D, wE_B, wE_If, wE_C, wE_CV, wE_SL, wE_SA, wA_0, wA_1, wC_B, wC_E, wC_And, wC_Or, wC_Not, wS_Skip, wS_Brk, wS_Cnt, wS_RetV, wS_Ret, wS_Seq, wS_Set, wS_Inc, wS_Do, wS_Put, wS_PutC, wS_Arr, wS_ArrC, wS_If, wS_Sw, wS_F0, wS_F1, wM_q, lu_ap, aL_ap, ct_0, ct_1, ct_2, ct_3, ct_4, ct_5, headD_1, List.mem_cons, List.not_mem_nil, or_false, false_or, or_true, true_or, true_and, and_true, false_and, and_false, not_true_eq_false, not_false_eq_true, if_true, if_false, nr_20, nr_24, nr_40, nr_41, nr_44, pt_lt, pt_ge, pt_eq, pt_ne, pt_gt, pt_le, pt_E, pt_N, pt_F, ite_10, ite_11, ne_eq, and_self, or_self, decide_true, decide_false, Bool.not_true, Bool.not_false, Bool.false_eq_true, Nat.reduceEqDiff, Nat.reduceAdd, Int.reduceEq, Int.reduceLT, Int.reduceLE, Int.reduceNeg, Int.reduceAdd, Int.reduceSub, Int.reduceMul, reduceCtorEq]
        have ho : meO v T i cnt b = (fKd v T 59 j7, j7) := by rw [hme2, stp_0f g8]
        exact ⟨b, hbe, by rw [ho]; exact hb, mlo _ hq.1, fun z => by rw [ho] at z; exact absurd z g8⟩
      rw [stp_00 g8] at hme2
      obtain ⟨hP8, ht8, ⟨z3, z4⟩, hF8, ⟨y6, y0, y12, y3⟩, y4, y5⟩ := hM8
      have w81 : w8 P 1 = cnt := by rw [hF8 _ _ (by omega) hPp]; exact hcnt
      have w87 : w8 x 7 = nn := by rw [hF8 _ _ (by omega) (by omega)]; exact hnn
      have hx18 := hP8.2.2.2.1
      have hLk : S.1 P = 7 := hL.k
      have hrm := q_remember (a := i + 1) (b := cnt) hP8 w87 ⟨by have := hN.1; omega, hnb⟩
      have n1 : vu (vu (vu w8 (x + 1) nn (i + 1)) (x + 2) nn cnt) x 7 (nn + 1) x 1 = P := by rw [vu_ne (by simp), vu_ne (by omega), vu_ne (by omega)]; exact hx18
      have n2 : vu (vu (vu w8 (x + 1) nn (i + 1)) (x + 2) nn cnt) x 7 (nn + 1) P 1 = cnt := by rw [vu_ne (by omega), vu_ne (by omega), vu_ne (by omega)]; exact w81
      have e9 : w32 (cnt + 1) = cnt + 1 := w32_e (by omega)
      simp only [k0, k1, k2, hk, hx18, hLk, w81, wM_of hrm, n1, n2, e9, wE_I, wE_V, wE_F, wE_A, wE_N, wE_1, wE_2, wE_D, wE_B, wE_If, wE_C, wE_CV, wE_SL, wE_SA, wA_0, wA_1, wC_B, wC_E, wC_And, wC_Or, wC_Not, wS_Skip, wS_Brk, wS_Cnt, wS_RetV, wS_Ret, wS_Seq, wS_Set, wS_Inc, wS_Do, wS_Put, wS_PutC, wS_Arr, wS_ArrC, wS_If, wS_Sw, wS_F0, wS_F1, wM_q, lu_ap, aL_ap, ct_0, ct_1, ct_2, ct_3, ct_4, ct_5, headD_1, List.mem_cons, List.not_mem_nil, or_false, false_or, or_true, true_or, true_and, and_true, false_and, and_false, not_true_eq_false, not_false_eq_true, if_true, if_false, nr_20, nr_24, nr_40, nr_41, nr_44, pt_lt, pt_ge, pt_eq, pt_ne, pt_gt, pt_le, pt_E, pt_N, pt_F, ite_10, ite_11, ne_eq, and_self, or_self, decide_true, decide_false, Bool.not_true, Bool.not_false, Bool.false_eq_true, Nat.reduceEqDiff, Nat.reduceAdd, Int.reduceEq, Int.reduceLT, Int.reduceLE, Int.reduceNeg, Int.reduceAdd, Int.reduceSub, Int.reduceMul, reduceCtorEq, iA, iS, iM, iD, iR, iN, lA, lS, lM, lD, lR]
      clear e9
      have hX : ∀ a k, a ≠ x → a ≠ x + 1 → a ≠ x + 2 → a ≠ P → vu (vu (vu (vu w8 (x + 1) nn (i + 1)) (x + 2) nn cnt) x 7 (nn + 1)) P 1 (cnt + 1) a k = w8 a k := fun a k q1 q2 q3 q4 => by
        rw [vu_ne (fun e => q4 e.1), vu_ne (fun e => q1 e.1), vu_ne (fun e => q3 e.1), vu_ne (fun e => q2 e.1)]
      have hXx : ∀ k, k ≠ 7 → vu (vu (vu (vu w8 (x + 1) nn (i + 1)) (x + 2) nn cnt) x 7 (nn + 1)) P 1 (cnt + 1) x k = w8 x k := fun k q1 => by
        rw [vu_ne (by omega), vu_ne (fun e => q1 e.2), vu_ne (by omega), vu_ne (by omega)]
      refine ⟨b, hbe, Or.inl ⟨by rw [hme2], rfl, by rw [hme2, hXx 2 (by decide)]; exact hP8.2.2.2.2.1, by rw [hXx 3 (by decide)]; exact z3, by rw [hXx 4 (by decide)]; exact z4⟩, fun a k q1 q2 q3 q4 q5 => ?_, fun _ => ⟨⟨ck, cb, cs, o4.2⟩, vu_is, ⟨by rw [vu_ne (by omega), vu_is], by rw [vu_ne (by omega), vu_ne (by omega), vu_ne (by omega), vu_is], by rw [vu_ne (by omega), vu_ne (by omega), vu_is]⟩, ?_⟩⟩
      · rw [vu_ne (fun e => q4 e.1 e.2), vu_ne (fun e => (q1 e.1).2.2.2 e.2), vu_ne (fun e => q3 e.1 e.2), vu_ne (fun e => q2 e.1 e.2)]
        exact hF8 a k (fun e => ⟨(q1 e).1, (q1 e).2.1, (q1 e).2.2.1⟩) q5
      · rw [hX p 0 (by omega) (by omega) (by omega) (by omega), hX p 1 (by omega) (by omega) (by omega) (by omega), hX p 2 (by omega) (by omega) (by omega) (by omega), hX p 3 (by omega) (by omega) (by omega) (by omega), hX p 4 (by omega) (by omega) (by omega) (by omega), hX p 5 (by omega) (by omega) (by omega) (by omega), hX p 6 (by omega) (by omega) (by omega) (by omega)]
        exact ⟨y0, y12, y3, y4, y5, y6⟩
    · simp only [wE_I, wE_V, wE_F, wE_A, wE_N, wE_1, wE_2, wE_D, wE_B, wE_If, wE_C, wE_CV, wE_SL, wE_SA, wA_0, wA_1, wC_B, wC_E, wC_And, wC_Or, wC_Not, wS_Skip, wS_Brk, wS_Cnt, wS_RetV, wS_Ret, wS_Seq, wS_Set, wS_Inc, wS_Do, wS_Put, wS_PutC, wS_Arr, wS_ArrC, wS_If, wS_Sw, wS_F0, wS_F1, wM_q, lu_ap, aL_ap, ct_0, ct_1, ct_2, ct_3, ct_4, ct_5, headD_1, List.mem_cons, List.not_mem_nil, or_false, false_or, or_true, true_or, true_and, and_true, false_and, and_false, not_true_eq_false, not_false_eq_true, if_true, if_false, nr_20, nr_24, nr_40, nr_41, nr_44, pt_lt, pt_ge, pt_eq, pt_ne, pt_gt, pt_le, pt_E, pt_N, pt_F, ite_10, ite_11, ne_eq, and_self, or_self, decide_true, decide_false, Bool.not_true, Bool.not_false, Bool.false_eq_true, Nat.reduceEqDiff, Nat.reduceAdd, Int.reduceEq, Int.reduceLT, Int.reduceLE, Int.reduceNeg, Int.reduceAdd, Int.reduceSub, Int.reduceMul, reduceCtorEq]
      have ho : meO v T i cnt b = (1, i + 1) := by unfold meO; rw [if_neg c4, if_pos ck]
      exact ⟨b, hbe, by rw [ho]; exact hb, mlo _ hq.1, fun z => by rw [ho] at z; exact absurd z (by simp)⟩
    · simp only [wE_I, wE_V, wE_F, wE_A, wE_N, wE_1, wE_2, wE_D, wE_B, wE_If, wE_C, wE_CV, wE_SL, wE_SA, wA_0, wA_1, wC_B, wC_E, wC_And, wC_Or, wC_Not, wS_Skip, wS_Brk, wS_Cnt, wS_RetV, wS_Ret, wS_Seq, wS_Set, wS_Inc, wS_Do, wS_Put, wS_PutC, wS_Arr, wS_ArrC, wS_If, wS_Sw, wS_F0, wS_F1, wM_q, lu_ap, aL_ap, ct_0, ct_1, ct_2, ct_3, ct_4, ct_5, headD_1, List.mem_cons, List.not_mem_nil, or_false, false_or, or_true, true_or, true_and, and_true, false_and, and_false, not_true_eq_false, not_false_eq_true, if_true, if_false, nr_20, nr_24, nr_40, nr_41, nr_44, pt_lt, pt_ge, pt_eq, pt_ne, pt_gt, pt_le, pt_E, pt_N, pt_F, ite_10, ite_11, ne_eq, and_self, or_self, decide_true, decide_false, Bool.not_true, Bool.not_false, Bool.false_eq_true, Nat.reduceEqDiff, Nat.reduceAdd, Int.reduceEq, Int.reduceLT, Int.reduceLE, Int.reduceNeg, Int.reduceAdd, Int.reduceSub, Int.reduceMul, reduceCtorEq]
      have ho : meO v T i cnt b = (3, i + 1) := by unfold meO; rw [if_neg c4, if_neg (fun z => z ck), if_pos cb]
      exact ⟨b, hbe, by rw [ho]; exact hb, mlo _ hq.1, fun z => by rw [ho] at z; exact absurd z (by simp)⟩
end CL2
