/-! STORE: a measure's line, the class's pieces -/
def meF (u w : QV) (x p : Int) : Prop := ∀ a k, (a = x → k ≠ 2 ∧ k ≠ 3 ∧ k ≠ 4) → a ≠ p → w a k = u a k
theorem meF.put {u w : QV} {x p k z : Int} (h : meF u w x p) : meF u (vu w p k z) x p := fun a j q1 q2 => by
  rw [vu_ne (fun e => q2 e.1)]
  exact h a j q1 q2
def srtK (k : Int) : Int := if k = 258 then 0 else if k = 259 then 1 else if k = 260 then 2 else -1
def meW (v : QV) (T srt : Int) (i : Int) : Int × Int := if srt = 2 then stp (fNu v T (nmT v T i + 1) 20) (stp (fNu v T 4 20) (0, i)) else (0, i)
def meL (v : QV) (T : Int) (o : Int × Int) : Int × Int := if o.1 = 0 ∧ kdT v T o.2 = 262 then stp (fNu v T 0 999999) (0, o.2 + 1) else o
def leT (v : QV) (T j : Int) : Int := if kdT v T j = 262 then nmT v T (j + 1) else 0
def meM (v : QV) (T lea : Int) (o : Int × Int) : Int × Int := if o.1 = 0 ∧ kdT v T o.2 = 263 then stp (fNu v T lea 999999) (0, o.2 + 1) else o
def moT (v : QV) (T j : Int) : Int := if kdT v T j = 263 then nmT v T (j + 1) else 999999
section CM2
variable {S : QS} {v w u : QV} {M T n x P : Int} {o : Int × Int}
theorem meF.qx {p : Int} (hp : p ≠ x) (R : QV → Prop) (hR : ∀ w k z, R w → R (vu w x k z)) : Qx x (fun w => meF u w x p ∧ R w) := fun w k z hw hk => ⟨fun a j q1 q2 => by
  rw [vu_ne (fun e => by have := q1 e.1; omega)]; exact hw.1 a j q1 q2, hR _ _ _ hw.2⟩
theorem Mi.cg {Q Q' : QV → Prop} {j : Int} (h : Mi S u v T x P Q w j) (hq : Q w → Q' w) : Mi S u v T x P Q' w j := ⟨h.1, h.2.1, h.2.2.1, hq h.2.2.2⟩
theorem Mi.kd {Q : QV → Prop} {j : Int} (h : Mi S u v T x P Q w j) : mX5_kind [x] S w = some (kdT v T j, w) := by
  have := q_kind h.1
  have h10 := h.1.2.2.2.2.2.2.2.2.2
  rw [kd_q h.2.1] at this
  exact this
theorem Mi.fl {Q : QV → Prop} {j f : Int} (h : Mi S u v T x P Q w j) : mX5_fail [x, f] S w = some (0, vu (vu w x 3 f) x 4 (stT v T j)) := by
  have := q_fail (f := f) h.1
  have h10 := h.1.2.2.2.2.2.2.2.2.2
  rw [st_q h.2.1] at this
  exact this
theorem Mi.tok {Q : QV → Prop} {j : Int} (h : Mi S u v T x P Q w j) : w x 2 = j := h.1.2.2.2.2.1
theorem Mi.nx {Q : QV → Prop} {j : Int} (h : Mi S u v T x P Q w j) (hQ : Qx x Q) (hk : kdT v T j ≠ 1) : Mi S u v T x P Q (vu w x 2 (j + 1)) (j + 1) ∧ (0 ≤ j ∧ j ≤ 1001) := by
  have h10 := h.1.2.2.2.2.2.2.2.2.2
  have h6 := h.1.2.2.2.2.2.1
  have h7 := h.1.2.2.2.2.2.2.1.1
  have hn := h.1.nx (by rw [kd_q h.2.1]; exact hk)
  rw [nt_q h.2.1] at hn
  exact ⟨h.go hQ ⟨by omega, hn⟩, by omega⟩
theorem c_sort {p j : Int} {R : QV → Prop} (hp : S.1 p = 3) (hxp : x < p) (hR : ∀ w k z, R w → R (vu w x k z)) (hR0 : ∀ w z, R w → R (vu w p 0 z)) (h : Mi S u v T x P (fun w => meF u w x p ∧ R w) w j) : wM mX5_sort [x, p] S w (fun r w' => (¬ srtK (kdT v T j) = -1 ∧ r = 1 ∧ Mi S u v T x P (fun w => meF u w x p ∧ R w ∧ w p 0 = srtK (kdT v T j)) w' (j + 1)) ∨ (srtK (kdT v T j) = -1 ∧ r = 0 ∧ LnC u w' T x v (1, j) 0 ∧ meF u w' x p)) := by
  have hnx : p ≠ x := by omega
  have hk := h.1.2.1.k
  have hkd := h.kd
  have hf := h.fl (f := 1)
  have htok := h.tok
  have hQ : Qx x (fun w => meF u w x p ∧ R w) := meF.qx hnx _ hR
  obtain ⟨f1, f2⟩ := h.fail hQ (f := 1) (by decide)
  have key : ∀ z : Int, srtK (kdT v T j) = z → ¬ z = -1 → kdT v T j ≠ 1 → Mi S u v T x P (fun w => meF u w x p ∧ R w ∧ w p 0 = z) (vu (vu w p 0 z) x 2 (j + 1)) (j + 1) ∧ w32 (j + 1) = j + 1 := fun z hz hz1 hK1 => by
    have h1 := h.put (a := p) (k := 0) (z := z) (Q' := fun w => meF u w x p ∧ R w ∧ w p 0 = z) hxp (by rw [hp]; rfl) (fun w q => ⟨q.1.put, hR0 _ _ q.2, vu_is⟩)
    have h2 := h1.nx (meF.qx hnx _ (fun w k z q => ⟨hR _ _ _ q.1, by rw [vu_ne (by omega)]; exact q.2⟩)) hK1
    exact ⟨h2.1, w32_e (by omega)⟩
  have pt : ∀ z : Int, vu w p 0 z x 2 = j := fun z => by rw [vu_ne (by omega)]; exact htok
  generalize hkk : kdT v T j = k at *
  by_cases c1 : k = 258
  · subst c1
    obtain ⟨h2, e1⟩ := key 0 rfl (by decide) (by decide)
    simp only [mX5_sort, sX5_sort, wE_I, wE_V, wE_F, wE_A, wE_N, wE_1, wE_2, wE_D, wE_B, wE_If, wE_C, wE_CV, wE_SL, wE_SA, wA_0, wA_1, wC_B, wC_E, wC_And, wC_Or, wC_Not, wS_Skip, wS_Brk, wS_Cnt, wS_RetV, wS_Ret, wS_Seq, wS_Set, wS_Inc, wS_Do, wS_Put, wS_PutC, wS_Arr, wS_ArrC, wS_If, wS_Sw, wS_F0, wS_F1, wM_q, lu_ap, aL_ap, ct_0, ct_1, ct_2, ct_3, ct_4, ct_5, headD_1, List.mem_cons, List.not_mem_nil, or_false, false_or, or_true, true_or, true_and, and_true, false_and, and_false, not_true_eq_false, not_false_eq_true, if_true, if_false, nr_20, nr_24, nr_40, nr_41, nr_44, pt_lt, pt_ge, pt_eq, pt_ne, pt_gt, pt_le, pt_E, pt_N, pt_F, ite_10, ite_11, ne_eq, and_self, or_self, decide_true, decide_false, Bool.not_true, Bool.not_false, Bool.false_eq_true, Nat.reduceEqDiff, Nat.reduceAdd, Int.reduceEq, Int.reduceLT, Int.reduceLE, Int.reduceNeg, Int.reduceAdd, Int.reduceSub, Int.reduceMul, reduceCtorEq, iA, iS, iM, iD, iR, iN, lA, lS, lM, lD, lR, hk, hp, wM_of hkd, pt, e1]
    exact ⟨by decide, h2⟩
  · by_cases c2 : k = 259
    · subst c2
      obtain ⟨h2, e1⟩ := key 1 rfl (by decide) (by decide)
      simp only [mX5_sort, sX5_sort, wE_I, wE_V, wE_F, wE_A, wE_N, wE_1, wE_2, wE_D, wE_B, wE_If, wE_C, wE_CV, wE_SL, wE_SA, wA_0, wA_1, wC_B, wC_E, wC_And, wC_Or, wC_Not, wS_Skip, wS_Brk, wS_Cnt, wS_RetV, wS_Ret, wS_Seq, wS_Set, wS_Inc, wS_Do, wS_Put, wS_PutC, wS_Arr, wS_ArrC, wS_If, wS_Sw, wS_F0, wS_F1, wM_q, lu_ap, aL_ap, ct_0, ct_1, ct_2, ct_3, ct_4, ct_5, headD_1, List.mem_cons, List.not_mem_nil, or_false, false_or, or_true, true_or, true_and, and_true, false_and, and_false, not_true_eq_false, not_false_eq_true, if_true, if_false, nr_20, nr_24, nr_40, nr_41, nr_44, pt_lt, pt_ge, pt_eq, pt_ne, pt_gt, pt_le, pt_E, pt_N, pt_F, ite_10, ite_11, ne_eq, and_self, or_self, decide_true, decide_false, Bool.not_true, Bool.not_false, Bool.false_eq_true, Nat.reduceEqDiff, Nat.reduceAdd, Int.reduceEq, Int.reduceLT, Int.reduceLE, Int.reduceNeg, Int.reduceAdd, Int.reduceSub, Int.reduceMul, reduceCtorEq, iA, iS, iM, iD, iR, iN, lA, lS, lM, lD, lR, hk, hp, wM_of hkd, pt, e1]
      exact ⟨by decide, h2⟩
    · by_cases c3 : k = 260
      · subst c3
        obtain ⟨h2, e1⟩ := key 2 rfl (by decide) (by decide)
        simp only [mX5_sort, sX5_sort, wE_I, wE_V, wE_F, wE_A, wE_N, wE_1, wE_2, wE_D, wE_B, wE_If, wE_C, wE_CV, wE_SL, wE_SA, wA_0, wA_1, wC_B, wC_E, wC_And, wC_Or, wC_Not, wS_Skip, wS_Brk, wS_Cnt, wS_RetV, wS_Ret, wS_Seq, wS_Set, wS_Inc, wS_Do, wS_Put, wS_PutC, wS_Arr, wS_ArrC, wS_If, wS_Sw, wS_F0, wS_F1, wM_q, lu_ap, aL_ap, ct_0, ct_1, ct_2, ct_3, ct_4, ct_5, headD_1, List.mem_cons, List.not_mem_nil, or_false, false_or, or_true, true_or, true_and, and_true, false_and, and_false, not_true_eq_false, not_false_eq_true, if_true, if_false, nr_20, nr_24, nr_40, nr_41, nr_44, pt_lt, pt_ge, pt_eq, pt_ne, pt_gt, pt_le, pt_E, pt_N, pt_F, ite_10, ite_11, ne_eq, and_self, or_self, decide_true, decide_false, Bool.not_true, Bool.not_false, Bool.false_eq_true, Nat.reduceEqDiff, Nat.reduceAdd, Int.reduceEq, Int.reduceLT, Int.reduceLE, Int.reduceNeg, Int.reduceAdd, Int.reduceSub, Int.reduceMul, reduceCtorEq, iA, iS, iM, iD, iR, iN, lA, lS, lM, lD, lR, hk, hp, wM_of hkd, pt, e1]
        exact ⟨by decide, h2⟩
      · have hs : srtK k = -1 := by unfold srtK; rw [if_neg c1, if_neg c2, if_neg c3]
        simp only [mX5_sort, sX5_sort, wE_I, wE_V, wE_F, wE_A, wE_N, wE_1, wE_2, wE_D, wE_B, wE_If, wE_C, wE_CV, wE_SL, wE_SA, wA_0, wA_1, wC_B, wC_E, wC_And, wC_Or, wC_Not, wS_Skip, wS_Brk, wS_Cnt, wS_RetV, wS_Ret, wS_Seq, wS_Set, wS_Inc, wS_Do, wS_Put, wS_PutC, wS_Arr, wS_ArrC, wS_If, wS_Sw, wS_F0, wS_F1, wM_q, lu_ap, aL_ap, ct_0, ct_1, ct_2, ct_3, ct_4, ct_5, headD_1, List.mem_cons, List.not_mem_nil, or_false, false_or, or_true, true_or, true_and, and_true, false_and, and_false, not_true_eq_false, not_false_eq_true, if_true, if_false, nr_20, nr_24, nr_40, nr_41, nr_44, pt_lt, pt_ge, pt_eq, pt_ne, pt_gt, pt_le, pt_E, pt_N, pt_F, ite_10, ite_11, ne_eq, and_self, or_self, decide_true, decide_false, Bool.not_true, Bool.not_false, Bool.false_eq_true, Nat.reduceEqDiff, Nat.reduceAdd, Int.reduceEq, Int.reduceLT, Int.reduceLE, Int.reduceNeg, Int.reduceAdd, Int.reduceSub, Int.reduceMul, reduceCtorEq, iA, iS, iM, iD, iR, iN, lA, lS, lM, lD, lR, hk, hp, wM_of hkd, c1, c2, c3, wM_of hf]
        exact ⟨hs, f1, f2.1⟩
theorem c_widths {p j srt : Int} {R : QV → Prop} (hp : S.1 p = 3) (hxp : x < p) (hR : ∀ w k z, R w → R (vu w x k z)) (hR0 : ∀ w k z, k = 1 ∨ k = 2 → R w → R (vu w p k z)) (hR1 : ∀ w, R w → w p 0 = srt) (h : Mi S u v T x P (fun w => meF u w x p ∧ R w) w j) : wM mX5_widths [x, p] S w (fun r w' => ((meW v T srt j).1 = 0 ∧ r = 1 ∧ Mi S u v T x P (fun w => meF u w x p ∧ R w ∧ (srt = 2 → w p 1 = nmT v T j ∧ w p 2 = nmT v T (j + 1))) w' (meW v T srt j).2) ∨ (¬ (meW v T srt j).1 = 0 ∧ r = 0 ∧ LnC u w' T x v (meW v T srt j) 0 ∧ meF u w' x p)) := by
  have hnx : p ≠ x := by omega
  have hk := h.1.2.1.k
  have h0 := hR1 _ h.2.2.2.2
  have wp : ∀ k : Int, Wc (S.1 p) k = true := fun k => by rw [hp]; rfl
  unfold meW
  by_cases c : srt = 2
  · rw [if_pos c]
    rw [c] at h0
    simp only [mX5_widths, sX5_widths, wE_I, wE_V, wE_F, wE_A, wE_N, wE_1, wE_2, wE_D, wE_B, wE_If, wE_C, wE_CV, wE_SL, wE_SA, wA_0, wA_1, wC_B, wC_E, wC_And, wC_Or, wC_Not, wS_Skip, wS_Brk, wS_Cnt, wS_RetV, wS_Ret, wS_Seq, wS_Set, wS_Inc, wS_Do, wS_Put, wS_PutC, wS_Arr, wS_ArrC, wS_If, wS_Sw, wS_F0, wS_F1, wM_q, lu_ap, aL_ap, ct_0, ct_1, ct_2, ct_3, ct_4, ct_5, headD_1, List.mem_cons, List.not_mem_nil, or_false, false_or, or_true, true_or, true_and, and_true, false_and, and_false, not_true_eq_false, not_false_eq_true, if_true, if_false, nr_20, nr_24, nr_40, nr_41, nr_44, pt_lt, pt_ge, pt_eq, pt_ne, pt_gt, pt_le, pt_E, pt_N, pt_F, ite_10, ite_11, ne_eq, and_self, or_self, decide_true, decide_false, Bool.not_true, Bool.not_false, Bool.false_eq_true, Nat.reduceEqDiff, Nat.reduceAdd, Int.reduceEq, Int.reduceLT, Int.reduceLE, Int.reduceNeg, Int.reduceAdd, Int.reduceSub, Int.reduceMul, reduceCtorEq, iA, iS, iM, iD, iR, iN, lA, lS, lM, lD, lR, hk, hp, h0]
    refine wM_mono (h.num (lo := 4) (hi := 20) (meF.qx hnx _ hR)) ?_
    rintro r w1 e (⟨g1, rfl, h1⟩ | ⟨g1, rfl, hb, hq, hps⟩)
    rotate_left
    · rw [stp_0f g1, stp_ff g1]
      simp only [vu_is, hp, wE_I, wE_V, wE_F, wE_A, wE_N, wE_1, wE_2, wE_D, wE_B, wE_If, wE_C, wE_CV, wE_SL, wE_SA, wA_0, wA_1, wC_B, wC_E, wC_And, wC_Or, wC_Not, wS_Skip, wS_Brk, wS_Cnt, wS_RetV, wS_Ret, wS_Seq, wS_Set, wS_Inc, wS_Do, wS_Put, wS_PutC, wS_Arr, wS_ArrC, wS_If, wS_Sw, wS_F0, wS_F1, wM_q, lu_ap, aL_ap, ct_0, ct_1, ct_2, ct_3, ct_4, ct_5, headD_1, List.mem_cons, List.not_mem_nil, or_false, false_or, or_true, true_or, true_and, and_true, false_and, and_false, not_true_eq_false, not_false_eq_true, if_true, if_false, nr_20, nr_24, nr_40, nr_41, nr_44, pt_lt, pt_ge, pt_eq, pt_ne, pt_gt, pt_le, pt_E, pt_N, pt_F, ite_10, ite_11, ne_eq, and_self, or_self, decide_true, decide_false, Bool.not_true, Bool.not_false, Bool.false_eq_true, Nat.reduceEqDiff, Nat.reduceAdd, Int.reduceEq, Int.reduceLT, Int.reduceLE, Int.reduceNeg, Int.reduceAdd, Int.reduceSub, Int.reduceMul, reduceCtorEq]
      exact ⟨g1, hb.put hnx, hq.1.put⟩
    rw [stp_00 g1]
    have b1 := fNu_0 g1
    have n1 : ¬ nmT v T j = -1 := by omega
    have h2 := h1.put (a := p) (k := 1) (z := nmT v T j) (Q' := fun w => meF u w x p ∧ R w ∧ w p 1 = nmT v T j) hxp (wp 1) (fun w q => ⟨q.1.put, hR0 _ _ _ (Or.inl rfl) q.2, vu_is⟩)
    have e1 : w32 (nmT v T j + 1) = nmT v T j + 1 := w32_e (by omega)
    simp only [vu_is, n1, hk, hp, e1, wE_I, wE_V, wE_F, wE_A, wE_N, wE_1, wE_2, wE_D, wE_B, wE_If, wE_C, wE_CV, wE_SL, wE_SA, wA_0, wA_1, wC_B, wC_E, wC_And, wC_Or, wC_Not, wS_Skip, wS_Brk, wS_Cnt, wS_RetV, wS_Ret, wS_Seq, wS_Set, wS_Inc, wS_Do, wS_Put, wS_PutC, wS_Arr, wS_ArrC, wS_If, wS_Sw, wS_F0, wS_F1, wM_q, lu_ap, aL_ap, ct_0, ct_1, ct_2, ct_3, ct_4, ct_5, headD_1, List.mem_cons, List.not_mem_nil, or_false, false_or, or_true, true_or, true_and, and_true, false_and, and_false, not_true_eq_false, not_false_eq_true, if_true, if_false, nr_20, nr_24, nr_40, nr_41, nr_44, pt_lt, pt_ge, pt_eq, pt_ne, pt_gt, pt_le, pt_E, pt_N, pt_F, ite_10, ite_11, ne_eq, and_self, or_self, decide_true, decide_false, Bool.not_true, Bool.not_false, Bool.false_eq_true, Nat.reduceEqDiff, Nat.reduceAdd, Int.reduceEq, Int.reduceLT, Int.reduceLE, Int.reduceNeg, Int.reduceAdd, Int.reduceSub, Int.reduceMul, reduceCtorEq, iA, iS, iM, iD, iR, iN, lA, lS, lM, lD, lR]
    clear e1
    refine wM_mono (h2.num (lo := nmT v T j + 1) (hi := 20) (meF.qx hnx _ (fun w k z q => ⟨hR _ _ _ q.1, by rw [vu_ne (by omega)]; exact q.2⟩))) ?_
    rintro r w2 e (⟨g2, rfl, h3⟩ | ⟨g2, rfl, hb, hq, hps⟩)
    rotate_left
    · rw [stp_0f g2]
      simp only [vu_is, hp, wE_I, wE_V, wE_F, wE_A, wE_N, wE_1, wE_2, wE_D, wE_B, wE_If, wE_C, wE_CV, wE_SL, wE_SA, wA_0, wA_1, wC_B, wC_E, wC_And, wC_Or, wC_Not, wS_Skip, wS_Brk, wS_Cnt, wS_RetV, wS_Ret, wS_Seq, wS_Set, wS_Inc, wS_Do, wS_Put, wS_PutC, wS_Arr, wS_ArrC, wS_If, wS_Sw, wS_F0, wS_F1, wM_q, lu_ap, aL_ap, ct_0, ct_1, ct_2, ct_3, ct_4, ct_5, headD_1, List.mem_cons, List.not_mem_nil, or_false, false_or, or_true, true_or, true_and, and_true, false_and, and_false, not_true_eq_false, not_false_eq_true, if_true, if_false, nr_20, nr_24, nr_40, nr_41, nr_44, pt_lt, pt_ge, pt_eq, pt_ne, pt_gt, pt_le, pt_E, pt_N, pt_F, ite_10, ite_11, ne_eq, and_self, or_self, decide_true, decide_false, Bool.not_true, Bool.not_false, Bool.false_eq_true, Nat.reduceEqDiff, Nat.reduceAdd, Int.reduceEq, Int.reduceLT, Int.reduceLE, Int.reduceNeg, Int.reduceAdd, Int.reduceSub, Int.reduceMul, reduceCtorEq]
      exact ⟨g2, hb.put hnx, hq.1.put⟩
    rw [stp_00 g2]
    have b2 := fNu_0 g2
    have n2 : ¬ nmT v T (j + 1) = -1 := by omega
    have h4 := h3.put (a := p) (k := 2) (z := nmT v T (j + 1)) (Q' := fun w => meF u w x p ∧ R w ∧ (srt = 2 → w p 1 = nmT v T j ∧ w p 2 = nmT v T (j + 1))) hxp (wp 2) (fun w q => ⟨q.1.put, hR0 _ _ _ (Or.inr rfl) q.2.1, fun _ => ⟨by rw [vu_ne (by simp)]; exact q.2.2, vu_is⟩⟩)
    simp only [vu_is, n2, hk, hp, wE_I, wE_V, wE_F, wE_A, wE_N, wE_1, wE_2, wE_D, wE_B, wE_If, wE_C, wE_CV, wE_SL, wE_SA, wA_0, wA_1, wC_B, wC_E, wC_And, wC_Or, wC_Not, wS_Skip, wS_Brk, wS_Cnt, wS_RetV, wS_Ret, wS_Seq, wS_Set, wS_Inc, wS_Do, wS_Put, wS_PutC, wS_Arr, wS_ArrC, wS_If, wS_Sw, wS_F0, wS_F1, wM_q, lu_ap, aL_ap, ct_0, ct_1, ct_2, ct_3, ct_4, ct_5, headD_1, List.mem_cons, List.not_mem_nil, or_false, false_or, or_true, true_or, true_and, and_true, false_and, and_false, not_true_eq_false, not_false_eq_true, if_true, if_false, nr_20, nr_24, nr_40, nr_41, nr_44, pt_lt, pt_ge, pt_eq, pt_ne, pt_gt, pt_le, pt_E, pt_N, pt_F, ite_10, ite_11, ne_eq, and_self, or_self, decide_true, decide_false, Bool.not_true, Bool.not_false, Bool.false_eq_true, Nat.reduceEqDiff, Nat.reduceAdd, Int.reduceEq, Int.reduceLT, Int.reduceLE, Int.reduceNeg, Int.reduceAdd, Int.reduceSub, Int.reduceMul, reduceCtorEq]
    exact h4
  · rw [if_neg c]
    have h0' : ¬ w p 0 = 2 := by rw [h0]; exact c
    simp only [mX5_widths, sX5_widths, wE_I, wE_V, wE_F, wE_A, wE_N, wE_1, wE_2, wE_D, wE_B, wE_If, wE_C, wE_CV, wE_SL, wE_SA, wA_0, wA_1, wC_B, wC_E, wC_And, wC_Or, wC_Not, wS_Skip, wS_Brk, wS_Cnt, wS_RetV, wS_Ret, wS_Seq, wS_Set, wS_Inc, wS_Do, wS_Put, wS_PutC, wS_Arr, wS_ArrC, wS_If, wS_Sw, wS_F0, wS_F1, wM_q, lu_ap, aL_ap, ct_0, ct_1, ct_2, ct_3, ct_4, ct_5, headD_1, List.mem_cons, List.not_mem_nil, or_false, false_or, or_true, true_or, true_and, and_true, false_and, and_false, not_true_eq_false, not_false_eq_true, if_true, if_false, nr_20, nr_24, nr_40, nr_41, nr_44, pt_lt, pt_ge, pt_eq, pt_ne, pt_gt, pt_le, pt_E, pt_N, pt_F, ite_10, ite_11, ne_eq, and_self, or_self, decide_true, decide_false, Bool.not_true, Bool.not_false, Bool.false_eq_true, Nat.reduceEqDiff, Nat.reduceAdd, Int.reduceEq, Int.reduceLT, Int.reduceLE, Int.reduceNeg, Int.reduceAdd, Int.reduceSub, Int.reduceMul, reduceCtorEq, iA, iS, iM, iD, iR, iN, lA, lS, lM, lD, lR, hk, hp, h0']
    exact h.cg (fun q => ⟨q.1, q.2, fun z => absurd z c⟩)
theorem c_silence {p j : Int} {R : QV → Prop} (hp : S.1 p = 3) (hxp : x < p) (hR : ∀ w k z, R w → R (vu w x k z)) (hR0 : ∀ w z, R w → R (vu w p 3 z)) (h : Mi S u v T x P (fun w => meF u w x p ∧ R w) w j) : wM mX5_silence [x, p] S w (fun r w' => ((stp (fNu v T 1 1000) (stp (fKd v T 261) (0, j))).1 = 0 ∧ r = 1 ∧ Mi S u v T x P (fun w => meF u w x p ∧ R w ∧ w p 3 = nmT v T (j + 1)) w' (j + 2)) ∨ (¬ (stp (fNu v T 1 1000) (stp (fKd v T 261) (0, j))).1 = 0 ∧ r = 0 ∧ LnC u w' T x v (stp (fNu v T 1 1000) (stp (fKd v T 261) (0, j))) 0 ∧ meF u w' x p)) := by
  have hnx : p ≠ x := by omega
  have hk := h.1.2.1.k
  have wp : ∀ k : Int, Wc (S.1 p) k = true := fun k => by rw [hp]; rfl
  simp only [mX5_silence, sX5_silence, wE_I, wE_V, wE_F, wE_A, wE_N, wE_1, wE_2, wE_D, wE_B, wE_If, wE_C, wE_CV, wE_SL, wE_SA, wA_0, wA_1, wC_B, wC_E, wC_And, wC_Or, wC_Not, wS_Skip, wS_Brk, wS_Cnt, wS_RetV, wS_Ret, wS_Seq, wS_Set, wS_Inc, wS_Do, wS_Put, wS_PutC, wS_Arr, wS_ArrC, wS_If, wS_Sw, wS_F0, wS_F1, wM_q, lu_ap, aL_ap, ct_0, ct_1, ct_2, ct_3, ct_4, ct_5, headD_1, List.mem_cons, List.not_mem_nil, or_false, false_or, or_true, true_or, true_and, and_true, false_and, and_false, not_true_eq_false, not_false_eq_true, if_true, if_false, nr_20, nr_24, nr_40, nr_41, nr_44, pt_lt, pt_ge, pt_eq, pt_ne, pt_gt, pt_le, pt_E, pt_N, pt_F, ite_10, ite_11, ne_eq, and_self, or_self, decide_true, decide_false, Bool.not_true, Bool.not_false, Bool.false_eq_true, Nat.reduceEqDiff, Nat.reduceAdd, Int.reduceEq, Int.reduceLT, Int.reduceLE, Int.reduceNeg, Int.reduceAdd, Int.reduceSub, Int.reduceMul, reduceCtorEq, iA, iS, iM, iD, iR, iN, lA, lS, lM, lD, lR, hk, hp]
  refine wM_mono (h.tak (k := 261) (meF.qx hnx _ hR) (by decide)) ?_
  rintro r w1 e (⟨g1, rfl, h1⟩ | ⟨g1, rfl, hb, hq⟩)
  rotate_left
  · rw [stp_0f g1, stp_ff g1]
    simp only [wE_I, wE_V, wE_F, wE_A, wE_N, wE_1, wE_2, wE_D, wE_B, wE_If, wE_C, wE_CV, wE_SL, wE_SA, wA_0, wA_1, wC_B, wC_E, wC_And, wC_Or, wC_Not, wS_Skip, wS_Brk, wS_Cnt, wS_RetV, wS_Ret, wS_Seq, wS_Set, wS_Inc, wS_Do, wS_Put, wS_PutC, wS_Arr, wS_ArrC, wS_If, wS_Sw, wS_F0, wS_F1, wM_q, lu_ap, aL_ap, ct_0, ct_1, ct_2, ct_3, ct_4, ct_5, headD_1, List.mem_cons, List.not_mem_nil, or_false, false_or, or_true, true_or, true_and, and_true, false_and, and_false, not_true_eq_false, not_false_eq_true, if_true, if_false, nr_20, nr_24, nr_40, nr_41, nr_44, pt_lt, pt_ge, pt_eq, pt_ne, pt_gt, pt_le, pt_E, pt_N, pt_F, ite_10, ite_11, ne_eq, and_self, or_self, decide_true, decide_false, Bool.not_true, Bool.not_false, Bool.false_eq_true, Nat.reduceEqDiff, Nat.reduceAdd, Int.reduceEq, Int.reduceLT, Int.reduceLE, Int.reduceNeg, Int.reduceAdd, Int.reduceSub, Int.reduceMul, reduceCtorEq]
    exact ⟨g1, hb, hq.1⟩
  rw [stp_00 g1]
  simp only [hk, hp, wE_I, wE_V, wE_F, wE_A, wE_N, wE_1, wE_2, wE_D, wE_B, wE_If, wE_C, wE_CV, wE_SL, wE_SA, wA_0, wA_1, wC_B, wC_E, wC_And, wC_Or, wC_Not, wS_Skip, wS_Brk, wS_Cnt, wS_RetV, wS_Ret, wS_Seq, wS_Set, wS_Inc, wS_Do, wS_Put, wS_PutC, wS_Arr, wS_ArrC, wS_If, wS_Sw, wS_F0, wS_F1, wM_q, lu_ap, aL_ap, ct_0, ct_1, ct_2, ct_3, ct_4, ct_5, headD_1, List.mem_cons, List.not_mem_nil, or_false, false_or, or_true, true_or, true_and, and_true, false_and, and_false, not_true_eq_false, not_false_eq_true, if_true, if_false, nr_20, nr_24, nr_40, nr_41, nr_44, pt_lt, pt_ge, pt_eq, pt_ne, pt_gt, pt_le, pt_E, pt_N, pt_F, ite_10, ite_11, ne_eq, and_self, or_self, decide_true, decide_false, Bool.not_true, Bool.not_false, Bool.false_eq_true, Nat.reduceEqDiff, Nat.reduceAdd, Int.reduceEq, Int.reduceLT, Int.reduceLE, Int.reduceNeg, Int.reduceAdd, Int.reduceSub, Int.reduceMul, reduceCtorEq]
  refine wM_mono (h1.num (lo := 1) (hi := 1000) (meF.qx hnx _ hR)) ?_
  rintro r w2 e (⟨g2, rfl, h2⟩ | ⟨g2, rfl, hb, hq, hps⟩)
  rotate_left
  · rw [stp_0f g2]
    simp only [vu_is, hp, wE_I, wE_V, wE_F, wE_A, wE_N, wE_1, wE_2, wE_D, wE_B, wE_If, wE_C, wE_CV, wE_SL, wE_SA, wA_0, wA_1, wC_B, wC_E, wC_And, wC_Or, wC_Not, wS_Skip, wS_Brk, wS_Cnt, wS_RetV, wS_Ret, wS_Seq, wS_Set, wS_Inc, wS_Do, wS_Put, wS_PutC, wS_Arr, wS_ArrC, wS_If, wS_Sw, wS_F0, wS_F1, wM_q, lu_ap, aL_ap, ct_0, ct_1, ct_2, ct_3, ct_4, ct_5, headD_1, List.mem_cons, List.not_mem_nil, or_false, false_or, or_true, true_or, true_and, and_true, false_and, and_false, not_true_eq_false, not_false_eq_true, if_true, if_false, nr_20, nr_24, nr_40, nr_41, nr_44, pt_lt, pt_ge, pt_eq, pt_ne, pt_gt, pt_le, pt_E, pt_N, pt_F, ite_10, ite_11, ne_eq, and_self, or_self, decide_true, decide_false, Bool.not_true, Bool.not_false, Bool.false_eq_true, Nat.reduceEqDiff, Nat.reduceAdd, Int.reduceEq, Int.reduceLT, Int.reduceLE, Int.reduceNeg, Int.reduceAdd, Int.reduceSub, Int.reduceMul, reduceCtorEq]
    exact ⟨g2, hb.put hnx, hq.1.put⟩
  rw [stp_00 g2]
  have b2 := fNu_0 g2
  have n2 : ¬ nmT v T (j + 1) = -1 := by omega
  have h4 := h2.put (a := p) (k := 3) (z := nmT v T (j + 1)) (Q' := fun w => meF u w x p ∧ R w ∧ w p 3 = nmT v T (j + 1)) hxp (wp 3) (fun w q => ⟨q.1.put, hR0 _ _ q.2, vu_is⟩)
  simp only [vu_is, n2, hk, hp, wE_I, wE_V, wE_F, wE_A, wE_N, wE_1, wE_2, wE_D, wE_B, wE_If, wE_C, wE_CV, wE_SL, wE_SA, wA_0, wA_1, wC_B, wC_E, wC_And, wC_Or, wC_Not, wS_Skip, wS_Brk, wS_Cnt, wS_RetV, wS_Ret, wS_Seq, wS_Set, wS_Inc, wS_Do, wS_Put, wS_PutC, wS_Arr, wS_ArrC, wS_If, wS_Sw, wS_F0, wS_F1, wM_q, lu_ap, aL_ap, ct_0, ct_1, ct_2, ct_3, ct_4, ct_5, headD_1, List.mem_cons, List.not_mem_nil, or_false, false_or, or_true, true_or, true_and, and_true, false_and, and_false, not_true_eq_false, not_false_eq_true, if_true, if_false, nr_20, nr_24, nr_40, nr_41, nr_44, pt_lt, pt_ge, pt_eq, pt_ne, pt_gt, pt_le, pt_E, pt_N, pt_F, ite_10, ite_11, ne_eq, and_self, or_self, decide_true, decide_false, Bool.not_true, Bool.not_false, Bool.false_eq_true, Nat.reduceEqDiff, Nat.reduceAdd, Int.reduceEq, Int.reduceLT, Int.reduceLE, Int.reduceNeg, Int.reduceAdd, Int.reduceSub, Int.reduceMul, reduceCtorEq]
  rw [show j + 1 + 1 = j + 2 by omega] at h4
  exact h4
theorem c_bounds {p j : Int} {R : QV → Prop} (hp : S.1 p = 3) (hxp : x < p) (hR : ∀ w k z, R w → R (vu w x k z)) (hR0 : ∀ w k z, k = 4 ∨ k = 5 → R w → R (vu w p k z)) (h : Mi S u v T x P (fun w => meF u w x p ∧ R w ∧ w p 4 = 0 ∧ w p 5 = 999999) w j) : wM mX5_bounds [x, p] S w (fun r w' => ((meM v T (leT v T j) (meL v T (0, j))).1 = 0 ∧ r = 1 ∧ Mi S u v T x P (fun w => meF u w x p ∧ R w ∧ w p 4 = leT v T j ∧ w p 5 = moT v T (meL v T (0, j)).2) w' (meM v T (leT v T j) (meL v T (0, j))).2) ∨ (¬ (meM v T (leT v T j) (meL v T (0, j))).1 = 0 ∧ r = 0 ∧ LnC u w' T x v (meM v T (leT v T j) (meL v T (0, j))) 0 ∧ meF u w' x p)) := by
  have hnx : p ≠ x := by omega
  have hk := h.1.2.1.k
  have wp : ∀ k : Int, Wc (S.1 p) k = true := fun k => by rw [hp]; rfl
  have hQ4 : ∀ a b : Int, Qx x (fun w => meF u w x p ∧ R w ∧ w p 4 = a ∧ w p 5 = b) := fun a b => meF.qx hnx _ (fun w k z q => ⟨hR _ _ _ q.1, by rw [vu_ne (by omega)]; exact q.2.1, by rw [vu_ne (by omega)]; exact q.2.2⟩)
  -- the second half
  have half : ∀ (w : QV) (j2 lea : Int), Mi S u v T x P (fun w => meF u w x p ∧ R w ∧ w p 4 = lea ∧ w p 5 = 999999) w j2 → 0 ≤ lea → ∀ (L : QL) (Q : Nat → Int → QL → QV → Prop), L 0 = x → L 1 = p → (∀ r w' L', (((meM v T lea (0, j2)).1 = 0 ∧ r = 1 ∧ Mi S u v T x P (fun w => meF u w x p ∧ R w ∧ w p 4 = lea ∧ w p 5 = moT v T j2) w' (meM v T lea (0, j2)).2) ∨ (¬ (meM v T lea (0, j2)).1 = 0 ∧ r = 0 ∧ LnC u w' T x v (meM v T lea (0, j2)) 0 ∧ meF u w' x p)) → Q 3 r L' w') → wS (sSeq (sIf (cB qeq (eCallV 5 mX5_kind [(eV 0)]) (eI 263)) (sSeq (sPutC 5 2 (eV 0) iA (eI 1)) (sPut 2 5 (eV 1) (eCallV 5 mX5_takeNumber [(eV 0), (eF 2 4 (eV 1)), (eI 999999)]))) sSkip) (sRet (eB (cB qne (eF 2 5 (eV 1)) (eI (-1)))))) L S w Q := by
    intro w j2 lea h hlea L Q l0 l1 hfin
    have hk2 := h.1.2.1.k
    have hkd := h.kd
    by_cases c : kdT v T j2 = 263
    · obtain ⟨h1, hb0⟩ := h.nx (hQ4 _ _) (by omega)
      have htok := h.tok
      have e1 : w32 (j2 + 1) = j2 + 1 := w32_e (by omega)
      have hmm : meM v T lea (0, j2) = stp (fNu v T lea 999999) (0, j2 + 1) := by unfold meM; rw [if_pos ⟨rfl, c⟩]
      have y4 := h1.2.2.2.2.2.1
      simp only [wE_I, wE_V, wE_F, wE_A, wE_N, wE_1, wE_2, wE_D, wE_B, wE_If, wE_C, wE_CV, wE_SL, wE_SA, wA_0, wA_1, wC_B, wC_E, wC_And, wC_Or, wC_Not, wS_Skip, wS_Brk, wS_Cnt, wS_RetV, wS_Ret, wS_Seq, wS_Set, wS_Inc, wS_Do, wS_Put, wS_PutC, wS_Arr, wS_ArrC, wS_If, wS_Sw, wS_F0, wS_F1, wM_q, lu_ap, aL_ap, ct_0, ct_1, ct_2, ct_3, ct_4, ct_5, headD_1, List.mem_cons, List.not_mem_nil, or_false, false_or, or_true, true_or, true_and, and_true, false_and, and_false, not_true_eq_false, not_false_eq_true, if_true, if_false, nr_20, nr_24, nr_40, nr_41, nr_44, pt_lt, pt_ge, pt_eq, pt_ne, pt_gt, pt_le, pt_E, pt_N, pt_F, ite_10, ite_11, ne_eq, and_self, or_self, decide_true, decide_false, Bool.not_true, Bool.not_false, Bool.false_eq_true, Nat.reduceEqDiff, Nat.reduceAdd, Int.reduceEq, Int.reduceLT, Int.reduceLE, Int.reduceNeg, Int.reduceAdd, Int.reduceSub, Int.reduceMul, reduceCtorEq, iA, iS, iM, iD, iR, iN, lA, lS, lM, lD, lR, l0, l1, hk2, wM_of hkd, c, htok, e1, hp, y4]
      clear e1
      refine wM_mono (h1.num (lo := lea) (hi := 999999) (hQ4 _ _)) ?_
      rintro r w2 e (⟨g2, rfl, h2⟩ | ⟨g2, rfl, hb, hq, hps⟩)
      rotate_left
      · simp only [vu_is, hp, l0, l1, wE_I, wE_V, wE_F, wE_A, wE_N, wE_1, wE_2, wE_D, wE_B, wE_If, wE_C, wE_CV, wE_SL, wE_SA, wA_0, wA_1, wC_B, wC_E, wC_And, wC_Or, wC_Not, wS_Skip, wS_Brk, wS_Cnt, wS_RetV, wS_Ret, wS_Seq, wS_Set, wS_Inc, wS_Do, wS_Put, wS_PutC, wS_Arr, wS_ArrC, wS_If, wS_Sw, wS_F0, wS_F1, wM_q, lu_ap, aL_ap, ct_0, ct_1, ct_2, ct_3, ct_4, ct_5, headD_1, List.mem_cons, List.not_mem_nil, or_false, false_or, or_true, true_or, true_and, and_true, false_and, and_false, not_true_eq_false, not_false_eq_true, if_true, if_false, nr_20, nr_24, nr_40, nr_41, nr_44, pt_lt, pt_ge, pt_eq, pt_ne, pt_gt, pt_le, pt_E, pt_N, pt_F, ite_10, ite_11, ne_eq, and_self, or_self, decide_true, decide_false, Bool.not_true, Bool.not_false, Bool.false_eq_true, Nat.reduceEqDiff, Nat.reduceAdd, Int.reduceEq, Int.reduceLT, Int.reduceLE, Int.reduceNeg, Int.reduceAdd, Int.reduceSub, Int.reduceMul, reduceCtorEq]
        refine hfin _ _ _ (Or.inr ⟨?_, rfl, ?_, ?_⟩)
        · rw [hmm, stp_0f g2]; exact g2
        · rw [hmm, stp_0f g2]; exact hb.put hnx
        · exact hq.1.put
      have b2 := fNu_0 g2
      have n2 : ¬ nmT v T (j2 + 1) = -1 := by omega
      have h4 := h2.put (a := p) (k := 5) (z := nmT v T (j2 + 1)) (Q' := fun w => meF u w x p ∧ R w ∧ w p 4 = lea ∧ w p 5 = nmT v T (j2 + 1)) hxp (wp 5) (fun w q => ⟨q.1.put, hR0 _ _ _ (Or.inr rfl) q.2.1, by rw [vu_ne (by simp)]; exact q.2.2.1, vu_is⟩)
      simp only [vu_is, n2, hp, l0, l1, wE_I, wE_V, wE_F, wE_A, wE_N, wE_1, wE_2, wE_D, wE_B, wE_If, wE_C, wE_CV, wE_SL, wE_SA, wA_0, wA_1, wC_B, wC_E, wC_And, wC_Or, wC_Not, wS_Skip, wS_Brk, wS_Cnt, wS_RetV, wS_Ret, wS_Seq, wS_Set, wS_Inc, wS_Do, wS_Put, wS_PutC, wS_Arr, wS_ArrC, wS_If, wS_Sw, wS_F0, wS_F1, wM_q, lu_ap, aL_ap, ct_0, ct_1, ct_2, ct_3, ct_4, ct_5, headD_1, List.mem_cons, List.not_mem_nil, or_false, false_or, or_true, true_or, true_and, and_true, false_and, and_false, not_true_eq_false, not_false_eq_true, if_true, if_false, nr_20, nr_24, nr_40, nr_41, nr_44, pt_lt, pt_ge, pt_eq, pt_ne, pt_gt, pt_le, pt_E, pt_N, pt_F, ite_10, ite_11, ne_eq, and_self, or_self, decide_true, decide_false, Bool.not_true, Bool.not_false, Bool.false_eq_true, Nat.reduceEqDiff, Nat.reduceAdd, Int.reduceEq, Int.reduceLT, Int.reduceLE, Int.reduceNeg, Int.reduceAdd, Int.reduceSub, Int.reduceMul, reduceCtorEq]
      refine hfin _ _ _ (Or.inl ⟨?_, rfl, ?_⟩)
      · rw [hmm, stp_00 g2]
      · rw [hmm, stp_00 g2]
        unfold moT
        rw [if_pos c]
        exact h4
    · have hmm : meM v T lea (0, j2) = (0, j2) := by unfold meM; rw [if_neg (fun z => c z.2)]
      have y5 := h.2.2.2.2.2.2
      simp only [wE_I, wE_V, wE_F, wE_A, wE_N, wE_1, wE_2, wE_D, wE_B, wE_If, wE_C, wE_CV, wE_SL, wE_SA, wA_0, wA_1, wC_B, wC_E, wC_And, wC_Or, wC_Not, wS_Skip, wS_Brk, wS_Cnt, wS_RetV, wS_Ret, wS_Seq, wS_Set, wS_Inc, wS_Do, wS_Put, wS_PutC, wS_Arr, wS_ArrC, wS_If, wS_Sw, wS_F0, wS_F1, wM_q, lu_ap, aL_ap, ct_0, ct_1, ct_2, ct_3, ct_4, ct_5, headD_1, List.mem_cons, List.not_mem_nil, or_false, false_or, or_true, true_or, true_and, and_true, false_and, and_false, not_true_eq_false, not_false_eq_true, if_true, if_false, nr_20, nr_24, nr_40, nr_41, nr_44, pt_lt, pt_ge, pt_eq, pt_ne, pt_gt, pt_le, pt_E, pt_N, pt_F, ite_10, ite_11, ne_eq, and_self, or_self, decide_true, decide_false, Bool.not_true, Bool.not_false, Bool.false_eq_true, Nat.reduceEqDiff, Nat.reduceAdd, Int.reduceEq, Int.reduceLT, Int.reduceLE, Int.reduceNeg, Int.reduceAdd, Int.reduceSub, Int.reduceMul, reduceCtorEq, iA, iS, iM, iD, iR, iN, lA, lS, lM, lD, lR, l0, l1, hk2, wM_of hkd, c, hp, y5]
      refine hfin _ _ _ (Or.inl ⟨by rw [hmm], rfl, ?_⟩)
      rw [hmm]
      unfold moT
      rw [if_neg c]
      exact h
  have hkd := h.kd
  have htok := h.tok
  simp only [mX5_bounds, sX5_bounds, wM_q]
  generalize hLL : aL 0 [2, 2] [x, p] = L
  have m0 : L 0 = x := by rw [← hLL]; simp [lu_ap, aL_ap, ct_0, ct_1, ct_2]
  have m1 : L 1 = p := by rw [← hLL]; simp [lu_ap, aL_ap, ct_0, ct_1, ct_2]
  clear hLL
  by_cases c : kdT v T j = 262
  · obtain ⟨h1, hb0⟩ := h.nx (hQ4 _ _) (by omega)
    have hml : meL v T (0, j) = stp (fNu v T 0 999999) (0, j + 1) := by unfold meL; rw [if_pos ⟨rfl, c⟩]
    have hle : leT v T j = nmT v T (j + 1) := by unfold leT; rw [if_pos c]
    have e1 : w32 (j + 1) = j + 1 := w32_e (by omega)
    rw [wS_Seq]
    refine wS_mono (Q' := fun k z L' w' => (k = 0 ∧ L' = L ∧ fNu v T 0 999999 (j + 1) = 0 ∧ Mi S u v T x P (fun w => meF u w x p ∧ R w ∧ w p 4 = nmT v T (j + 1) ∧ w p 5 = 999999) w' (j + 2)) ∨ (k = 3 ∧ z = 0 ∧ ¬ fNu v T 0 999999 (j + 1) = 0 ∧ LnC u w' T x v (fNu v T 0 999999 (j + 1), j + 1) 0 ∧ meF u w' x p)) ?_ ?_
    · simp only [wE_I, wE_V, wE_F, wE_A, wE_N, wE_1, wE_2, wE_D, wE_B, wE_If, wE_C, wE_CV, wE_SL, wE_SA, wA_0, wA_1, wC_B, wC_E, wC_And, wC_Or, wC_Not, wS_Skip, wS_Brk, wS_Cnt, wS_RetV, wS_Ret, wS_Seq, wS_Set, wS_Inc, wS_Do, wS_Put, wS_PutC, wS_Arr, wS_ArrC, wS_If, wS_Sw, wS_F0, wS_F1, wM_q, lu_ap, aL_ap, ct_0, ct_1, ct_2, ct_3, ct_4, ct_5, headD_1, List.mem_cons, List.not_mem_nil, or_false, false_or, or_true, true_or, true_and, and_true, false_and, and_false, not_true_eq_false, not_false_eq_true, if_true, if_false, nr_20, nr_24, nr_40, nr_41, nr_44, pt_lt, pt_ge, pt_eq, pt_ne, pt_gt, pt_le, pt_E, pt_N, pt_F, ite_10, ite_11, ne_eq, and_self, or_self, decide_true, decide_false, Bool.not_true, Bool.not_false, Bool.false_eq_true, Nat.reduceEqDiff, Nat.reduceAdd, Int.reduceEq, Int.reduceLT, Int.reduceLE, Int.reduceNeg, Int.reduceAdd, Int.reduceSub, Int.reduceMul, reduceCtorEq, iA, iS, iM, iD, iR, iN, lA, lS, lM, lD, lR, m0, m1, hk, wM_of hkd, c, htok, e1, hp]
      clear e1
      refine wM_mono (h1.num (lo := 0) (hi := 999999) (hQ4 _ _)) ?_
      rintro r w2 e (⟨g2, rfl, h2⟩ | ⟨g2, rfl, hb, hq, hps⟩)
      rotate_left
      · simp only [vu_is, hp, m0, m1, wE_I, wE_V, wE_F, wE_A, wE_N, wE_1, wE_2, wE_D, wE_B, wE_If, wE_C, wE_CV, wE_SL, wE_SA, wA_0, wA_1, wC_B, wC_E, wC_And, wC_Or, wC_Not, wS_Skip, wS_Brk, wS_Cnt, wS_RetV, wS_Ret, wS_Seq, wS_Set, wS_Inc, wS_Do, wS_Put, wS_PutC, wS_Arr, wS_ArrC, wS_If, wS_Sw, wS_F0, wS_F1, wM_q, lu_ap, aL_ap, ct_0, ct_1, ct_2, ct_3, ct_4, ct_5, headD_1, List.mem_cons, List.not_mem_nil, or_false, false_or, or_true, true_or, true_and, and_true, false_and, and_false, not_true_eq_false, not_false_eq_true, if_true, if_false, nr_20, nr_24, nr_40, nr_41, nr_44, pt_lt, pt_ge, pt_eq, pt_ne, pt_gt, pt_le, pt_E, pt_N, pt_F, ite_10, ite_11, ne_eq, and_self, or_self, decide_true, decide_false, Bool.not_true, Bool.not_false, Bool.false_eq_true, Nat.reduceEqDiff, Nat.reduceAdd, Int.reduceEq, Int.reduceLT, Int.reduceLE, Int.reduceNeg, Int.reduceAdd, Int.reduceSub, Int.reduceMul, reduceCtorEq]
        exact ⟨g2, hb.put hnx, hq.1.put⟩
      have b2 := fNu_0 g2
      have n2 : ¬ nmT v T (j + 1) = -1 := by omega
      have h4 := h2.put (a := p) (k := 4) (z := nmT v T (j + 1)) (Q' := fun w => meF u w x p ∧ R w ∧ w p 4 = nmT v T (j + 1) ∧ w p 5 = 999999) hxp (wp 4) (fun w q => ⟨q.1.put, hR0 _ _ _ (Or.inl rfl) q.2.1, vu_is, by rw [vu_ne (by simp)]; exact q.2.2.2⟩)
      rw [show j + 1 + 1 = j + 2 by omega] at h4
      simp only [vu_is, n2, hp, m0, m1, wE_I, wE_V, wE_F, wE_A, wE_N, wE_1, wE_2, wE_D, wE_B, wE_If, wE_C, wE_CV, wE_SL, wE_SA, wA_0, wA_1, wC_B, wC_E, wC_And, wC_Or, wC_Not, wS_Skip, wS_Brk, wS_Cnt, wS_RetV, wS_Ret, wS_Seq, wS_Set, wS_Inc, wS_Do, wS_Put, wS_PutC, wS_Arr, wS_ArrC, wS_If, wS_Sw, wS_F0, wS_F1, wM_q, lu_ap, aL_ap, ct_0, ct_1, ct_2, ct_3, ct_4, ct_5, headD_1, List.mem_cons, List.not_mem_nil, or_false, false_or, or_true, true_or, true_and, and_true, false_and, and_false, not_true_eq_false, not_false_eq_true, if_true, if_false, nr_20, nr_24, nr_40, nr_41, nr_44, pt_lt, pt_ge, pt_eq, pt_ne, pt_gt, pt_le, pt_E, pt_N, pt_F, ite_10, ite_11, ne_eq, and_self, or_self, decide_true, decide_false, Bool.not_true, Bool.not_false, Bool.false_eq_true, Nat.reduceEqDiff, Nat.reduceAdd, Int.reduceEq, Int.reduceLT, Int.reduceLE, Int.reduceNeg, Int.reduceAdd, Int.reduceSub, Int.reduceMul, reduceCtorEq]
      exact ⟨g2, h4⟩
    · rintro k z L' w' (⟨rfl, rfl, g2, hm2⟩ | ⟨rfl, rfl, g2, hb, hq⟩)
      · rw [if_pos rfl]
        have b2 := fNu_0 g2
        have hml2 : meL v T (0, j) = (0, j + 2) := by
          rw [hml, stp_00 g2, show j + 1 + 1 = j + 2 by omega]
        rw [hml2, hle]
        refine half w' (j + 2) _ hm2 (by omega) L' _ m0 m1 ?_
        intro r w' L' hh
        exact ⟨rfl, hh⟩
      · rw [if_neg (by decide)]
        have hml2 : meL v T (0, j) = (fNu v T 0 999999 (j + 1), j + 1) := by rw [hml, stp_0f g2]
        have hmm : meM v T (leT v T j) (meL v T (0, j)) = (fNu v T 0 999999 (j + 1), j + 1) := by
          rw [hml2]
          unfold meM
          rw [if_neg (fun z => g2 z.1)]
        refine ⟨rfl, Or.inr ⟨?_, rfl, ?_, hq⟩⟩
        · rw [hmm]; exact g2
        · rw [hmm]; exact hb
  · have hml : meL v T (0, j) = (0, j) := by unfold meL; rw [if_neg (fun z => c z.2)]
    have hle : leT v T j = 0 := by unfold leT; rw [if_neg c]
    rw [hml, hle]
    refine ws_step (L' := L) (w := w) (by simp only [wE_I, wE_V, wE_F, wE_A, wE_N, wE_1, wE_2, wE_D, wE_B, wE_If, wE_C, wE_CV, wE_SL, wE_SA, wA_0, wA_1, wC_B, wC_E, wC_And, wC_Or, wC_Not, wS_Skip, wS_Brk, wS_Cnt, wS_RetV, wS_Ret, wS_Seq, wS_Set, wS_Inc, wS_Do, wS_Put, wS_PutC, wS_Arr, wS_ArrC, wS_If, wS_Sw, wS_F0, wS_F1, wM_q, lu_ap, aL_ap, ct_0, ct_1, ct_2, ct_3, ct_4, ct_5, headD_1, List.mem_cons, List.not_mem_nil, or_false, false_or, or_true, true_or, true_and, and_true, false_and, and_false, not_true_eq_false, not_false_eq_true, if_true, if_false, nr_20, nr_24, nr_40, nr_41, nr_44, pt_lt, pt_ge, pt_eq, pt_ne, pt_gt, pt_le, pt_E, pt_N, pt_F, ite_10, ite_11, ne_eq, and_self, or_self, decide_true, decide_false, Bool.not_true, Bool.not_false, Bool.false_eq_true, Nat.reduceEqDiff, Nat.reduceAdd, Int.reduceEq, Int.reduceLT, Int.reduceLE, Int.reduceNeg, Int.reduceAdd, Int.reduceSub, Int.reduceMul, reduceCtorEq, iA, iS, iM, iD, iR, iN, lA, lS, lM, lD, lR, m0, hk, wM_of hkd, c]) ?_
    refine half w j 0 h (Int.le_refl _) L _ m0 m1 ?_
    intro r w' L' hh
    exact ⟨rfl, hh⟩
end CM2
