/-! STORE: an archive's line, the reference's -/
theorem stp_i {φ : Int → Int} {o : Int × Int} (h : (stp φ o).1 = 0) : o.1 = 0 ∧ φ o.2 = 0 ∧ (stp φ o).2 = o.2 + 1 := by
  by_cases c : o.1 = 0
  · by_cases d : φ o.2 = 0
    · rw [stp_0 c d]; exact ⟨c, d, rfl⟩
    · rw [stp_f c d] at h; exact absurd h d
  · rw [stp_d c] at h; exact absurd h c
section MA
variable {S : QS} {v w u : QV} {M T n x P B : Int} {o : Int × Int}
theorem OP.put {a k z : Int} (h : OP v w T M o) (ha : a ≠ M) : OP v (vu w a k z) T M o := by
  obtain ⟨h1, h2⟩ := h
  refine ⟨h1, ?_⟩
  have e : ∀ j, vu w a k z M j = w M j := fun j => vu_ne (by omega)
  by_cases c : o.1 = 0
  · rw [if_pos c] at h2 ⊢
    exact ⟨h2.1.q (fun j _ _ => e j), by rw [e]; exact h2.2.1, by rw [e]; exact h2.2.2⟩
  · rw [if_neg c] at h2 ⊢
    rw [e, e]
    exact h2
theorem Pw.put {a k z : Int} (h : Pw S v w M n) (ha : a ≠ M ∧ a ≠ M + 28 ∧ a ≠ M + 29) (hk : Wm (S.1 a) k = true) : Pw S v (vu w a k z) M n := by
  obtain ⟨h1, h2, h3⟩ := h
  exact ⟨h1.keep (Km.vu Km.rf hk).p, by rw [vu_ne (by omega)]; exact h2, fun j => ⟨by rw [vu_ne (by omega)]; exact (h3 j).1, by rw [vu_ne (by omega)]; exact (h3 j).2⟩⟩
/-- the reference in the midst of a line -/
def Mm (S : QS) (v : QV) (T M n : Int) (Q : QV → Prop) (w : QV) (o : Int × Int) : Prop := OP v w T M o ∧ Pw S v w M n ∧ Q w
def Qz (M : Int) (Q : QV → Prop) : Prop := ∀ w w', Q w → Fp M w w' → Q w'
theorem Mm.nw {Q : QV → Prop} (hc : CX v M T n) (h : Mm S v T M n Q w o) (hQ : Qz M Q) {j : Nat} (hj : j < 18) : wM mX12_needWord [M, (j : Int)] S w (fun _ w' => Mm S v T M n Q w' (stp (fKd v T (256 + pmN j)) o)) := by
  refine wM_mono (m_needWordO hc h.2.1 h.1 hj) ?_
  rintro r w' e ⟨h1, h2, h3⟩
  exact ⟨h1, h2, hQ _ _ h.2.2 h3⟩
theorem Mm.nd {Q : QV → Prop} (hc : CX v M T n) (h : Mm S v T M n Q w o) (hQ : Qz M Q) {s : Int} (hs : isSg s) : wM mX12_need [M, s] S w (fun _ w' => Mm S v T M n Q w' (stp (fKd v T s) o)) := by
  refine wM_mono (m_needO hc h.2.1 h.1 hs) ?_
  rintro r w' e ⟨h1, h2, h3⟩
  exact ⟨h1, h2, hQ _ _ h.2.2 h3⟩
theorem Mm.nl {Q : QV → Prop} (hc : CX v M T n) (h : Mm S v T M n Q w o) (hQ : Qz M Q) {lo hi : Int} (hh : hi ≤ 999999) : wM mX12_numeral [M, lo, hi] S w (fun r w' => Mm S v T M n Q w' (stp (fNu v T lo hi) o) ∧ ((stp (fNu v T lo hi) o).1 = 0 → r = nmT v T o.2)) := by
  refine wM_mono (m_numeralO hc h.2.1 h.1 hh) ?_
  rintro r w' e ⟨⟨h1, h2, h3⟩, h4⟩
  exact ⟨⟨h1, h2, hQ _ _ h.2.2 h3⟩, h4⟩
theorem Mm.put {Q Q' : QV → Prop} {a k z : Int} (h : Mm S v T M n Q w o) (ha : a ≠ M ∧ a ≠ M + 28 ∧ a ≠ M + 29) (hk : Wm (S.1 a) k = true) (hQ : ∀ w, Q w → Q' (vu w a k z)) : Mm S v T M n Q' (vu w a k z) o := ⟨h.1.put ha.1, h.2.1.put ha hk, hQ _ h.2.2⟩
theorem Mm.fl {Q : QV → Prop} (h : Mm S v T M n Q w o) (hQ : Qz M Q) {f : Int} (hf : 0 < f) : wM mX12_fail [M, f] S w (fun _ w' => Mm S v T M n Q w' (if o.1 = 0 then (f, o.2) else o)) := by
  refine wM_mono (m_failO h.2.1 h.1 hf) ?_
  rintro r w' e ⟨h1, h2, h3⟩
  exact ⟨h1, h2, hQ _ _ h.2.2 h3⟩
theorem Mm.sc {Q : QV → Prop} (hc : CX v M T n) {i : Int} (h : Mm S v T M n Q w (0, i)) (hQ : Qz M Q) (hk : kdT v T i ≠ 1) : wM mX12_scan [M] S w (fun _ w' => Mm S v T M n Q w' (0, i + 1)) := by
  obtain ⟨h1, h2, h3, h4⟩ := OP.nx hc h.1 hk
  refine wM_mono (m_scanO hc h.2.1 h1 h2 h3 h4) ?_
  rintro r w' e ⟨h1, h2, h3⟩
  exact ⟨h1, h2, hQ _ _ h.2.2 h3⟩
theorem Mm.live {Q : QV → Prop} {i : Int} (h : Mm S v T M n Q w (0, i)) : w M 37 = 0 := by
  have := h.1.2
  rw [if_pos rfl] at this
  exact this.2.1
theorem Mm.dead {Q : QV → Prop} (h : Mm S v T M n Q w o) (hf : ¬ o.1 = 0) : 0 < w M 37 := by
  have := h.1.2
  rw [if_neg hf] at this
  omega
theorem Mm.cg {Q Q' : QV → Prop} (h : Mm S v T M n Q w o) (hq : Q w → Q' w) : Mm S v T M n Q' w o := ⟨h.1, h.2.1, hq h.2.2⟩
def amF (u w : QV) (M B cnt : Int) : Prop := ∀ a k, (a = M → k < 32 ∨ 38 < k) → (a = M + 4 → k ≠ B) → (M + 14 ≤ a → a ≤ M + 17 → k ≠ 4 * B + cnt) → w a k = u a k
theorem amF.f {u w w' : QV} {cnt : Int} (h : amF u w M B cnt) (hf : Fp M w w') : amF u w' M B cnt := fun a k h1 h2 h3 => (hf a k h1).trans (h a k h1 h2 h3)
def arM (v : QV) (T i cnt : Int) : Int × Int := if 4 ≤ cnt then (4, i) else if howK (kdT v T (i + 1)) = -1 then (1, i + 1) else stp (fNu v T 0 9) (stp (fKd v T 268) (stp (fNu v T 1 30) (stp (fKd v T 267) (stp (fNu v T 1 12) (0, i + 2)))))
theorem arM_o {i cnt : Int} : arO v T i cnt = stp (fKd v T 59) (arM v T i cnt) := by
  unfold arO arM arS
  split
  · rw [stp_ff (by decide)]
  · split
    · rw [stp_ff (by decide)]
    · rfl
theorem m_readArchive {i cnt : Int} (hc : CX v M T n) (h : Mm S v T M n (fun _ => True) w (0, i)) (hB : B = 0 ∨ B = 1) (hcnt : w (M + 4) B = cnt) (hc0 : 0 ≤ cnt ∧ cnt ≤ 4) (hK : kdT v T i ≠ 1) : wM mX12_readArchive [M, B] S w (fun _ w' => Mm S v T M n (fun w' => amF w w' M B cnt ∧ ((arM v T i cnt).1 = 0 → w' (M + 4) B = cnt + 1 ∧ w' (M + 14) (4 * B + cnt) = howK (kdT v T (i + 1)) ∧ w' (M + 15) (4 * B + cnt) = nmT v T (i + 2) ∧ w' (M + 16) (4 * B + cnt) = nmT v T (i + 4) ∧ w' (M + 17) (4 * B + cnt) = nmT v T (i + 6))) w' (arM v T i cnt)) := by
  have hM := h.2.1.1
  have oB : 0 ≤ B ∧ B < 2 := by omega
  unfold arM
  by_cases c4 : 4 ≤ cnt
  · have ce : cnt = 4 := by omega
    rw [if_pos c4]
    have hfl := (h.cg (Q' := fun w' => amF w w' M B cnt) (fun _ _ _ _ _ _ => rfl)).fl (fun w1 w2 q1 q2 => q1.f q2) (f := 4) (by decide)
    rw [if_pos rfl] at hfl
    rw [ce] at hcnt
    simp only [mX12_readArchive, sX12_readArchive, wE_I, wE_V, wE_F, wE_A, wE_N, wE_1, wE_2, wE_D, wE_B, wE_If, wE_C, wE_CV, wE_SL, wE_SA, wA_0, wA_1, wC_B, wC_E, wC_And, wC_Or, wC_Not, wS_Skip, wS_Brk, wS_Cnt, wS_RetV, wS_Ret, wS_Seq, wS_Set, wS_Inc, wS_Do, wS_Put, wS_PutC, wS_Arr, wS_ArrC, wS_If, wS_Sw, wS_F0, wS_F1, wM_q, lu_ap, aL_ap, ct_0, ct_1, ct_2, ct_3, ct_4, ct_5, headD_1, List.mem_cons, List.not_mem_nil, or_false, false_or, or_true, true_or, true_and, and_true, false_and, and_false, not_true_eq_false, not_false_eq_true, if_true, if_false, nr_20, nr_24, nr_40, nr_41, nr_44, pt_lt, pt_ge, pt_eq, pt_ne, pt_gt, pt_le, pt_E, pt_N, pt_F, ite_10, ite_11, ne_eq, and_self, or_self, decide_true, decide_false, Bool.not_true, Bool.not_false, Bool.false_eq_true, Nat.reduceEqDiff, Nat.reduceAdd, Int.reduceEq, Int.reduceLT, Int.reduceLE, Int.reduceNeg, Int.reduceAdd, Int.reduceSub, Int.reduceMul, reduceCtorEq, iA, iS, iM, iD, iR, iN, lA, lS, lM, lD, lR, hM.k, hM.p3, hM.a4, hM.n4, oB, hcnt]
    refine wM_mono hfl ?_
    rintro r w' e hm
    have hd := hm.dead (by simp)
    simp only [hm.2.1.1.k, hd, wE_I, wE_V, wE_F, wE_A, wE_N, wE_1, wE_2, wE_D, wE_B, wE_If, wE_C, wE_CV, wE_SL, wE_SA, wA_0, wA_1, wC_B, wC_E, wC_And, wC_Or, wC_Not, wS_Skip, wS_Brk, wS_Cnt, wS_RetV, wS_Ret, wS_Seq, wS_Set, wS_Inc, wS_Do, wS_Put, wS_PutC, wS_Arr, wS_ArrC, wS_If, wS_Sw, wS_F0, wS_F1, wM_q, lu_ap, aL_ap, ct_0, ct_1, ct_2, ct_3, ct_4, ct_5, headD_1, List.mem_cons, List.not_mem_nil, or_false, false_or, or_true, true_or, true_and, and_true, false_and, and_false, not_true_eq_false, not_false_eq_true, if_true, if_false, nr_20, nr_24, nr_40, nr_41, nr_44, pt_lt, pt_ge, pt_eq, pt_ne, pt_gt, pt_le, pt_E, pt_N, pt_F, ite_10, ite_11, ne_eq, and_self, or_self, decide_true, decide_false, Bool.not_true, Bool.not_false, Bool.false_eq_true, Nat.reduceEqDiff, Nat.reduceAdd, Int.reduceEq, Int.reduceLT, Int.reduceLE, Int.reduceNeg, Int.reduceAdd, Int.reduceSub, Int.reduceMul, reduceCtorEq]
    exact hm.cg (fun q => ⟨q, fun z => absurd z (by simp)⟩)
  · rw [if_neg c4]
    have ce : ¬ cnt = 4 := by omega
    have o4 : 0 ≤ cnt ∧ cnt ≤ 1000 := by omega
    have o8 : 0 ≤ 4 * B + cnt ∧ 4 * B + cnt < 8 := by omega
    have hown := fun u : QV => m_own (S := S) (v := u) (k := cnt) hB o4
    have hQ0 : Qz M (fun w' => amF w w' M B cnt ∧ w' (M + 4) B = cnt) := fun w1 w2 q1 q2 => ⟨q1.1.f q2, by rw [q2 _ _ (by omega)]; exact q1.2⟩
    have hm0 := h.cg (Q' := fun w' => amF w w' M B cnt ∧ w' (M + 4) B = cnt) (fun _ => ⟨fun _ _ _ _ _ => rfl, hcnt⟩)
    have n00 : ¬ (0 : Int) < 0 := by decide
    simp only [mX12_readArchive, sX12_readArchive, wM_q]
    generalize hL : aL 0 [2, 0] [M, B] = L
    have m0 : L 0 = M := by rw [← hL]; simp [lu_ap, aL_ap, ct_0, ct_1, ct_2]
    have m1 : L 1 = B := by rw [← hL]; simp [lu_ap, aL_ap, ct_0, ct_1, ct_2]
    clear hL
    refine ws_step (L' := L) (w := w) (by simp only [wE_I, wE_V, wE_F, wE_A, wE_N, wE_1, wE_2, wE_D, wE_B, wE_If, wE_C, wE_CV, wE_SL, wE_SA, wA_0, wA_1, wC_B, wC_E, wC_And, wC_Or, wC_Not, wS_Skip, wS_Brk, wS_Cnt, wS_RetV, wS_Ret, wS_Seq, wS_Set, wS_Inc, wS_Do, wS_Put, wS_PutC, wS_Arr, wS_ArrC, wS_If, wS_Sw, wS_F0, wS_F1, wM_q, lu_ap, aL_ap, ct_0, ct_1, ct_2, ct_3, ct_4, ct_5, headD_1, List.mem_cons, List.not_mem_nil, or_false, false_or, or_true, true_or, true_and, and_true, false_and, and_false, not_true_eq_false, not_false_eq_true, if_true, if_false, nr_20, nr_24, nr_40, nr_41, nr_44, pt_lt, pt_ge, pt_eq, pt_ne, pt_gt, pt_le, pt_E, pt_N, pt_F, ite_10, ite_11, ne_eq, and_self, or_self, decide_true, decide_false, Bool.not_true, Bool.not_false, Bool.false_eq_true, Nat.reduceEqDiff, Nat.reduceAdd, Int.reduceEq, Int.reduceLT, Int.reduceLE, Int.reduceNeg, Int.reduceAdd, Int.reduceSub, Int.reduceMul, reduceCtorEq, iA, iS, iM, iD, iR, iN, lA, lS, lM, lD, lR, m0, m1, hM.k, hM.p3, hM.a4, hM.n4, oB, hcnt, ce]) ?_
    refine ws_step (L' := L) (w := w) (by simp only [wE_I, wE_V, wE_F, wE_A, wE_N, wE_1, wE_2, wE_D, wE_B, wE_If, wE_C, wE_CV, wE_SL, wE_SA, wA_0, wA_1, wC_B, wC_E, wC_And, wC_Or, wC_Not, wS_Skip, wS_Brk, wS_Cnt, wS_RetV, wS_Ret, wS_Seq, wS_Set, wS_Inc, wS_Do, wS_Put, wS_PutC, wS_Arr, wS_ArrC, wS_If, wS_Sw, wS_F0, wS_F1, wM_q, lu_ap, aL_ap, ct_0, ct_1, ct_2, ct_3, ct_4, ct_5, headD_1, List.mem_cons, List.not_mem_nil, or_false, false_or, or_true, true_or, true_and, and_true, false_and, and_false, not_true_eq_false, not_false_eq_true, if_true, if_false, nr_20, nr_24, nr_40, nr_41, nr_44, pt_lt, pt_ge, pt_eq, pt_ne, pt_gt, pt_le, pt_E, pt_N, pt_F, ite_10, ite_11, ne_eq, and_self, or_self, decide_true, decide_false, Bool.not_true, Bool.not_false, Bool.false_eq_true, Nat.reduceEqDiff, Nat.reduceAdd, Int.reduceEq, Int.reduceLT, Int.reduceLE, Int.reduceNeg, Int.reduceAdd, Int.reduceSub, Int.reduceMul, reduceCtorEq, iA, iS, iM, iD, iR, iN, lA, lS, lM, lD, lR, m0, hM.k, hm0.live, n00]) ?_
    refine ws_call (fun w' => Mm S v T M n (fun w' => amF w w' M B cnt ∧ w' (M + 4) B = cnt) w' (0, i + 1)) (by simp only [wE_I, wE_V, wE_F, wE_A, wE_N, wE_1, wE_2, wE_D, wE_B, wE_If, wE_C, wE_CV, wE_SL, wE_SA, wA_0, wA_1, wC_B, wC_E, wC_And, wC_Or, wC_Not, wS_Skip, wS_Brk, wS_Cnt, wS_RetV, wS_Ret, wS_Seq, wS_Set, wS_Inc, wS_Do, wS_Put, wS_PutC, wS_Arr, wS_ArrC, wS_If, wS_Sw, wS_F0, wS_F1, wM_q, lu_ap, aL_ap, ct_0, ct_1, ct_2, ct_3, ct_4, ct_5, headD_1, List.mem_cons, List.not_mem_nil, or_false, false_or, or_true, true_or, true_and, and_true, false_and, and_false, not_true_eq_false, not_false_eq_true, if_true, if_false, nr_20, nr_24, nr_40, nr_41, nr_44, pt_lt, pt_ge, pt_eq, pt_ne, pt_gt, pt_le, pt_E, pt_N, pt_F, ite_10, ite_11, ne_eq, and_self, or_self, decide_true, decide_false, Bool.not_true, Bool.not_false, Bool.false_eq_true, Nat.reduceEqDiff, Nat.reduceAdd, Int.reduceEq, Int.reduceLT, Int.reduceLE, Int.reduceNeg, Int.reduceAdd, Int.reduceSub, Int.reduceMul, reduceCtorEq, iA, iS, iM, iD, iR, iN, lA, lS, lM, lD, lR, m0, hM.k]; exact hm0.sc hc hQ0 hK) ?_
    intro w1 hm1
    have hM1 := hm1.2.1.1
    refine ws_step (L' := lu L 2 (4 * B + cnt)) (w := w1) (by simp only [wE_I, wE_V, wE_F, wE_A, wE_N, wE_1, wE_2, wE_D, wE_B, wE_If, wE_C, wE_CV, wE_SL, wE_SA, wA_0, wA_1, wC_B, wC_E, wC_And, wC_Or, wC_Not, wS_Skip, wS_Brk, wS_Cnt, wS_RetV, wS_Ret, wS_Seq, wS_Set, wS_Inc, wS_Do, wS_Put, wS_PutC, wS_Arr, wS_ArrC, wS_If, wS_Sw, wS_F0, wS_F1, wM_q, lu_ap, aL_ap, ct_0, ct_1, ct_2, ct_3, ct_4, ct_5, headD_1, List.mem_cons, List.not_mem_nil, or_false, false_or, or_true, true_or, true_and, and_true, false_and, and_false, not_true_eq_false, not_false_eq_true, if_true, if_false, nr_20, nr_24, nr_40, nr_41, nr_44, pt_lt, pt_ge, pt_eq, pt_ne, pt_gt, pt_le, pt_E, pt_N, pt_F, ite_10, ite_11, ne_eq, and_self, or_self, decide_true, decide_false, Bool.not_true, Bool.not_false, Bool.false_eq_true, Nat.reduceEqDiff, Nat.reduceAdd, Int.reduceEq, Int.reduceLT, Int.reduceLE, Int.reduceNeg, Int.reduceAdd, Int.reduceSub, Int.reduceMul, reduceCtorEq, iA, iS, iM, iD, iR, iN, lA, lS, lM, lD, lR, m0, m1, hM1.k, hM1.p3, hM1.a4, hM1.n4, oB, hm1.2.2.2, wM_of (hown _)]) ?_
    have l0 : lu L 2 (4 * B + cnt) 0 = M := by simp [lu_ap, m0]
    have l1 : lu L 2 (4 * B + cnt) 1 = B := by simp [lu_ap, m1]
    have l2 : lu L 2 (4 * B + cnt) 2 = 4 * B + cnt := by simp [lu_ap]
    generalize lu L 2 (4 * B + cnt) = L1 at *
    -- how
    have w15 := m_isWordO hm1.2.1 hm1.1 (j := 15) (by decide)
    have w4 := m_isWordO hm1.2.1 hm1.1 (j := 4) (by decide)
    have w3 := m_isWordO hm1.2.1 hm1.1 (j := 3) (by decide)
    simp only [show (256 : Int) + (pmN 15 : Nat) = 265 from rfl, show (256 : Int) + (pmN 4 : Nat) = 263 from rfl, show (256 : Int) + (pmN 3 : Nat) = 262 from rfl, true_and, show (((15 : Nat)) : Int) = 15 from rfl, show (((4 : Nat)) : Int) = 4 from rfl, show (((3 : Nat)) : Int) = 3 from rfl] at w15 w4 w3
    generalize hk : kdT v T (i + 1) = k at *
    refine ws_step (L' := L1) (w := vu w1 (M + 14) (4 * B + cnt) (if k = 265 then 0 else if k = 263 then 1 else if k = 262 then 2 else 3)) ?_ ?_
    · by_cases c1 : k = 265
      · rw [if_pos c1] at w15
        simp only [wE_I, wE_V, wE_F, wE_A, wE_N, wE_1, wE_2, wE_D, wE_B, wE_If, wE_C, wE_CV, wE_SL, wE_SA, wA_0, wA_1, wC_B, wC_E, wC_And, wC_Or, wC_Not, wS_Skip, wS_Brk, wS_Cnt, wS_RetV, wS_Ret, wS_Seq, wS_Set, wS_Inc, wS_Do, wS_Put, wS_PutC, wS_Arr, wS_ArrC, wS_If, wS_Sw, wS_F0, wS_F1, wM_q, lu_ap, aL_ap, ct_0, ct_1, ct_2, ct_3, ct_4, ct_5, headD_1, List.mem_cons, List.not_mem_nil, or_false, false_or, or_true, true_or, true_and, and_true, false_and, and_false, not_true_eq_false, not_false_eq_true, if_true, if_false, nr_20, nr_24, nr_40, nr_41, nr_44, pt_lt, pt_ge, pt_eq, pt_ne, pt_gt, pt_le, pt_E, pt_N, pt_F, ite_10, ite_11, ne_eq, and_self, or_self, decide_true, decide_false, Bool.not_true, Bool.not_false, Bool.false_eq_true, Nat.reduceEqDiff, Nat.reduceAdd, Int.reduceEq, Int.reduceLT, Int.reduceLE, Int.reduceNeg, Int.reduceAdd, Int.reduceSub, Int.reduceMul, reduceCtorEq, iA, iS, iM, iD, iR, iN, lA, lS, lM, lD, lR, l0, l2, hM1.k, hM1.p13, hM1.a14, hM1.n14, o8, wM_of w15, c1]
      · rw [if_neg c1] at w15
        by_cases c2 : k = 263
        · rw [if_pos c2] at w4
          simp only [wE_I, wE_V, wE_F, wE_A, wE_N, wE_1, wE_2, wE_D, wE_B, wE_If, wE_C, wE_CV, wE_SL, wE_SA, wA_0, wA_1, wC_B, wC_E, wC_And, wC_Or, wC_Not, wS_Skip, wS_Brk, wS_Cnt, wS_RetV, wS_Ret, wS_Seq, wS_Set, wS_Inc, wS_Do, wS_Put, wS_PutC, wS_Arr, wS_ArrC, wS_If, wS_Sw, wS_F0, wS_F1, wM_q, lu_ap, aL_ap, ct_0, ct_1, ct_2, ct_3, ct_4, ct_5, headD_1, List.mem_cons, List.not_mem_nil, or_false, false_or, or_true, true_or, true_and, and_true, false_and, and_false, not_true_eq_false, not_false_eq_true, if_true, if_false, nr_20, nr_24, nr_40, nr_41, nr_44, pt_lt, pt_ge, pt_eq, pt_ne, pt_gt, pt_le, pt_E, pt_N, pt_F, ite_10, ite_11, ne_eq, and_self, or_self, decide_true, decide_false, Bool.not_true, Bool.not_false, Bool.false_eq_true, Nat.reduceEqDiff, Nat.reduceAdd, Int.reduceEq, Int.reduceLT, Int.reduceLE, Int.reduceNeg, Int.reduceAdd, Int.reduceSub, Int.reduceMul, reduceCtorEq, iA, iS, iM, iD, iR, iN, lA, lS, lM, lD, lR, l0, l2, hM1.k, hM1.p13, hM1.a14, hM1.n14, o8, wM_of w15, wM_of w4, c2]
        · rw [if_neg c2] at w4
          by_cases c3 : k = 262
          · rw [if_pos c3] at w3
            simp only [wE_I, wE_V, wE_F, wE_A, wE_N, wE_1, wE_2, wE_D, wE_B, wE_If, wE_C, wE_CV, wE_SL, wE_SA, wA_0, wA_1, wC_B, wC_E, wC_And, wC_Or, wC_Not, wS_Skip, wS_Brk, wS_Cnt, wS_RetV, wS_Ret, wS_Seq, wS_Set, wS_Inc, wS_Do, wS_Put, wS_PutC, wS_Arr, wS_ArrC, wS_If, wS_Sw, wS_F0, wS_F1, wM_q, lu_ap, aL_ap, ct_0, ct_1, ct_2, ct_3, ct_4, ct_5, headD_1, List.mem_cons, List.not_mem_nil, or_false, false_or, or_true, true_or, true_and, and_true, false_and, and_false, not_true_eq_false, not_false_eq_true, if_true, if_false, nr_20, nr_24, nr_40, nr_41, nr_44, pt_lt, pt_ge, pt_eq, pt_ne, pt_gt, pt_le, pt_E, pt_N, pt_F, ite_10, ite_11, ne_eq, and_self, or_self, decide_true, decide_false, Bool.not_true, Bool.not_false, Bool.false_eq_true, Nat.reduceEqDiff, Nat.reduceAdd, Int.reduceEq, Int.reduceLT, Int.reduceLE, Int.reduceNeg, Int.reduceAdd, Int.reduceSub, Int.reduceMul, reduceCtorEq, iA, iS, iM, iD, iR, iN, lA, lS, lM, lD, lR, l0, l2, hM1.k, hM1.p13, hM1.a14, hM1.n14, o8, wM_of w15, wM_of w4, wM_of w3, c3]
          · rw [if_neg c3] at w3
            simp only [wE_I, wE_V, wE_F, wE_A, wE_N, wE_1, wE_2, wE_D, wE_B, wE_If, wE_C, wE_CV, wE_SL, wE_SA, wA_0, wA_1, wC_B, wC_E, wC_And, wC_Or, wC_Not, wS_Skip, wS_Brk, wS_Cnt, wS_RetV, wS_Ret, wS_Seq, wS_Set, wS_Inc, wS_Do, wS_Put, wS_PutC, wS_Arr, wS_ArrC, wS_If, wS_Sw, wS_F0, wS_F1, wM_q, lu_ap, aL_ap, ct_0, ct_1, ct_2, ct_3, ct_4, ct_5, headD_1, List.mem_cons, List.not_mem_nil, or_false, false_or, or_true, true_or, true_and, and_true, false_and, and_false, not_true_eq_false, not_false_eq_true, if_true, if_false, nr_20, nr_24, nr_40, nr_41, nr_44, pt_lt, pt_ge, pt_eq, pt_ne, pt_gt, pt_le, pt_E, pt_N, pt_F, ite_10, ite_11, ne_eq, and_self, or_self, decide_true, decide_false, Bool.not_true, Bool.not_false, Bool.false_eq_true, Nat.reduceEqDiff, Nat.reduceAdd, Int.reduceEq, Int.reduceLT, Int.reduceLE, Int.reduceNeg, Int.reduceAdd, Int.reduceSub, Int.reduceMul, reduceCtorEq, iA, iS, iM, iD, iR, iN, lA, lS, lM, lD, lR, l0, l2, hM1.k, hM1.p13, hM1.a14, hM1.n14, o8, wM_of w15, wM_of w4, wM_of w3, c1, c2, c3]
    have hme := hm1.put (a := M + 14) (k := 4 * B + cnt) (z := if k = 265 then 0 else if k = 263 then 1 else if k = 262 then 2 else 3) (Q' := fun w' => amF w w' M B cnt ∧ w' (M + 4) B = cnt ∧ w' (M + 14) (4 * B + cnt) = if k = 265 then 0 else if k = 263 then 1 else if k = 262 then 2 else 3) (by omega) (by rw [hM1.a14]; rfl) (fun w' q => ⟨fun a j q1 q2 q3 => by rw [vu_ne (by omega)]; exact q.1 a j q1 q2 q3, by rw [vu_ne (by omega)]; exact q.2, vu_is⟩)
    have y0 : vu w1 (M + 14) (4 * B + cnt) (if k = 265 then 0 else if k = 263 then 1 else if k = 262 then 2 else 3) (M + 14) (4 * B + cnt) = if k = 265 then 0 else if k = 263 then 1 else if k = 262 then 2 else 3 := vu_is
    generalize vu w1 (M + 14) (4 * B + cnt) (if k = 265 then 0 else if k = 263 then 1 else if k = 262 then 2 else 3) = u2 at *
    have hM2 := hme.2.1.1
    have w16 := m_isWordO hme.2.1 hme.1 (j := 16) (by decide)
    simp only [show (256 : Int) + (pmN 16 : Nat) = 266 from rfl, true_and, show (((16 : Nat)) : Int) = 16 from rfl, hk] at w16
    have hQ1 : ∀ z : Int, Qz M (fun w' => amF w w' M B cnt ∧ w' (M + 4) B = cnt ∧ w' (M + 14) (4 * B + cnt) = z) := fun z w1 w2 q1 q2 => ⟨q1.1.f q2, by rw [q2 _ _ (by omega)]; exact q1.2.1, by rw [q2 _ _ (by omega)]; exact q1.2.2⟩
    by_cases ck : howK k = -1
    · rw [if_pos ck]
      have hn : ¬ k = 265 ∧ ¬ k = 263 ∧ ¬ k = 262 ∧ ¬ k = 266 := by
        unfold howK at ck
        refine ⟨fun e => ?_, fun e => ?_, fun e => ?_, fun e => ?_⟩ <;> subst e <;> simp at ck
      rw [if_neg hn.1, if_neg hn.2.1, if_neg hn.2.2.1] at y0 hme
      rw [if_neg hn.2.2.2] at w16
      have hfl := hme.fl (hQ1 3) (f := 1) (by decide)
      rw [if_pos rfl] at hfl
      simp only [wE_I, wE_V, wE_F, wE_A, wE_N, wE_1, wE_2, wE_D, wE_B, wE_If, wE_C, wE_CV, wE_SL, wE_SA, wA_0, wA_1, wC_B, wC_E, wC_And, wC_Or, wC_Not, wS_Skip, wS_Brk, wS_Cnt, wS_RetV, wS_Ret, wS_Seq, wS_Set, wS_Inc, wS_Do, wS_Put, wS_PutC, wS_Arr, wS_ArrC, wS_If, wS_Sw, wS_F0, wS_F1, wM_q, lu_ap, aL_ap, ct_0, ct_1, ct_2, ct_3, ct_4, ct_5, headD_1, List.mem_cons, List.not_mem_nil, or_false, false_or, or_true, true_or, true_and, and_true, false_and, and_false, not_true_eq_false, not_false_eq_true, if_true, if_false, nr_20, nr_24, nr_40, nr_41, nr_44, pt_lt, pt_ge, pt_eq, pt_ne, pt_gt, pt_le, pt_E, pt_N, pt_F, ite_10, ite_11, ne_eq, and_self, or_self, decide_true, decide_false, Bool.not_true, Bool.not_false, Bool.false_eq_true, Nat.reduceEqDiff, Nat.reduceAdd, Int.reduceEq, Int.reduceLT, Int.reduceLE, Int.reduceNeg, Int.reduceAdd, Int.reduceSub, Int.reduceMul, reduceCtorEq, iA, iS, iM, iD, iR, iN, lA, lS, lM, lD, lR, l0, l2, hM2.k, hM2.p13, hM2.a14, hM2.n14, o8, y0, wM_of w16]
      refine wM_mono hfl ?_
      rintro r w' e hm
      have hd := hm.dead (by simp)
      simp only [l0, hm.2.1.1.k, hd, wE_I, wE_V, wE_F, wE_A, wE_N, wE_1, wE_2, wE_D, wE_B, wE_If, wE_C, wE_CV, wE_SL, wE_SA, wA_0, wA_1, wC_B, wC_E, wC_And, wC_Or, wC_Not, wS_Skip, wS_Brk, wS_Cnt, wS_RetV, wS_Ret, wS_Seq, wS_Set, wS_Inc, wS_Do, wS_Put, wS_PutC, wS_Arr, wS_ArrC, wS_If, wS_Sw, wS_F0, wS_F1, wM_q, lu_ap, aL_ap, ct_0, ct_1, ct_2, ct_3, ct_4, ct_5, headD_1, List.mem_cons, List.not_mem_nil, or_false, false_or, or_true, true_or, true_and, and_true, false_and, and_false, not_true_eq_false, not_false_eq_true, if_true, if_false, nr_20, nr_24, nr_40, nr_41, nr_44, pt_lt, pt_ge, pt_eq, pt_ne, pt_gt, pt_le, pt_E, pt_N, pt_F, ite_10, ite_11, ne_eq, and_self, or_self, decide_true, decide_false, Bool.not_true, Bool.not_false, Bool.false_eq_true, Nat.reduceEqDiff, Nat.reduceAdd, Int.reduceEq, Int.reduceLT, Int.reduceLE, Int.reduceNeg, Int.reduceAdd, Int.reduceSub, Int.reduceMul, reduceCtorEq]
      exact hm.cg (fun q => ⟨q.1, fun z => absurd z (by simp)⟩)
    · rw [if_neg ck]
      have hv : (if k = 265 then 0 else if k = 263 then 1 else if k = 262 then 2 else (3 : Int)) = howK k := by
        unfold howK at ck ⊢
        split
        · rfl
        · split
          · rfl
          · split
            · rfl
            · rename_i a b c
              rw [if_neg a, if_neg b, if_neg c] at ck
              split
              · rfl
              · rename_i d; rw [if_neg d] at ck; exact absurd rfl ck
      rw [hv] at y0 hme
      refine ws_step (L' := L1) (w := u2) ?_ ?_
      · by_cases c3 : howK k = 3
        · have c66 : k = 266 := by
            unfold howK at c3
            split at c3
            · cases c3
            · split at c3
              · cases c3
              · split at c3
                · cases c3
                · split at c3
                  · rename_i d; exact d
                  · cases c3
          rw [if_pos c66] at w16
          simp only [wE_I, wE_V, wE_F, wE_A, wE_N, wE_1, wE_2, wE_D, wE_B, wE_If, wE_C, wE_CV, wE_SL, wE_SA, wA_0, wA_1, wC_B, wC_E, wC_And, wC_Or, wC_Not, wS_Skip, wS_Brk, wS_Cnt, wS_RetV, wS_Ret, wS_Seq, wS_Set, wS_Inc, wS_Do, wS_Put, wS_PutC, wS_Arr, wS_ArrC, wS_If, wS_Sw, wS_F0, wS_F1, wM_q, lu_ap, aL_ap, ct_0, ct_1, ct_2, ct_3, ct_4, ct_5, headD_1, List.mem_cons, List.not_mem_nil, or_false, false_or, or_true, true_or, true_and, and_true, false_and, and_false, not_true_eq_false, not_false_eq_true, if_true, if_false, nr_20, nr_24, nr_40, nr_41, nr_44, pt_lt, pt_ge, pt_eq, pt_ne, pt_gt, pt_le, pt_E, pt_N, pt_F, ite_10, ite_11, ne_eq, and_self, or_self, decide_true, decide_false, Bool.not_true, Bool.not_false, Bool.false_eq_true, Nat.reduceEqDiff, Nat.reduceAdd, Int.reduceEq, Int.reduceLT, Int.reduceLE, Int.reduceNeg, Int.reduceAdd, Int.reduceSub, Int.reduceMul, reduceCtorEq, iA, iS, iM, iD, iR, iN, lA, lS, lM, lD, lR, l0, l2, hM2.k, hM2.p13, hM2.a14, hM2.n14, o8, y0, c3, wM_of w16]
        · simp only [wE_I, wE_V, wE_F, wE_A, wE_N, wE_1, wE_2, wE_D, wE_B, wE_If, wE_C, wE_CV, wE_SL, wE_SA, wA_0, wA_1, wC_B, wC_E, wC_And, wC_Or, wC_Not, wS_Skip, wS_Brk, wS_Cnt, wS_RetV, wS_Ret, wS_Seq, wS_Set, wS_Inc, wS_Do, wS_Put, wS_PutC, wS_Arr, wS_ArrC, wS_If, wS_Sw, wS_F0, wS_F1, wM_q, lu_ap, aL_ap, ct_0, ct_1, ct_2, ct_3, ct_4, ct_5, headD_1, List.mem_cons, List.not_mem_nil, or_false, false_or, or_true, true_or, true_and, and_true, false_and, and_false, not_true_eq_false, not_false_eq_true, if_true, if_false, nr_20, nr_24, nr_40, nr_41, nr_44, pt_lt, pt_ge, pt_eq, pt_ne, pt_gt, pt_le, pt_E, pt_N, pt_F, ite_10, ite_11, ne_eq, and_self, or_self, decide_true, decide_false, Bool.not_true, Bool.not_false, Bool.false_eq_true, Nat.reduceEqDiff, Nat.reduceAdd, Int.reduceEq, Int.reduceLT, Int.reduceLE, Int.reduceNeg, Int.reduceAdd, Int.reduceSub, Int.reduceMul, reduceCtorEq, iA, iS, iM, iD, iR, iN, lA, lS, lM, lD, lR, l0, l2, hM2.k, hM2.p13, hM2.a14, hM2.n14, o8, y0, c3]
      refine ws_step (L' := L1) (w := u2) (by simp only [wE_I, wE_V, wE_F, wE_A, wE_N, wE_1, wE_2, wE_D, wE_B, wE_If, wE_C, wE_CV, wE_SL, wE_SA, wA_0, wA_1, wC_B, wC_E, wC_And, wC_Or, wC_Not, wS_Skip, wS_Brk, wS_Cnt, wS_RetV, wS_Ret, wS_Seq, wS_Set, wS_Inc, wS_Do, wS_Put, wS_PutC, wS_Arr, wS_ArrC, wS_If, wS_Sw, wS_F0, wS_F1, wM_q, lu_ap, aL_ap, ct_0, ct_1, ct_2, ct_3, ct_4, ct_5, headD_1, List.mem_cons, List.not_mem_nil, or_false, false_or, or_true, true_or, true_and, and_true, false_and, and_false, not_true_eq_false, not_false_eq_true, if_true, if_false, nr_20, nr_24, nr_40, nr_41, nr_44, pt_lt, pt_ge, pt_eq, pt_ne, pt_gt, pt_le, pt_E, pt_N, pt_F, ite_10, ite_11, ne_eq, and_self, or_self, decide_true, decide_false, Bool.not_true, Bool.not_false, Bool.false_eq_true, Nat.reduceEqDiff, Nat.reduceAdd, Int.reduceEq, Int.reduceLT, Int.reduceLE, Int.reduceNeg, Int.reduceAdd, Int.reduceSub, Int.reduceMul, reduceCtorEq, iA, iS, iM, iD, iR, iN, lA, lS, lM, lD, lR, l0, hM2.k, hme.live, n00]) ?_
      have hk1 : kdT v T (i + 1) ≠ 1 := by rw [hk]; intro e; subst e; exact ck rfl
      refine ws_call (fun w' => Mm S v T M n (fun w' => amF w w' M B cnt ∧ w' (M + 4) B = cnt ∧ w' (M + 14) (4 * B + cnt) = howK k) w' (0, i + 2)) (by
        simp only [wE_I, wE_V, wE_F, wE_A, wE_N, wE_1, wE_2, wE_D, wE_B, wE_If, wE_C, wE_CV, wE_SL, wE_SA, wA_0, wA_1, wC_B, wC_E, wC_And, wC_Or, wC_Not, wS_Skip, wS_Brk, wS_Cnt, wS_RetV, wS_Ret, wS_Seq, wS_Set, wS_Inc, wS_Do, wS_Put, wS_PutC, wS_Arr, wS_ArrC, wS_If, wS_Sw, wS_F0, wS_F1, wM_q, lu_ap, aL_ap, ct_0, ct_1, ct_2, ct_3, ct_4, ct_5, headD_1, List.mem_cons, List.not_mem_nil, or_false, false_or, or_true, true_or, true_and, and_true, false_and, and_false, not_true_eq_false, not_false_eq_true, if_true, if_false, nr_20, nr_24, nr_40, nr_41, nr_44, pt_lt, pt_ge, pt_eq, pt_ne, pt_gt, pt_le, pt_E, pt_N, pt_F, ite_10, ite_11, ne_eq, and_self, or_self, decide_true, decide_false, Bool.not_true, Bool.not_false, Bool.false_eq_true, Nat.reduceEqDiff, Nat.reduceAdd, Int.reduceEq, Int.reduceLT, Int.reduceLE, Int.reduceNeg, Int.reduceAdd, Int.reduceSub, Int.reduceMul, reduceCtorEq, iA, iS, iM, iD, iR, iN, lA, lS, lM, lD, lR, l0, hM2.k]
        have := hme.sc hc (hQ1 _) hk1
        rw [show i + 1 + 1 = i + 2 by omega] at this
        exact this) ?_
      intro u3 hm3
      have hM3 := hm3.2.1.1
      simp only [wE_I, wE_V, wE_F, wE_A, wE_N, wE_1, wE_2, wE_D, wE_B, wE_If, wE_C, wE_CV, wE_SL, wE_SA, wA_0, wA_1, wC_B, wC_E, wC_And, wC_Or, wC_Not, wS_Skip, wS_Brk, wS_Cnt, wS_RetV, wS_Ret, wS_Seq, wS_Set, wS_Inc, wS_Do, wS_Put, wS_PutC, wS_Arr, wS_ArrC, wS_If, wS_Sw, wS_F0, wS_F1, wM_q, lu_ap, aL_ap, ct_0, ct_1, ct_2, ct_3, ct_4, ct_5, headD_1, List.mem_cons, List.not_mem_nil, or_false, false_or, or_true, true_or, true_and, and_true, false_and, and_false, not_true_eq_false, not_false_eq_true, if_true, if_false, nr_20, nr_24, nr_40, nr_41, nr_44, pt_lt, pt_ge, pt_eq, pt_ne, pt_gt, pt_le, pt_E, pt_N, pt_F, ite_10, ite_11, ne_eq, and_self, or_self, decide_true, decide_false, Bool.not_true, Bool.not_false, Bool.false_eq_true, Nat.reduceEqDiff, Nat.reduceAdd, Int.reduceEq, Int.reduceLT, Int.reduceLE, Int.reduceNeg, Int.reduceAdd, Int.reduceSub, Int.reduceMul, reduceCtorEq, iA, iS, iM, iD, iR, iN, lA, lS, lM, lD, lR, l0, l2, hM3.k, hM3.p14]
      refine wM_mono (hm3.nl hc (hQ1 _) (lo := 1) (hi := 12) (by decide)) ?_
      rintro r4 u4 e4 ⟨hm4, hr4⟩
      have hM4 := hm4.2.1.1
      have hm5 := hm4.put (a := M + 15) (k := 4 * B + cnt) (z := r4) (Q' := fun w' => amF w w' M B cnt ∧ w' (M + 4) B = cnt ∧ w' (M + 14) (4 * B + cnt) = howK k ∧ w' (M + 15) (4 * B + cnt) = r4) (by omega) (by rw [hM4.a15]; rfl) (fun w' q => ⟨fun a j q1 q2 q3 => by rw [vu_ne (by omega)]; exact q.1 a j q1 q2 q3, by rw [vu_ne (by omega)]; exact q.2.1, by rw [vu_ne (by omega)]; exact q.2.2, vu_is⟩)
      have hQ5 : Qz M (fun w' => amF w w' M B cnt ∧ w' (M + 4) B = cnt ∧ w' (M + 14) (4 * B + cnt) = howK k ∧ w' (M + 15) (4 * B + cnt) = r4) := fun w1 w2 q1 q2 => ⟨q1.1.f q2, by rw [q2 _ _ (by omega)]; exact q1.2.1, by rw [q2 _ _ (by omega)]; exact q1.2.2.1, by rw [q2 _ _ (by omega)]; exact q1.2.2.2⟩
      simp only [hM4.a15, hM4.n15, o8, hM4.k, wE_I, wE_V, wE_F, wE_A, wE_N, wE_1, wE_2, wE_D, wE_B, wE_If, wE_C, wE_CV, wE_SL, wE_SA, wA_0, wA_1, wC_B, wC_E, wC_And, wC_Or, wC_Not, wS_Skip, wS_Brk, wS_Cnt, wS_RetV, wS_Ret, wS_Seq, wS_Set, wS_Inc, wS_Do, wS_Put, wS_PutC, wS_Arr, wS_ArrC, wS_If, wS_Sw, wS_F0, wS_F1, wM_q, lu_ap, aL_ap, ct_0, ct_1, ct_2, ct_3, ct_4, ct_5, headD_1, List.mem_cons, List.not_mem_nil, or_false, false_or, or_true, true_or, true_and, and_true, false_and, and_false, not_true_eq_false, not_false_eq_true, if_true, if_false, nr_20, nr_24, nr_40, nr_41, nr_44, pt_lt, pt_ge, pt_eq, pt_ne, pt_gt, pt_le, pt_E, pt_N, pt_F, ite_10, ite_11, ne_eq, and_self, or_self, decide_true, decide_false, Bool.not_true, Bool.not_false, Bool.false_eq_true, Nat.reduceEqDiff, Nat.reduceAdd, Int.reduceEq, Int.reduceLT, Int.reduceLE, Int.reduceNeg, Int.reduceAdd, Int.reduceSub, Int.reduceMul, reduceCtorEq]
      refine wM_mono (hm5.nw hc hQ5 (j := 6) (by decide)) ?_
      rintro r6 u6 e6 hm6
      rw [show (256 : Int) + (pmN 6 : Nat) = 267 from rfl] at hm6
      have hM6 := hm6.2.1.1
      simp only [l0, l2, hM6.k, hM6.p15, wE_I, wE_V, wE_F, wE_A, wE_N, wE_1, wE_2, wE_D, wE_B, wE_If, wE_C, wE_CV, wE_SL, wE_SA, wA_0, wA_1, wC_B, wC_E, wC_And, wC_Or, wC_Not, wS_Skip, wS_Brk, wS_Cnt, wS_RetV, wS_Ret, wS_Seq, wS_Set, wS_Inc, wS_Do, wS_Put, wS_PutC, wS_Arr, wS_ArrC, wS_If, wS_Sw, wS_F0, wS_F1, wM_q, lu_ap, aL_ap, ct_0, ct_1, ct_2, ct_3, ct_4, ct_5, headD_1, List.mem_cons, List.not_mem_nil, or_false, false_or, or_true, true_or, true_and, and_true, false_and, and_false, not_true_eq_false, not_false_eq_true, if_true, if_false, nr_20, nr_24, nr_40, nr_41, nr_44, pt_lt, pt_ge, pt_eq, pt_ne, pt_gt, pt_le, pt_E, pt_N, pt_F, ite_10, ite_11, ne_eq, and_self, or_self, decide_true, decide_false, Bool.not_true, Bool.not_false, Bool.false_eq_true, Nat.reduceEqDiff, Nat.reduceAdd, Int.reduceEq, Int.reduceLT, Int.reduceLE, Int.reduceNeg, Int.reduceAdd, Int.reduceSub, Int.reduceMul, reduceCtorEq]
      refine wM_mono (hm6.nl hc hQ5 (lo := 1) (hi := 30) (by decide)) ?_
      rintro r7 u7 e7 ⟨hm7, hr7⟩
      have hM7 := hm7.2.1.1
      have hm8 := hm7.put (a := M + 16) (k := 4 * B + cnt) (z := r7) (Q' := fun w' => amF w w' M B cnt ∧ w' (M + 4) B = cnt ∧ w' (M + 14) (4 * B + cnt) = howK k ∧ w' (M + 15) (4 * B + cnt) = r4 ∧ w' (M + 16) (4 * B + cnt) = r7) (by omega) (by rw [hM7.a16]; rfl) (fun w' q => ⟨fun a j q1 q2 q3 => by rw [vu_ne (by omega)]; exact q.1 a j q1 q2 q3, by rw [vu_ne (by omega)]; exact q.2.1, by rw [vu_ne (by omega)]; exact q.2.2.1, by rw [vu_ne (by omega)]; exact q.2.2.2, vu_is⟩)
      have hQ8 : Qz M (fun w' => amF w w' M B cnt ∧ w' (M + 4) B = cnt ∧ w' (M + 14) (4 * B + cnt) = howK k ∧ w' (M + 15) (4 * B + cnt) = r4 ∧ w' (M + 16) (4 * B + cnt) = r7) := fun w1 w2 q1 q2 => ⟨q1.1.f q2, by rw [q2 _ _ (by omega)]; exact q1.2.1, by rw [q2 _ _ (by omega)]; exact q1.2.2.1, by rw [q2 _ _ (by omega)]; exact q1.2.2.2.1, by rw [q2 _ _ (by omega)]; exact q1.2.2.2.2⟩
      simp only [hM7.a16, hM7.n16, o8, hM7.k, wE_I, wE_V, wE_F, wE_A, wE_N, wE_1, wE_2, wE_D, wE_B, wE_If, wE_C, wE_CV, wE_SL, wE_SA, wA_0, wA_1, wC_B, wC_E, wC_And, wC_Or, wC_Not, wS_Skip, wS_Brk, wS_Cnt, wS_RetV, wS_Ret, wS_Seq, wS_Set, wS_Inc, wS_Do, wS_Put, wS_PutC, wS_Arr, wS_ArrC, wS_If, wS_Sw, wS_F0, wS_F1, wM_q, lu_ap, aL_ap, ct_0, ct_1, ct_2, ct_3, ct_4, ct_5, headD_1, List.mem_cons, List.not_mem_nil, or_false, false_or, or_true, true_or, true_and, and_true, false_and, and_false, not_true_eq_false, not_false_eq_true, if_true, if_false, nr_20, nr_24, nr_40, nr_41, nr_44, pt_lt, pt_ge, pt_eq, pt_ne, pt_gt, pt_le, pt_E, pt_N, pt_F, ite_10, ite_11, ne_eq, and_self, or_self, decide_true, decide_false, Bool.not_true, Bool.not_false, Bool.false_eq_true, Nat.reduceEqDiff, Nat.reduceAdd, Int.reduceEq, Int.reduceLT, Int.reduceLE, Int.reduceNeg, Int.reduceAdd, Int.reduceSub, Int.reduceMul, reduceCtorEq]
      refine wM_mono (hm8.nw hc hQ8 (j := 7) (by decide)) ?_
      rintro r9 u9 e9 hm9
      rw [show (256 : Int) + (pmN 7 : Nat) = 268 from rfl] at hm9
      have hM9 := hm9.2.1.1
      simp only [l0, l2, hM9.k, hM9.p16, wE_I, wE_V, wE_F, wE_A, wE_N, wE_1, wE_2, wE_D, wE_B, wE_If, wE_C, wE_CV, wE_SL, wE_SA, wA_0, wA_1, wC_B, wC_E, wC_And, wC_Or, wC_Not, wS_Skip, wS_Brk, wS_Cnt, wS_RetV, wS_Ret, wS_Seq, wS_Set, wS_Inc, wS_Do, wS_Put, wS_PutC, wS_Arr, wS_ArrC, wS_If, wS_Sw, wS_F0, wS_F1, wM_q, lu_ap, aL_ap, ct_0, ct_1, ct_2, ct_3, ct_4, ct_5, headD_1, List.mem_cons, List.not_mem_nil, or_false, false_or, or_true, true_or, true_and, and_true, false_and, and_false, not_true_eq_false, not_false_eq_true, if_true, if_false, nr_20, nr_24, nr_40, nr_41, nr_44, pt_lt, pt_ge, pt_eq, pt_ne, pt_gt, pt_le, pt_E, pt_N, pt_F, ite_10, ite_11, ne_eq, and_self, or_self, decide_true, decide_false, Bool.not_true, Bool.not_false, Bool.false_eq_true, Nat.reduceEqDiff, Nat.reduceAdd, Int.reduceEq, Int.reduceLT, Int.reduceLE, Int.reduceNeg, Int.reduceAdd, Int.reduceSub, Int.reduceMul, reduceCtorEq]
      refine wM_mono (hm9.nl hc hQ8 (lo := 0) (hi := 9) (by decide)) ?_
      rintro ra ua ea ⟨hma, hra⟩
      have hMa := hma.2.1.1
      have hmb := hma.put (a := M + 17) (k := 4 * B + cnt) (z := ra) (Q' := fun w' => amF w w' M B cnt ∧ w' (M + 4) B = cnt ∧ w' (M + 14) (4 * B + cnt) = howK k ∧ w' (M + 15) (4 * B + cnt) = r4 ∧ w' (M + 16) (4 * B + cnt) = r7 ∧ w' (M + 17) (4 * B + cnt) = ra) (by omega) (by rw [hMa.a17]; rfl) (fun w' q => ⟨fun a j q1 q2 q3 => by rw [vu_ne (by omega)]; exact q.1 a j q1 q2 q3, by rw [vu_ne (by omega)]; exact q.2.1, by rw [vu_ne (by omega)]; exact q.2.2.1, by rw [vu_ne (by omega)]; exact q.2.2.2.1, by rw [vu_ne (by omega)]; exact q.2.2.2.2, vu_is⟩)
      have v31 : vu ua (M + 17) (4 * B + cnt) ra M 3 = M + 4 := by rw [vu_ne (by omega)]; exact hMa.p3
      have v4 : vu ua (M + 17) (4 * B + cnt) ra (M + 4) B = cnt := hmb.2.2.2.1
      have ew : w32 (cnt + 1) = cnt + 1 := w32_e (by omega)
      simp only [l0, l1, hMa.a17, hMa.n17, o8, hMa.k, v31, hMa.a4, hMa.n4, oB, v4, ew, wE_I, wE_V, wE_F, wE_A, wE_N, wE_1, wE_2, wE_D, wE_B, wE_If, wE_C, wE_CV, wE_SL, wE_SA, wA_0, wA_1, wC_B, wC_E, wC_And, wC_Or, wC_Not, wS_Skip, wS_Brk, wS_Cnt, wS_RetV, wS_Ret, wS_Seq, wS_Set, wS_Inc, wS_Do, wS_Put, wS_PutC, wS_Arr, wS_ArrC, wS_If, wS_Sw, wS_F0, wS_F1, wM_q, lu_ap, aL_ap, ct_0, ct_1, ct_2, ct_3, ct_4, ct_5, headD_1, List.mem_cons, List.not_mem_nil, or_false, false_or, or_true, true_or, true_and, and_true, false_and, and_false, not_true_eq_false, not_false_eq_true, if_true, if_false, nr_20, nr_24, nr_40, nr_41, nr_44, pt_lt, pt_ge, pt_eq, pt_ne, pt_gt, pt_le, pt_E, pt_N, pt_F, ite_10, ite_11, ne_eq, and_self, or_self, decide_true, decide_false, Bool.not_true, Bool.not_false, Bool.false_eq_true, Nat.reduceEqDiff, Nat.reduceAdd, Int.reduceEq, Int.reduceLT, Int.reduceLE, Int.reduceNeg, Int.reduceAdd, Int.reduceSub, Int.reduceMul, reduceCtorEq, iA, iS, iM, iD, iR, iN, lA, lS, lM, lD, lR]
      clear ew
      refine hmb.put (by omega) (by rw [hMa.a4]; rfl) (fun w' q => ⟨fun a j q1 q2 q3 => by rw [vu_ne (by omega)]; exact q.1 a j q1 q2 q3, fun z => ?_⟩)
      obtain ⟨z1, z2, z3⟩ := stp_i z
      obtain ⟨z4, z5, z6⟩ := stp_i z1
      obtain ⟨z7, z8, z9⟩ := stp_i z4
      obtain ⟨za, zb, zc⟩ := stp_i z7
      obtain ⟨zd, ze, zf⟩ := stp_i za
      refine ⟨vu_is, by rw [vu_ne (by omega)]; exact q.2.2.1, ?_, ?_, ?_⟩
      · rw [vu_ne (by omega), q.2.2.2.1]; exact hr4 za
      · rw [vu_ne (by omega), q.2.2.2.2.1, hr7 z4]
        congr 1
        rw [zc, zf]
        show i + 2 + 1 + 1 = i + 4
        omega
      · rw [vu_ne (by omega), q.2.2.2.2.2, hra z]
        congr 1
        rw [z6, z9, zc, zf]
        show i + 2 + 1 + 1 + 1 + 1 = i + 6
        omega
end MA
