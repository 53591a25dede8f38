/-! FEED: both held together -/
section GD
variable {S : QS} {v w : QV} {b M P B s : Int}
theorem c_feed0 (h : LCl S v b) {x1 x2 x3 x4 x5 n : Int} (hn : v (b + 1) 1 = n) (hb : 980 < n ∧ n ≤ 1000) : mX11_feed [b, x1, x2, x3, x4, x5] S v = some (-1, v) := by
  have e1 : w32 (n + 20) = n + 20 := w32_e (by omega)
  have e2 : 1000 < n + 20 := by clear e1; omega
  apply wM_eq
  simp only [mX11_feed, sX11_feed, wE_I, wE_V, wE_F, wE_A, wE_N, wE_1, wE_2, wE_D, wE_B, wE_If, wE_C, wE_CV, wE_SL, wE_SA, wA_0, wA_1, wC_B, wC_E, wC_And, wC_Or, wC_Not, wS_Skip, wS_Brk, wS_Cnt, wS_RetV, wS_Ret, wS_Seq, wS_Set, wS_Inc, wS_Do, wS_Put, wS_PutC, wS_Arr, wS_ArrC, wS_If, wS_Sw, wS_F0, wS_F1, wM_q, lu_ap, aL_ap, ct_0, ct_1, ct_2, ct_3, ct_4, ct_5, headD_1, List.mem_cons, List.not_mem_nil, or_false, false_or, or_true, true_or, true_and, and_true, false_and, and_false, not_true_eq_false, not_false_eq_true, if_true, if_false, nr_20, nr_24, nr_40, nr_41, nr_44, pt_lt, pt_ge, pt_eq, pt_ne, pt_gt, pt_le, pt_E, pt_N, pt_F, ite_10, ite_11, ne_eq, and_self, or_self, decide_true, decide_false, Bool.not_true, Bool.not_false, Bool.false_eq_true, Nat.reduceEqDiff, Nat.reduceAdd, Int.reduceEq, Int.reduceLT, Int.reduceLE, Int.reduceNeg, Int.reduceAdd, Int.reduceSub, Int.reduceMul, reduceCtorEq, iA, iS, iM, iD, iR, iN, lA, lS, lM, lD, lR, h.k, h.p0, h.t.k, hn, e1, e2]
theorem m_feed0 (h : LMo S v M) {x1 x2 x3 x4 x5 n : Int} (hn : v M 30 = n) (hb : 980 < n ∧ n ≤ 1000) : mX12_feed [M, x1, x2, x3, x4, x5] S v = some (-1, v) := by
  have e1 : w32 (n + 20) = n + 20 := w32_e (by omega)
  have e2 : 1000 < n + 20 := by clear e1; omega
  apply wM_eq
  simp only [mX12_feed, sX12_feed, wE_I, wE_V, wE_F, wE_A, wE_N, wE_1, wE_2, wE_D, wE_B, wE_If, wE_C, wE_CV, wE_SL, wE_SA, wA_0, wA_1, wC_B, wC_E, wC_And, wC_Or, wC_Not, wS_Skip, wS_Brk, wS_Cnt, wS_RetV, wS_Ret, wS_Seq, wS_Set, wS_Inc, wS_Do, wS_Put, wS_PutC, wS_Arr, wS_ArrC, wS_If, wS_Sw, wS_F0, wS_F1, wM_q, lu_ap, aL_ap, ct_0, ct_1, ct_2, ct_3, ct_4, ct_5, headD_1, List.mem_cons, List.not_mem_nil, or_false, false_or, or_true, true_or, true_and, and_true, false_and, and_false, not_true_eq_false, not_false_eq_true, if_true, if_false, nr_20, nr_24, nr_40, nr_41, nr_44, pt_lt, pt_ge, pt_eq, pt_ne, pt_gt, pt_le, pt_E, pt_N, pt_F, ite_10, ite_11, ne_eq, and_self, or_self, decide_true, decide_false, Bool.not_true, Bool.not_false, Bool.false_eq_true, Nat.reduceEqDiff, Nat.reduceAdd, Int.reduceEq, Int.reduceLT, Int.reduceLE, Int.reduceNeg, Int.reduceAdd, Int.reduceSub, Int.reduceMul, reduceCtorEq, iA, iS, iM, iD, iR, iN, lA, lS, lM, lD, lR, h.k, hn, e1, e2]
theorem g_feed (h : RX S b v) {x1 x2 x3 x4 x5 : Int} : EQ S b mX11_feed mX12_feed [x1, x2, x3, x4, x5] v := by
  have hX := h
  obtain ⟨P, B, s, h⟩ := h
  have hn := h.nb
  have tp := h.2.2.2.2.2.2.2.2.2.2.1
  by_cases h0 : 980 < v (b + 1) 1
  · exact EQ.pp hX (c_feed0 h.1.1 rfl (by omega)) (m_feed0 h.1.2.1 tp.1.symm (by omega)) rfl
  · unfold EQ
    refine wM_mono (c_feed h.1.1 (x1 := x1) (x2 := x2) (x3 := x3) (x4 := x4) (x5 := x5) rfl (by omega)) ?_
    rintro r w e1 ⟨a0, a1, a2, a3, a4⟩
    have k1 : Kp S v w := (Kc.of kX11_feed e1).p
    have hm : LMo S w (b + 889) := h.1.2.1.keep k1
    have e30 : w (b + 889) 30 = v (b + 1) 1 := by rw [a4 _ _ (by omega) (by omega)]; exact tp.1.symm
    refine wM_mono (m_feed hm (x1 := x1) (x2 := x2) (x3 := x3) (x4 := x4) (x5 := x5) e30 (by omega)) ?_
    rintro r' u e2 ⟨c0, c1, c2, c3, c4⟩
    have k2 : Kp S v u := k1.tr (Km.of kX12_feed e2).p
    refine ⟨by rw [a0, c0], P, B, s, ?_⟩
    have fr : ∀ a k, (a = b + 1 → k ≠ 1) → a ≠ b + 2 → (a = b + 889 → k ≠ 30) → a ≠ b + 889 + 28 → u a k = v a k := fun a k q1 q2 q3 q4 => by rw [c4 a k q3 q4, a4 a k q1 q2]
    obtain ⟨⟨h1, h2, h3⟩, ⟨p1, p2, p3⟩, ⟨b1, b2⟩, ⟨s1, s2, s3⟩, r, t, ⟨u1, u2, u3⟩, un, re, bx, tp, fa⟩ := h
    have es : ∀ s', b + 45 ≤ s' → s' ≤ b + 830 → ∀ a k, s' ≤ a → a < s' + 56 → u a k = v a k := fun s' g0 g1 a k g2 g3 => fr _ _ (by omega) (by omega) (by omega) (by omega)
    have eP : ∀ a k, (a = P ∨ (P + 9 ≤ a ∧ a ≤ P + 16)) → u a k = v a k := fun a k hh => fr _ _ (by omega) (by omega) (by omega) (by omega)
    have em : ∀ j k, 1 ≤ j → j ≠ 28 → u (b + 889 + j) k = v (b + 889 + j) k := fun j k hj hj2 => fr _ _ (by omega) (by omega) (by omega) (by omega)
    have eb : ∀ k, u b k = v b k := fun k => fr _ _ (by omega) (by omega) (by omega) (by omega)
    have eM : ∀ k, k ≠ 30 → u (b + 889) k = v (b + 889) k := fun k hk => fr _ _ (by omega) (by omega) (by omega) (by omega)
    have eT : u (b + 1) 1 = v (b + 1) 1 + 20 := by rw [c4 _ _ (by omega) (by omega)]; exact a1
    have eB : ∀ k, u (b + 2) k = w (b + 2) k := fun k => c4 _ _ (by omega) (by omega)
    have eF : ∀ k, u (b + 886) k = v (b + 886) k := fun k => fr _ _ (by omega) (by omega) (by omega) (by omega)
    refine ⟨⟨h1.keep k2, h2.keep k2, h3⟩, ⟨by rw [eb]; exact p1, by rw [eb]; exact p2, p3⟩, ⟨by rw [eM 28 (by decide)]; exact b1, b2⟩, ⟨by rw [eb]; exact s1, by rw [eb]; exact s2, by rw [eb]; exact s3⟩, ?_, ?_, ?_, ?_, ?_, ?_, ?_, ?_⟩
    · refine r.eq (fun a k g0 g1 g2 g3 g4 => fr _ _ (by omega) (by omega) (by omega) (by omega)) (fun j k g0 g1 => em j k (by omega) (by omega))
    · exact SR.q hn eP (es s (by omega) (by omega)) (fun k _ _ => em 1 k (by omega) (by omega)) t
    · rw [eb, eb, eM 58 (by decide), eM 59 (by decide)]; exact ⟨u1, u2, u3⟩
    · intro j g0 g1
      rw [eb] at g1
      rw [eb, eb]
      exact SR.q hn eP (es _ (by omega) (by omega)) (fun k _ _ => em 36 _ (by omega) (by omega)) (un j g0 g1)
    · intro j g0 g1
      rw [eb] at g1
      rw [eb, eb]
      exact SR.q hn eP (es _ (by omega) (by omega)) (fun k _ _ => em 36 _ (by omega) (by omega)) (re j g0 g1)
    · intro x g0 g1
      rw [eF, em 38 _ (by omega) (by omega)]
      exact ⟨(bx x g0 g1).1, fun g2 => SR.q hn eP (es _ (by omega) (by omega)) (fun k _ _ => em 37 _ (by omega) (by omega)) ((bx x g0 g1).2 g2)⟩
    · rw [eT, c1]
      refine ⟨rfl, by omega, by omega, fun k k0 k1 => ?_⟩
      rw [eB]
      by_cases hk : k < v (b + 1) 1
      · rw [a3 k (by omega), c3 k (by omega), a4 _ _ (by omega) (by omega)]
        exact tp.2.2.2 k k0 (by omega)
      · have q1 := a2 (k - v (b + 1) 1) (by omega) (by omega)
        have q2 := c2 (k - v (b + 1) 1) (by omega) (by omega)
        rw [show v (b + 1) 1 + (k - v (b + 1) 1) = k by omega] at q1 q2
        exact ⟨by rw [q1, q2.1], q2.2⟩
    · rw [eb, eb, eM 39 (by decide), eM 40 (by decide)]; exact fa
end GD
