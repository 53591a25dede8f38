/-! UNDO, REDO, BOXES: both held together -/
section GU
variable {S : QS} {v w : QV} {b M P B s : Int}
/-- from one present state to another, the rows of states rearranged -/
theorem move_RR {u : QV} {n q r : Int} (h : RR S v b M P B s) (hk : Kp S v u) (hn13 : 0 ≤ n ∧ n < 13) (hqr : 0 ≤ q ∧ 0 ≤ r ∧ q + r ≤ 12)
    (hc : ∀ a k, a < M → (a = b → k ≠ 5 ∧ k ≠ 6 ∧ k ≠ 7) → u a k = v a k)
    (c5 : u b 5 = n) (c6 : u b 6 = q) (c7 : u b 7 = r)
    (hm : ∀ a k, M ≤ a → (a = M → k ≠ 58 ∧ k ≠ 59) → a ≠ M + 1 → a ≠ M + 36 → u a k = v a k)
    (m58 : u M 58 = q) (m59 : u M 59 = r)
    (hs : SR v P (b + (45 + 56 * n)) (u (M + 1)))
    (hun : ∀ j, 1 ≤ j → j ≤ q → SR v P (b + (45 + 56 * ((n - j) % 13))) (fun k => u (M + 36) (1095 * (q - j) + k)))
    (hre : ∀ j, 1 ≤ j → j ≤ r → SR v P (b + (45 + 56 * ((n + j) % 13))) (fun k => u (M + 36) (1095 * (q + j - 1) + k))) : RR S u b M P B (b + (45 + 56 * n)) := by
  have hn := h.nb
  obtain ⟨⟨h1, h2, h3⟩, ⟨p1, p2, p3⟩, ⟨b1, b2⟩, ⟨s1, s2, s3⟩, r', t, ⟨u1, u2, u3, u4, u5⟩, un, re, bx, tp, fa⟩ := h
  have eb : ∀ k, k ≠ 5 → k ≠ 6 → k ≠ 7 → u b k = v b k := fun k q1 q2 q3 => hc _ _ (by omega) (fun _ => ⟨q1, q2, q3⟩)
  have eM : ∀ k, k ≠ 58 → k ≠ 59 → u M k = v M k := fun k q1 q2 => hm _ _ (by omega) (fun _ => ⟨q1, q2⟩) (by omega) (by omega)
  have eP : ∀ a k, (a = P ∨ (P + 9 ≤ a ∧ a ≤ P + 16)) → u a k = v a k := fun a k hh => hc _ _ (by omega) (by omega)
  have es : ∀ s', b + 45 ≤ s' → s' ≤ b + 830 → ∀ a k, s' ≤ a → a < s' + 56 → u a k = v a k := fun s' g0 g1 a k g2 g3 => hc _ _ (by omega) (by omega)
  refine ⟨⟨h1.keep hk, h2.keep hk, h3⟩, ⟨by rw [eb 2 (by decide) (by decide) (by decide)]; exact p1, by rw [eb 3 (by decide) (by decide) (by decide)]; exact p2, p3⟩, ⟨by rw [eM 28 (by decide) (by decide)]; exact b1, b2⟩, ⟨by rw [c5]; exact hn13.1, by rw [c5]; exact hn13.2, by rw [c5]⟩, ?_, ?_, ?_, ?_, ?_, ?_, ?_, ?_⟩
  · exact r'.eq (fun a k g0 g1 g2 g3 g4 => hc _ _ (by omega) (by omega)) (fun j k g0 g1 => hm _ _ (by omega) (by omega) (by omega) (by omega))
  · exact SR.q hn eP (es _ (by omega) (by omega)) (fun _ _ _ => rfl) hs
  · rw [c6, c7, m58, m59]
    exact ⟨rfl, rfl, hqr⟩
  · intro j g0 g1
    rw [c6] at g1
    rw [c5, c6]
    exact SR.q hn eP (es _ (by omega) (by omega)) (fun _ _ _ => rfl) (hun j g0 g1)
  · intro j g0 g1
    rw [c7] at g1
    rw [c5, c6]
    exact SR.q hn eP (es _ (by omega) (by omega)) (fun _ _ _ => rfl) (hre j g0 g1)
  · intro x g0 g1
    have e1 : u (b + 886) x = v (b + 886) x := hc _ _ (by omega) (by omega)
    have e2 : u (M + 38) x = v (M + 38) x := hm _ _ (by omega) (by omega) (by omega) (by omega)
    rw [e1, e2]
    exact ⟨(bx x g0 g1).1, fun g2 => SR.q hn eP (es _ (by omega) (by omega)) (fun k _ _ => hm _ _ (by omega) (by omega) (by omega) (by omega)) ((bx x g0 g1).2 g2)⟩
  · have e1 : ∀ k, u (b + 1) k = v (b + 1) k := fun k => hc _ _ (by omega) (by omega)
    have e2 : ∀ k, u (b + 2) k = v (b + 2) k := fun k => hc _ _ (by omega) (by omega)
    have e3 : ∀ k, u (M + 28) k = v (M + 28) k := fun k => hm _ _ (by omega) (by omega) (by omega) (by omega)
    rw [e1, eM 30 (by decide) (by decide)]
    simp only [e2, e3]
    exact tp
  · rw [eb 10 (by decide) (by decide) (by decide), eb 11 (by decide) (by decide) (by decide), eM 39 (by decide) (by decide), eM 40 (by decide) (by decide)]; exact fa
theorem SR.f {f f' : Int → Int} (hn : v P 1 ≤ 4 ∧ v P 2 ≤ 4) (hf : ∀ k, 0 ≤ k → k < 1095 → f' k = f k) (h : SR v P s f) : SR v P s f' := SR.q hn (fun _ _ _ => rfl) (fun _ _ _ _ => rfl) hf h
theorem q_undo0 (h : RC S v b P s) (h0 : v b 6 = 0) : mX11_undo [b] S v = some (0, v) := by
  apply wM_eq
  simp only [mX11_undo, sX11_undo, wE_I, wE_V, wE_F, wE_A, wE_N, wE_1, wE_2, wE_D, wE_B, wE_If, wE_C, wE_CV, wE_SL, wE_SA, wA_0, wA_1, wC_B, wC_E, wC_And, wC_Or, wC_Not, wS_Skip, wS_Brk, wS_Cnt, wS_RetV, wS_Ret, wS_Seq, wS_Set, wS_Inc, wS_Do, wS_Put, wS_PutC, wS_Arr, wS_ArrC, wS_If, wS_Sw, wS_F0, wS_F1, wM_q, lu_ap, aL_ap, ct_0, ct_1, ct_2, ct_3, ct_4, ct_5, headD_1, List.mem_cons, List.not_mem_nil, or_false, false_or, or_true, true_or, true_and, and_true, false_and, and_false, not_true_eq_false, not_false_eq_true, if_true, if_false, nr_20, nr_24, nr_40, nr_41, nr_44, pt_lt, pt_ge, pt_eq, pt_ne, pt_gt, pt_le, pt_E, pt_N, pt_F, ite_10, ite_11, ne_eq, and_self, or_self, decide_true, decide_false, Bool.not_true, Bool.not_false, Bool.false_eq_true, Nat.reduceEqDiff, Nat.reduceAdd, Int.reduceEq, Int.reduceLT, Int.reduceLE, Int.reduceNeg, Int.reduceAdd, Int.reduceSub, Int.reduceMul, reduceCtorEq, iA, iS, iM, iD, iR, iN, lA, lS, lM, lD, lR, h.1.k, h0]
theorem q_undo1 (h : RC S v b P s) (h0 : 0 < v b 6 ∧ v b 6 ≤ 12) (h7 : 0 ≤ v b 7 ∧ v b 7 ≤ 12) : mX11_undo [b] S v = some (1, vu (vu (vu v b 5 ((v b 5 + 12) % 13)) b 6 (v b 6 - 1)) b 7 (v b 7 + 1)) := by
  have hp := h.2.2.2.1
  apply wM_eq
  have e0 : ¬ v b 6 = 0 := by omega
  have e1 : w32 (w32 (v b 5 + 13) - 1) = v b 5 + 12 := by rw [w32_e (z := v b 5 + 13) (by omega), w32_e (by omega)]; omega
  have hge : 0 ≤ v b 5 + 12 := by clear e1; omega
  have e2 : w32 ((v b 5 + 12) % 13) = (v b 5 + 12) % 13 := by clear e1; exact w32_e (by omega)
  have e3 : w32 (v b 6 - 1) = v b 6 - 1 := by clear e1 e2; exact w32_e (by omega)
  have e4 : w32 (v b 7 + 1) = v b 7 + 1 := by clear e1 e2 e3; exact w32_e (by omega)
  simp only [mX11_undo, sX11_undo, wE_I, wE_V, wE_F, wE_A, wE_N, wE_1, wE_2, wE_D, wE_B, wE_If, wE_C, wE_CV, wE_SL, wE_SA, wA_0, wA_1, wC_B, wC_E, wC_And, wC_Or, wC_Not, wS_Skip, wS_Brk, wS_Cnt, wS_RetV, wS_Ret, wS_Seq, wS_Set, wS_Inc, wS_Do, wS_Put, wS_PutC, wS_Arr, wS_ArrC, wS_If, wS_Sw, wS_F0, wS_F1, wM_q, lu_ap, aL_ap, ct_0, ct_1, ct_2, ct_3, ct_4, ct_5, headD_1, List.mem_cons, List.not_mem_nil, or_false, false_or, or_true, true_or, true_and, and_true, false_and, and_false, not_true_eq_false, not_false_eq_true, if_true, if_false, nr_20, nr_24, nr_40, nr_41, nr_44, pt_lt, pt_ge, pt_eq, pt_ne, pt_gt, pt_le, pt_E, pt_N, pt_F, ite_10, ite_11, ne_eq, and_self, or_self, decide_true, decide_false, Bool.not_true, Bool.not_false, Bool.false_eq_true, Nat.reduceEqDiff, Nat.reduceAdd, Int.reduceEq, Int.reduceLT, Int.reduceLE, Int.reduceNeg, Int.reduceAdd, Int.reduceSub, Int.reduceMul, reduceCtorEq, iA, iS, iM, iD, iR, iN, lA, lS, lM, lD, lR, h.1.k, e0, e1, tmod_n hge, e2, vu_ne, e3, e4]
theorem q_redo0 (h : RC S v b P s) (h0 : v b 7 = 0) : mX11_redo [b] S v = some (0, v) := by
  apply wM_eq
  simp only [mX11_redo, sX11_redo, wE_I, wE_V, wE_F, wE_A, wE_N, wE_1, wE_2, wE_D, wE_B, wE_If, wE_C, wE_CV, wE_SL, wE_SA, wA_0, wA_1, wC_B, wC_E, wC_And, wC_Or, wC_Not, wS_Skip, wS_Brk, wS_Cnt, wS_RetV, wS_Ret, wS_Seq, wS_Set, wS_Inc, wS_Do, wS_Put, wS_PutC, wS_Arr, wS_ArrC, wS_If, wS_Sw, wS_F0, wS_F1, wM_q, lu_ap, aL_ap, ct_0, ct_1, ct_2, ct_3, ct_4, ct_5, headD_1, List.mem_cons, List.not_mem_nil, or_false, false_or, or_true, true_or, true_and, and_true, false_and, and_false, not_true_eq_false, not_false_eq_true, if_true, if_false, nr_20, nr_24, nr_40, nr_41, nr_44, pt_lt, pt_ge, pt_eq, pt_ne, pt_gt, pt_le, pt_E, pt_N, pt_F, ite_10, ite_11, ne_eq, and_self, or_self, decide_true, decide_false, Bool.not_true, Bool.not_false, Bool.false_eq_true, Nat.reduceEqDiff, Nat.reduceAdd, Int.reduceEq, Int.reduceLT, Int.reduceLE, Int.reduceNeg, Int.reduceAdd, Int.reduceSub, Int.reduceMul, reduceCtorEq, iA, iS, iM, iD, iR, iN, lA, lS, lM, lD, lR, h.1.k, h0]
theorem q_redo1 (h : RC S v b P s) (h0 : 0 ≤ v b 6 ∧ v b 6 ≤ 12) (h7 : 0 < v b 7 ∧ v b 7 ≤ 12) : mX11_redo [b] S v = some (1, vu (vu (vu v b 5 ((v b 5 + 1) % 13)) b 6 (v b 6 + 1)) b 7 (v b 7 - 1)) := by
  have hp := h.2.2.2.1
  apply wM_eq
  have e0 : ¬ v b 7 = 0 := by omega
  have e1 : w32 (v b 5 + 1) = v b 5 + 1 := w32_e (by omega)
  have hge : 0 ≤ v b 5 + 1 := by clear e1; omega
  have e2 : w32 ((v b 5 + 1) % 13) = (v b 5 + 1) % 13 := by clear e1; exact w32_e (by omega)
  have e3 : w32 (v b 6 + 1) = v b 6 + 1 := by clear e1 e2; exact w32_e (by omega)
  have e4 : w32 (v b 7 - 1) = v b 7 - 1 := by clear e1 e2 e3; exact w32_e (by omega)
  simp only [mX11_redo, sX11_redo, wE_I, wE_V, wE_F, wE_A, wE_N, wE_1, wE_2, wE_D, wE_B, wE_If, wE_C, wE_CV, wE_SL, wE_SA, wA_0, wA_1, wC_B, wC_E, wC_And, wC_Or, wC_Not, wS_Skip, wS_Brk, wS_Cnt, wS_RetV, wS_Ret, wS_Seq, wS_Set, wS_Inc, wS_Do, wS_Put, wS_PutC, wS_Arr, wS_ArrC, wS_If, wS_Sw, wS_F0, wS_F1, wM_q, lu_ap, aL_ap, ct_0, ct_1, ct_2, ct_3, ct_4, ct_5, headD_1, List.mem_cons, List.not_mem_nil, or_false, false_or, or_true, true_or, true_and, and_true, false_and, and_false, not_true_eq_false, not_false_eq_true, if_true, if_false, nr_20, nr_24, nr_40, nr_41, nr_44, pt_lt, pt_ge, pt_eq, pt_ne, pt_gt, pt_le, pt_E, pt_N, pt_F, ite_10, ite_11, ne_eq, and_self, or_self, decide_true, decide_false, Bool.not_true, Bool.not_false, Bool.false_eq_true, Nat.reduceEqDiff, Nat.reduceAdd, Int.reduceEq, Int.reduceLT, Int.reduceLE, Int.reduceNeg, Int.reduceAdd, Int.reduceSub, Int.reduceMul, reduceCtorEq, iA, iS, iM, iD, iR, iN, lA, lS, lM, lD, lR, h.1.k, e0, e1, tmod_n hge, e2, vu_ne, e3, e4]
theorem g_undo (h : RX S b v) : EQ S b mX11_undo mX12_undo [] v := by
  have hX := h
  obtain ⟨P, B, s, h⟩ := h
  have hn := h.nb
  have hu := h.2.2.2.2.2.2.1
  have hMo := h.1.2.1
  unfold EQ
  by_cases h0 : v b 6 = 0
  · have e2 : mX12_undo [b + 889] S v = some (0, v) := by
      apply wM_eq
      have e0 : v (b + 889) 58 = 0 := by rw [← hu.1]; exact h0
      simp only [mX12_undo, sX12_undo, wE_I, wE_V, wE_F, wE_A, wE_N, wE_1, wE_2, wE_D, wE_B, wE_If, wE_C, wE_CV, wE_SL, wE_SA, wA_0, wA_1, wC_B, wC_E, wC_And, wC_Or, wC_Not, wS_Skip, wS_Brk, wS_Cnt, wS_RetV, wS_Ret, wS_Seq, wS_Set, wS_Inc, wS_Do, wS_Put, wS_PutC, wS_Arr, wS_ArrC, wS_If, wS_Sw, wS_F0, wS_F1, wM_q, lu_ap, aL_ap, ct_0, ct_1, ct_2, ct_3, ct_4, ct_5, headD_1, List.mem_cons, List.not_mem_nil, or_false, false_or, or_true, true_or, true_and, and_true, false_and, and_false, not_true_eq_false, not_false_eq_true, if_true, if_false, nr_20, nr_24, nr_40, nr_41, nr_44, pt_lt, pt_ge, pt_eq, pt_ne, pt_gt, pt_le, pt_E, pt_N, pt_F, ite_10, ite_11, ne_eq, and_self, or_self, decide_true, decide_false, Bool.not_true, Bool.not_false, Bool.false_eq_true, Nat.reduceEqDiff, Nat.reduceAdd, Int.reduceEq, Int.reduceLT, Int.reduceLE, Int.reduceNeg, Int.reduceAdd, Int.reduceSub, Int.reduceMul, reduceCtorEq, iA, iS, iM, iD, iR, iN, lA, lS, lM, lD, lR, hMo.k, e0]
    rw [wM_of (q_undo0 h.rc h0), wM_of e2]
    exact ⟨rfl, hX⟩
  · have g1 := q_undo1 h.rc (by omega) (by omega)
    rw [wM_of g1]
    have k1 : Kp S v _ := (Kc.of kX11_undo g1).p
    have f5 : vu (vu (vu v b 5 ((v b 5 + 12) % 13)) b 6 (v b 6 - 1)) b 7 (v b 7 + 1) b 5 = (v b 5 + 12) % 13 := by rw [vu_ne (by omega), vu_ne (by omega), vu_is]
    have f6 : vu (vu (vu v b 5 ((v b 5 + 12) % 13)) b 6 (v b 6 - 1)) b 7 (v b 7 + 1) b 6 = v b 6 - 1 := by rw [vu_ne (by omega), vu_is]
    have f7 : vu (vu (vu v b 5 ((v b 5 + 12) % 13)) b 6 (v b 6 - 1)) b 7 (v b 7 + 1) b 7 = v b 7 + 1 := vu_is
    have ff : ∀ a k, (a = b → k ≠ 5 ∧ k ≠ 6 ∧ k ≠ 7) → vu (vu (vu v b 5 ((v b 5 + 12) % 13)) b 6 (v b 6 - 1)) b 7 (v b 7 + 1) a k = v a k := fun a k ha => by rw [vu_ne (fun q => (ha q.1).2.2 q.2), vu_ne (fun q => (ha q.1).2.1 q.2), vu_ne (fun q => (ha q.1).1 q.2)]
    generalize vu (vu (vu v b 5 ((v b 5 + 12) % 13)) b 6 (v b 6 - 1)) b 7 (v b 7 + 1) = w at *
    have hw := hMo.keep k1
    have w58 : w (b + 889) 58 = v b 6 := (ff _ _ (by omega)).trans hu.1.symm
    have w59 : w (b + 889) 59 = v b 7 := (ff _ _ (by omega)).trans hu.2.1.symm
    have e0 : ¬ v b 6 = 0 := h0
    have e1 : w32 (v b 6 - 1) = v b 6 - 1 := w32_e (by omega)
    have e2 : w32 (v b 7 + 1) = v b 7 + 1 := by clear e1; exact w32_e (by omega)
    simp only [mX12_undo, sX12_undo, wE_I, wE_V, wE_F, wE_A, wE_N, wE_1, wE_2, wE_D, wE_B, wE_If, wE_C, wE_CV, wE_SL, wE_SA, wA_0, wA_1, wC_B, wC_E, wC_And, wC_Or, wC_Not, wS_Skip, wS_Brk, wS_Cnt, wS_RetV, wS_Ret, wS_Seq, wS_Set, wS_Inc, wS_Do, wS_Put, wS_PutC, wS_Arr, wS_ArrC, wS_If, wS_Sw, wS_F0, wS_F1, wM_q, lu_ap, aL_ap, ct_0, ct_1, ct_2, ct_3, ct_4, ct_5, headD_1, List.mem_cons, List.not_mem_nil, or_false, false_or, or_true, true_or, true_and, and_true, false_and, and_false, not_true_eq_false, not_false_eq_true, if_true, if_false, nr_20, nr_24, nr_40, nr_41, nr_44, pt_lt, pt_ge, pt_eq, pt_ne, pt_gt, pt_le, pt_E, pt_N, pt_F, ite_10, ite_11, ne_eq, and_self, or_self, decide_true, decide_false, Bool.not_true, Bool.not_false, Bool.false_eq_true, Nat.reduceEqDiff, Nat.reduceAdd, Int.reduceEq, Int.reduceLT, Int.reduceLE, Int.reduceNeg, Int.reduceAdd, Int.reduceSub, Int.reduceMul, reduceCtorEq, iA, iS, iM, iD, iR, iN, lA, lS, lM, lD, lR, hw.k, w58, w59, e0, vu_ne, e1, e2]
    clear e1 e2
    have km : Kp S v (vu (vu w (b + 889) 58 (v b 6 - 1)) (b + 889) 59 (v b 7 + 1)) := k1.tr (Km.vu (Km.vu Km.rf (by rw [hw.k]; rfl)) (by rw [hw.k]; rfl)).p
    have m58 : vu (vu w (b + 889) 58 (v b 6 - 1)) (b + 889) 59 (v b 7 + 1) (b + 889) 58 = v b 6 - 1 := by rw [vu_ne (by omega), vu_is]
    have m59 : vu (vu w (b + 889) 58 (v b 6 - 1)) (b + 889) 59 (v b 7 + 1) (b + 889) 59 = v b 7 + 1 := vu_is
    have fm : ∀ a k, (a = b + 889 → k ≠ 58 ∧ k ≠ 59) → vu (vu w (b + 889) 58 (v b 6 - 1)) (b + 889) 59 (v b 7 + 1) a k = w a k := fun a k ha => by rw [vu_ne (fun q => (ha q.1).2 q.2), vu_ne (fun q => (ha q.1).1 q.2)]
    generalize vu (vu w (b + 889) 58 (v b 6 - 1)) (b + 889) 59 (v b 7 + 1) = z at *
    refine wM_mono (m_swapAll (hMo.keep km) (by rw [m58]; omega)) ?_
    rintro r0 u e ⟨a1, a2, a3⟩
    rw [m58] at a1 a2
    have ez : ∀ a k, b + 889 + 1 ≤ a → z a k = v a k := fun a k ha => (fm _ _ (by omega)).trans (ff _ _ (by omega))
    have ku := km.tr (Km.of kX12_swapAll e).p
    have g5 : u b 5 = (v b 5 + 12) % 13 := (a3 _ _ (by omega) (by omega)).trans ((fm _ _ (by omega)).trans f5)
    have g6 : u b 6 = v b 6 - 1 := (a3 _ _ (by omega) (by omega)).trans ((fm _ _ (by omega)).trans f6)
    have g7 : u b 7 = v b 7 + 1 := (a3 _ _ (by omega) (by omega)).trans ((fm _ _ (by omega)).trans f7)
    refine ⟨P, B, _, move_RR h ku (n := (v b 5 + 12) % 13) (q := v b 6 - 1) (r := v b 7 + 1) (by omega) (by omega) (fun a k ha hb => (a3 _ _ (by omega) (by omega)).trans ((fm _ _ (by omega)).trans (ff a k hb))) g5 g6 g7 (fun a k ha hb hc hd => (a3 _ _ hc hd).trans ((fm _ _ hb).trans (ff _ _ (by omega)))) ((a3 _ _ (by omega) (by omega)).trans m58) ((a3 _ _ (by omega) (by omega)).trans m59) ?_ (fun j g0 g1 => ?_) (fun j g0 g1 => ?_)⟩
    · have := h.2.2.2.2.2.2.2.1 1 (by decide) (by omega)
      have ei : (v b 5 - 1) % 13 = (v b 5 + 12) % 13 := by omega
      rw [ei] at this
      refine SR.f hn (fun k k0 k1 => ?_) this
      rw [a1 k k0 k1]
      exact ez _ _ (by omega)
    · have := h.2.2.2.2.2.2.2.1 (j + 1) (by omega) (by omega)
      have ei : (v b 5 - (j + 1)) % 13 = ((v b 5 + 12) % 13 - j) % 13 := by omega
      rw [ei] at this
      refine SR.f hn (fun k k0 k1 => ?_) this
      show u (b + 889 + 36) (1095 * (v b 6 - 1 - j) + k) = v (b + 889 + 36) (1095 * (v b 6 - (j + 1)) + k)
      rw [a2, if_neg (by omega), ez _ _ (by omega)]
      congr 1
      omega
    · by_cases hj : j = 1
      · have ei : ((v b 5 + 12) % 13 + j) % 13 = v b 5 := by have := h.2.2.2.1; omega
        rw [ei, h.2.2.2.1.2.2]
        refine SR.f hn (fun k k0 k1 => ?_) h.2.2.2.2.2.1
        show u (b + 889 + 36) (1095 * (v b 6 - 1 + j - 1) + k) = v (b + 889 + 1) k
        rw [a2, if_pos (by omega), ez _ _ (by omega)]
        congr 1
        omega
      · have := h.2.2.2.2.2.2.2.2.1 (j - 1) (by omega) (by omega)
        have ei : (v b 5 + (j - 1)) % 13 = ((v b 5 + 12) % 13 + j) % 13 := by omega
        rw [ei] at this
        refine SR.f hn (fun k k0 k1 => ?_) this
        show u (b + 889 + 36) (1095 * (v b 6 - 1 + j - 1) + k) = v (b + 889 + 36) (1095 * (v b 6 + (j - 1) - 1) + k)
        rw [a2, if_neg (by omega), ez _ _ (by omega)]
        congr 1
        omega
theorem g_redo (h : RX S b v) : EQ S b mX11_redo mX12_redo [] v := by
  have hX := h
  obtain ⟨P, B, s, h⟩ := h
  have hn := h.nb
  have hu := h.2.2.2.2.2.2.1
  have hMo := h.1.2.1
  unfold EQ
  by_cases h0 : v b 7 = 0
  · have e2 : mX12_redo [b + 889] S v = some (0, v) := by
      apply wM_eq
      have e0 : v (b + 889) 59 = 0 := by rw [← hu.2.1]; exact h0
      simp only [mX12_redo, sX12_redo, wE_I, wE_V, wE_F, wE_A, wE_N, wE_1, wE_2, wE_D, wE_B, wE_If, wE_C, wE_CV, wE_SL, wE_SA, wA_0, wA_1, wC_B, wC_E, wC_And, wC_Or, wC_Not, wS_Skip, wS_Brk, wS_Cnt, wS_RetV, wS_Ret, wS_Seq, wS_Set, wS_Inc, wS_Do, wS_Put, wS_PutC, wS_Arr, wS_ArrC, wS_If, wS_Sw, wS_F0, wS_F1, wM_q, lu_ap, aL_ap, ct_0, ct_1, ct_2, ct_3, ct_4, ct_5, headD_1, List.mem_cons, List.not_mem_nil, or_false, false_or, or_true, true_or, true_and, and_true, false_and, and_false, not_true_eq_false, not_false_eq_true, if_true, if_false, nr_20, nr_24, nr_40, nr_41, nr_44, pt_lt, pt_ge, pt_eq, pt_ne, pt_gt, pt_le, pt_E, pt_N, pt_F, ite_10, ite_11, ne_eq, and_self, or_self, decide_true, decide_false, Bool.not_true, Bool.not_false, Bool.false_eq_true, Nat.reduceEqDiff, Nat.reduceAdd, Int.reduceEq, Int.reduceLT, Int.reduceLE, Int.reduceNeg, Int.reduceAdd, Int.reduceSub, Int.reduceMul, reduceCtorEq, iA, iS, iM, iD, iR, iN, lA, lS, lM, lD, lR, hMo.k, e0]
    rw [wM_of (q_redo0 h.rc h0), wM_of e2]
    exact ⟨rfl, hX⟩
  · have g1 := q_redo1 h.rc (by omega) (by omega)
    rw [wM_of g1]
    have k1 : Kp S v _ := (Kc.of kX11_redo g1).p
    have f5 : vu (vu (vu v b 5 ((v b 5 + 1) % 13)) b 6 (v b 6 + 1)) b 7 (v b 7 - 1) b 5 = (v b 5 + 1) % 13 := by rw [vu_ne (by omega), vu_ne (by omega), vu_is]
    have f6 : vu (vu (vu v b 5 ((v b 5 + 1) % 13)) b 6 (v b 6 + 1)) b 7 (v b 7 - 1) b 6 = v b 6 + 1 := by rw [vu_ne (by omega), vu_is]
    have f7 : vu (vu (vu v b 5 ((v b 5 + 1) % 13)) b 6 (v b 6 + 1)) b 7 (v b 7 - 1) b 7 = v b 7 - 1 := vu_is
    have ff : ∀ a k, (a = b → k ≠ 5 ∧ k ≠ 6 ∧ k ≠ 7) → vu (vu (vu v b 5 ((v b 5 + 1) % 13)) b 6 (v b 6 + 1)) b 7 (v b 7 - 1) a k = v a k := fun a k ha => by rw [vu_ne (fun q => (ha q.1).2.2 q.2), vu_ne (fun q => (ha q.1).2.1 q.2), vu_ne (fun q => (ha q.1).1 q.2)]
    generalize vu (vu (vu v b 5 ((v b 5 + 1) % 13)) b 6 (v b 6 + 1)) b 7 (v b 7 - 1) = w at *
    have hw := hMo.keep k1
    have w58 : w (b + 889) 58 = v b 6 := (ff _ _ (by omega)).trans hu.1.symm
    have w59 : w (b + 889) 59 = v b 7 := (ff _ _ (by omega)).trans hu.2.1.symm
    have e0 : ¬ v b 7 = 0 := h0
    simp only [mX12_redo, sX12_redo, wE_I, wE_V, wE_F, wE_A, wE_N, wE_1, wE_2, wE_D, wE_B, wE_If, wE_C, wE_CV, wE_SL, wE_SA, wA_0, wA_1, wC_B, wC_E, wC_And, wC_Or, wC_Not, wS_Skip, wS_Brk, wS_Cnt, wS_RetV, wS_Ret, wS_Seq, wS_Set, wS_Inc, wS_Do, wS_Put, wS_PutC, wS_Arr, wS_ArrC, wS_If, wS_Sw, wS_F0, wS_F1, wM_q, lu_ap, aL_ap, ct_0, ct_1, ct_2, ct_3, ct_4, ct_5, headD_1, List.mem_cons, List.not_mem_nil, or_false, false_or, or_true, true_or, true_and, and_true, false_and, and_false, not_true_eq_false, not_false_eq_true, if_true, if_false, nr_20, nr_24, nr_40, nr_41, nr_44, pt_lt, pt_ge, pt_eq, pt_ne, pt_gt, pt_le, pt_E, pt_N, pt_F, ite_10, ite_11, ne_eq, and_self, or_self, decide_true, decide_false, Bool.not_true, Bool.not_false, Bool.false_eq_true, Nat.reduceEqDiff, Nat.reduceAdd, Int.reduceEq, Int.reduceLT, Int.reduceLE, Int.reduceNeg, Int.reduceAdd, Int.reduceSub, Int.reduceMul, reduceCtorEq, iA, iS, iM, iD, iR, iN, lA, lS, lM, lD, lR, hw.k, w59, e0]
    refine wM_mono (m_swapAll hw (by rw [w58]; omega)) ?_
    rintro r0 z e ⟨a1, a2, a3⟩
    rw [w58] at a1 a2
    have ew : ∀ a k, b + 889 + 1 ≤ a → w a k = v a k := fun a k ha => ff _ _ (by omega)
    have kz := k1.tr (Km.of kX12_swapAll e).p
    have hz := hMo.keep kz
    have z58 : z (b + 889) 58 = v b 6 := (a3 _ _ (by omega) (by omega)).trans w58
    have z59 : z (b + 889) 59 = v b 7 := (a3 _ _ (by omega) (by omega)).trans w59
    have e1 : w32 (v b 6 + 1) = v b 6 + 1 := w32_e (by omega)
    have e2 : w32 (v b 7 - 1) = v b 7 - 1 := by clear e1; exact w32_e (by omega)
    simp only [hz.k, z58, z59, vu_ne, e1, e2, wE_I, wE_V, wE_F, wE_A, wE_N, wE_1, wE_2, wE_D, wE_B, wE_If, wE_C, wE_CV, wE_SL, wE_SA, wA_0, wA_1, wC_B, wC_E, wC_And, wC_Or, wC_Not, wS_Skip, wS_Brk, wS_Cnt, wS_RetV, wS_Ret, wS_Seq, wS_Set, wS_Inc, wS_Do, wS_Put, wS_PutC, wS_Arr, wS_ArrC, wS_If, wS_Sw, wS_F0, wS_F1, wM_q, lu_ap, aL_ap, ct_0, ct_1, ct_2, ct_3, ct_4, ct_5, headD_1, List.mem_cons, List.not_mem_nil, or_false, false_or, or_true, true_or, true_and, and_true, false_and, and_false, not_true_eq_false, not_false_eq_true, if_true, if_false, nr_20, nr_24, nr_40, nr_41, nr_44, pt_lt, pt_ge, pt_eq, pt_ne, pt_gt, pt_le, pt_E, pt_N, pt_F, ite_10, ite_11, ne_eq, and_self, or_self, decide_true, decide_false, Bool.not_true, Bool.not_false, Bool.false_eq_true, Nat.reduceEqDiff, Nat.reduceAdd, Int.reduceEq, Int.reduceLT, Int.reduceLE, Int.reduceNeg, Int.reduceAdd, Int.reduceSub, Int.reduceMul, reduceCtorEq]
    clear e1 e2
    have ku : Kp S v (vu (vu z (b + 889) 58 (v b 6 + 1)) (b + 889) 59 (v b 7 - 1)) := kz.tr (Km.vu (Km.vu Km.rf (by rw [hz.k]; rfl)) (by rw [hz.k]; rfl)).p
    have m58 : vu (vu z (b + 889) 58 (v b 6 + 1)) (b + 889) 59 (v b 7 - 1) (b + 889) 58 = v b 6 + 1 := by rw [vu_ne (by omega), vu_is]
    have m59 : vu (vu z (b + 889) 58 (v b 6 + 1)) (b + 889) 59 (v b 7 - 1) (b + 889) 59 = v b 7 - 1 := vu_is
    have fm : ∀ a k, (a = b + 889 → k ≠ 58 ∧ k ≠ 59) → vu (vu z (b + 889) 58 (v b 6 + 1)) (b + 889) 59 (v b 7 - 1) a k = z a k := fun a k ha => by rw [vu_ne (fun q => (ha q.1).2 q.2), vu_ne (fun q => (ha q.1).1 q.2)]
    generalize vu (vu z (b + 889) 58 (v b 6 + 1)) (b + 889) 59 (v b 7 - 1) = u at *
    have g5 : u b 5 = (v b 5 + 1) % 13 := (fm _ _ (by omega)).trans ((a3 _ _ (by omega) (by omega)).trans f5)
    have g6 : u b 6 = v b 6 + 1 := (fm _ _ (by omega)).trans ((a3 _ _ (by omega) (by omega)).trans f6)
    have g7 : u b 7 = v b 7 - 1 := (fm _ _ (by omega)).trans ((a3 _ _ (by omega) (by omega)).trans f7)
    refine ⟨P, B, _, move_RR h ku (n := (v b 5 + 1) % 13) (q := v b 6 + 1) (r := v b 7 - 1) (by omega) (by omega) (fun a k ha hb => (fm _ _ (by omega)).trans ((a3 _ _ (by omega) (by omega)).trans (ff a k hb))) g5 g6 g7 (fun a k ha hb hc hd => (fm _ _ hb).trans ((a3 _ _ hc hd).trans (ff _ _ (by omega)))) m58 m59 ?_ (fun j g0 g1 => ?_) (fun j g0 g1 => ?_)⟩
    · have := h.2.2.2.2.2.2.2.2.1 1 (by decide) (by omega)
      refine SR.f hn (fun k k0 k1 => ?_) this
      show u (b + 889 + 1) k = v (b + 889 + 36) (1095 * (v b 6 + 1 - 1) + k)
      rw [fm _ _ (by omega), a1 k k0 k1, ew _ _ (by omega)]
      congr 1
      omega
    · by_cases hj : j = 1
      · have ei : ((v b 5 + 1) % 13 - j) % 13 = v b 5 := by have := h.2.2.2.1; omega
        rw [ei, h.2.2.2.1.2.2]
        refine SR.f hn (fun k k0 k1 => ?_) h.2.2.2.2.2.1
        show u (b + 889 + 36) (1095 * (v b 6 + 1 - j) + k) = v (b + 889 + 1) k
        rw [fm _ _ (by omega), a2, if_pos (by omega), ew _ _ (by omega)]
        congr 1
        omega
      · have := h.2.2.2.2.2.2.2.1 (j - 1) (by omega) (by omega)
        have ei : (v b 5 - (j - 1)) % 13 = ((v b 5 + 1) % 13 - j) % 13 := by omega
        rw [ei] at this
        refine SR.f hn (fun k k0 k1 => ?_) this
        show u (b + 889 + 36) (1095 * (v b 6 + 1 - j) + k) = v (b + 889 + 36) (1095 * (v b 6 - (j - 1)) + k)
        rw [fm _ _ (by omega), a2, if_neg (by omega), ew _ _ (by omega)]
        congr 1
        omega
    · have := h.2.2.2.2.2.2.2.2.1 (j + 1) (by omega) (by omega)
      have ei : (v b 5 + (j + 1)) % 13 = ((v b 5 + 1) % 13 + j) % 13 := by omega
      rw [ei] at this
      refine SR.f hn (fun k k0 k1 => ?_) this
      show u (b + 889 + 36) (1095 * (v b 6 + 1 + j - 1) + k) = v (b + 889 + 36) (1095 * (v b 6 + (j + 1) - 1) + k)
      rw [fm _ _ (by omega), a2, if_neg (by omega), ew _ _ (by omega)]
      congr 1
      omega
end GU
