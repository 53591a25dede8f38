/-! ACTS: the class's; both held together -/
section GA
variable {S : QS} {v w : QV} {b M P B s : Int}
theorem g_end (h : RX S b v) {n : Int} : EQ S b mX11_end mX12_end [n] v := by
  have hX := h
  obtain ⟨P, B, s, h⟩ := h
  have hn := h.nb
  have tp := h.2.2.2.2.2.2.2.2.2.2.1
  unfold EQ
  by_cases h0 : 0 ≤ n ∧ n ≤ v (b + 1) 1
  · have e1 := q_end h.rc (n := n)
    rw [if_pos h0] at e1
    rw [wM_of e1]
    have k1 : Kp S v (vu v (b + 1) 1 n) := (Kc.of kX11_end e1).p
    have hm : LMo S (vu v (b + 1) 1 n) (b + 889) := h.1.2.1.keep k1
    have e30 : vu v (b + 1) 1 n (b + 889) 30 = v (b + 889) 30 := vu_ne (by omega)
    have e2 : mX12_end [b + 889, n] S (vu v (b + 1) 1 n) = some (n, vu (vu v (b + 1) 1 n) (b + 889) 30 n) := by
      apply wM_eq
      have q1 : ¬ n < 0 := by omega
      have q2 : ¬ v (b + 889) 30 < n := by rw [← tp.1]; omega
      simp only [mX12_end, sX12_end, wE_I, wE_V, wE_F, wE_A, wE_N, wE_1, wE_2, wE_D, wE_B, wE_If, wE_C, wE_CV, wE_SL, wE_SA, wA_0, wA_1, wC_B, wC_E, wC_And, wC_Or, wC_Not, wS_Skip, wS_Brk, wS_Cnt, wS_RetV, wS_Ret, wS_Seq, wS_Set, wS_Inc, wS_Do, wS_Put, wS_PutC, wS_Arr, wS_ArrC, wS_If, wS_Sw, wS_F0, wS_F1, wM_q, lu_ap, aL_ap, ct_0, ct_1, ct_2, ct_3, ct_4, ct_5, headD_1, List.mem_cons, List.not_mem_nil, or_false, false_or, or_true, true_or, true_and, and_true, false_and, and_false, not_true_eq_false, not_false_eq_true, if_true, if_false, nr_20, nr_24, nr_40, nr_41, nr_44, pt_lt, pt_ge, pt_eq, pt_ne, pt_gt, pt_le, pt_E, pt_N, pt_F, ite_10, ite_11, ne_eq, and_self, or_self, decide_true, decide_false, Bool.not_true, Bool.not_false, Bool.false_eq_true, Nat.reduceEqDiff, Nat.reduceAdd, Int.reduceEq, Int.reduceLT, Int.reduceLE, Int.reduceNeg, Int.reduceAdd, Int.reduceSub, Int.reduceMul, reduceCtorEq, iA, iS, iM, iD, iR, iN, lA, lS, lM, lD, lR, hm.k, e30, q1, q2]
    rw [wM_of e2]
    refine ⟨rfl, P, B, s, ?_⟩
    have k2 : Kp S v (vu (vu v (b + 1) 1 n) (b + 889) 30 n) := k1.tr (Km.of kX12_end e2).p
    have fr : ∀ a k, ¬ (a = b + 1 ∧ k = 1) → ¬ (a = b + 889 ∧ k = 30) → vu (vu v (b + 1) 1 n) (b + 889) 30 n a k = v a k := fun a k q1 q2 => by rw [vu_ne q2, vu_ne q1]
    obtain ⟨⟨h1, h2, h3⟩, ⟨p1, p2, p3⟩, ⟨b1, b2⟩, ⟨s1, s2, s3⟩, r, t, ⟨u1, u2, u3⟩, un, re, bx, tp, fa⟩ := h
    have es : ∀ s', b + 45 ≤ s' → s' ≤ b + 830 → ∀ a k, s' ≤ a → a < s' + 56 → vu (vu v (b + 1) 1 n) (b + 889) 30 n a k = v a k := fun s' g0 g1 a k g2 g3 => fr _ _ (by omega) (by omega)
    have eP : ∀ a k, (a = P ∨ (P + 9 ≤ a ∧ a ≤ P + 16)) → vu (vu v (b + 1) 1 n) (b + 889) 30 n a k = v a k := fun a k hh => fr _ _ (by omega) (by omega)
    have em : ∀ j k, 1 ≤ j → vu (vu v (b + 1) 1 n) (b + 889) 30 n (b + 889 + j) k = v (b + 889 + j) k := fun j k hj => fr _ _ (by omega) (by omega)
    have eb : ∀ k, vu (vu v (b + 1) 1 n) (b + 889) 30 n b k = v b k := fun k => fr _ _ (by omega) (by omega)
    have eM : ∀ k, k ≠ 30 → vu (vu v (b + 1) 1 n) (b + 889) 30 n (b + 889) k = v (b + 889) k := fun k hk => fr _ _ (by omega) (by omega)
    have eT : vu (vu v (b + 1) 1 n) (b + 889) 30 n (b + 1) 1 = n := by rw [vu_ne (by omega), vu_is]
    have eT2 : vu (vu v (b + 1) 1 n) (b + 889) 30 n (b + 889) 30 = n := vu_is
    have eB : ∀ k, vu (vu v (b + 1) 1 n) (b + 889) 30 n (b + 2) k = v (b + 2) k := fun k => fr _ _ (by omega) (by omega)
    have eF : ∀ k, vu (vu v (b + 1) 1 n) (b + 889) 30 n (b + 886) k = v (b + 886) k := fun k => fr _ _ (by omega) (by omega)
    generalize vu (vu v (b + 1) 1 n) (b + 889) 30 n = u at *
    refine ⟨⟨h1.keep k2, h2.keep k2, h3⟩, ⟨by rw [eb]; exact p1, by rw [eb]; exact p2, p3⟩, ⟨by rw [eM 28 (by decide)]; exact b1, b2⟩, ⟨by rw [eb]; exact s1, by rw [eb]; exact s2, by rw [eb]; exact s3⟩, ?_, ?_, ?_, ?_, ?_, ?_, ?_, ?_⟩
    · exact r.eq (fun a k g0 g1 g2 g3 g4 => fr _ _ (by omega) (by omega)) (fun j k g0 g1 => em j k (by omega))
    · exact SR.q hn eP (es s (by omega) (by omega)) (fun k _ _ => em 1 k (by omega)) t
    · rw [eb, eb, eM 58 (by decide), eM 59 (by decide)]; exact ⟨u1, u2, u3⟩
    · intro j g0 g1
      rw [eb] at g1
      rw [eb, eb]
      exact SR.q hn eP (es _ (by omega) (by omega)) (fun k _ _ => em 36 _ (by omega)) (un j g0 g1)
    · intro j g0 g1
      rw [eb] at g1
      rw [eb, eb]
      exact SR.q hn eP (es _ (by omega) (by omega)) (fun k _ _ => em 36 _ (by omega)) (re j g0 g1)
    · intro x g0 g1
      rw [eF, em 38 _ (by omega)]
      exact ⟨(bx x g0 g1).1, fun g2 => SR.q hn eP (es _ (by omega) (by omega)) (fun k _ _ => em 37 _ (by omega)) ((bx x g0 g1).2 g2)⟩
    · rw [eT, eT2]
      refine ⟨rfl, h0.1, by omega, fun k k0 k1 => ?_⟩
      rw [eB, em 28 _ (by omega)]
      exact tp.2.2.2 k k0 (by omega)
    · rw [eb, eb, eM 39 (by decide), eM 40 (by decide)]; exact fa
  · have e1 := q_end h.rc (n := n)
    rw [if_neg h0] at e1
    have e2 := m_end h.rm (n := n)
    rw [if_neg (by rw [← tp.1]; exact h0)] at e2
    rw [wM_of e1, wM_of e2]
    exact ⟨rfl, hX⟩
/-- an act: the class's ring and the reference's row of states go on together -/
theorem act_RR {u : QV} (h : RR S v b M P B s) (hk : Kp S v u)
    (hc : ∀ a k, a < M → (a = b → k ≠ 5 ∧ k ≠ 6 ∧ k ≠ 7) → a ≠ b + 887 → (a < b + (45 + 56 * ((v b 5 + 1) % 13)) ∨ b + (45 + 56 * ((v b 5 + 1) % 13)) + 56 ≤ a) → u a k = v a k)
    (c5 : u b 5 = (v b 5 + 1) % 13) (c6 : u b 6 = if v b 6 = 12 then 12 else v b 6 + 1) (c7 : u b 7 = 0)
    (hm : ∀ a k, M ≤ a → (a = M → k ≠ 58 ∧ k ≠ 59) → a ≠ M + 1 → a ≠ M + 32 → a ≠ M + 36 → u a k = v a k)
    (m58 : u M 58 = if v b 6 = 12 then 12 else v b 6 + 1) (m59 : u M 59 = 0)
    (w1 : ∀ i, 0 ≤ i → i < 1095 * (if v b 6 = 12 then 11 else v b 6) → u (M + 36) i = v (M + 36) (i + if v b 6 = 12 then 1095 else 0))
    (w2 : ∀ k, 0 ≤ k → k < 1095 → u (M + 36) (1095 * (if v b 6 = 12 then 11 else v b 6) + k) = v (M + 1) k)
    (hs : SR u P (b + (45 + 56 * ((v b 5 + 1) % 13))) (u (M + 1))) : RR S u b M P B (b + (45 + 56 * ((v b 5 + 1) % 13))) := by
  have hn := h.nb
  obtain ⟨⟨h1, h2, h3⟩, ⟨p1, p2, p3⟩, ⟨b1, b2⟩, ⟨s1, s2, s3⟩, r, t, ⟨u1, u2, u3, u4, u5⟩, un, re, bx, tp, fa⟩ := h
  have eb : ∀ k, k ≠ 5 → k ≠ 6 → k ≠ 7 → u b k = v b k := fun k q1 q2 q3 => hc _ _ (by omega) (fun _ => ⟨q1, q2, q3⟩) (by omega) (by omega)
  have eM : ∀ k, k ≠ 58 → k ≠ 59 → u M k = v M k := fun k q1 q2 => hm _ _ (by omega) (fun _ => ⟨q1, q2⟩) (by omega) (by omega) (by omega)
  have eP : ∀ a k, (a = P ∨ (P + 9 ≤ a ∧ a ≤ P + 16)) → u a k = v a k := fun a k hh => hc _ _ (by omega) (by omega) (by omega) (by omega)
  have es : ∀ s', b + 45 ≤ s' → s' ≤ b + 830 → (s' + 56 ≤ b + (45 + 56 * ((v b 5 + 1) % 13)) ∨ b + (45 + 56 * ((v b 5 + 1) % 13)) + 56 ≤ s') → ∀ a k, s' ≤ a → a < s' + 56 → u a k = v a k := fun s' g0 g1 gd a k g2 g3 => hc _ _ (by omega) (by omega) (by omega) (by omega)
  refine ⟨⟨h1.keep hk, h2.keep hk, h3⟩, ⟨by rw [eb 2 (by decide) (by decide) (by decide)]; exact p1, by rw [eb 3 (by decide) (by decide) (by decide)]; exact p2, p3⟩, ⟨by rw [eM 28 (by decide) (by decide)]; exact b1, b2⟩, ⟨by rw [c5]; omega, by rw [c5]; omega, by rw [c5]⟩, ?_, hs, ?_, ?_, ?_, ?_, ?_, ?_⟩
  · exact r.eq (fun a k g0 g1 g2 g3 g4 => hc _ _ (by omega) (by omega) (by omega) (by omega)) (fun j k g0 g1 => hm _ _ (by omega) (by omega) (by omega) (by omega) (by omega))
  · rw [c6, c7, m58, m59]
    refine ⟨rfl, rfl, ?_, by omega, ?_⟩ <;> split <;> omega
  · intro j g0 g1
    rw [c6] at g1
    rw [c5, c6]
    by_cases hj : j = 1
    · have e1 : ((v b 5 + 1) % 13 - j) % 13 = v b 5 := by omega
      rw [e1, s3]
      refine SR.q hn eP (es s (by omega) (by omega) (by omega)) (fun k k0 k1 => ?_) t
      show u (M + 36) (1095 * ((if v b 6 = 12 then 12 else v b 6 + 1) - j) + k) = v (M + 1) k
      have e2 : 1095 * ((if v b 6 = 12 then 12 else v b 6 + 1) - j) + k = 1095 * (if v b 6 = 12 then 11 else v b 6) + k := by split <;> omega
      rw [e2]
      exact w2 k k0 k1
    · have gj : j - 1 ≤ v b 6 := by split at g1 <;> omega
      have e1 : ((v b 5 + 1) % 13 - j) % 13 = (v b 5 - (j - 1)) % 13 := by omega
      rw [e1]
      refine SR.q hn eP (es _ (by omega) (by omega) ?_) (fun k k0 k1 => ?_) (un (j - 1) (by omega) gj)
      · have : (v b 5 - (j - 1)) % 13 < (v b 5 + 1) % 13 ∨ (v b 5 + 1) % 13 < (v b 5 - (j - 1)) % 13 := by split at g1 <;> omega
        omega
      · show u (M + 36) (1095 * ((if v b 6 = 12 then 12 else v b 6 + 1) - j) + k) = v (M + 36) (1095 * (v b 6 - (j - 1)) + k)
        rw [w1 _ (by split <;> omega) (by split <;> omega)]
        congr 1
        split <;> omega
  · intro j g0 g1
    rw [c7] at g1
    omega
  · intro x g0 g1
    have e1 : u (b + 886) x = v (b + 886) x := hc _ _ (by omega) (by omega) (by omega) (by omega)
    have e2 : u (M + 38) x = v (M + 38) x := hm _ _ (by omega) (by omega) (by omega) (by omega) (by omega)
    rw [e1, e2]
    exact ⟨(bx x g0 g1).1, fun g2 => SR.q hn eP (es _ (by omega) (by omega) (by omega)) (fun k _ _ => hm _ _ (by omega) (by omega) (by omega) (by omega) (by omega)) ((bx x g0 g1).2 g2)⟩
  · have e1 : ∀ k, u (b + 1) k = v (b + 1) k := fun k => hc _ _ (by omega) (by omega) (by omega) (by omega)
    have e2 : ∀ k, u (b + 2) k = v (b + 2) k := fun k => hc _ _ (by omega) (by omega) (by omega) (by omega)
    have e3 : ∀ k, u (M + 28) k = v (M + 28) k := fun k => hm _ _ (by omega) (by omega) (by omega) (by omega) (by omega)
    rw [e1, eM 30 (by decide) (by decide)]
    simp only [e2, e3]
    exact tp
  · rw [eb 10 (by decide) (by decide) (by decide), eb 11 (by decide) (by decide) (by decide), eM 39 (by decide) (by decide), eM 40 (by decide) (by decide)]; exact fa
theorem c_newAct (h : RR S v b M P B s) : wM mX11_newAct [b] S v (fun r w => r = b + (45 + 56 * ((v b 5 + 1) % 13)) ∧ (w b 5 = (v b 5 + 1) % 13 ∧ w b 6 = (if v b 6 = 12 then 12 else v b 6 + 1) ∧ w b 7 = 0) ∧ Dq v s w (b + (45 + 56 * ((v b 5 + 1) % 13))) ∧ ∀ a k, (a = b → k ≠ 5 ∧ k ≠ 6 ∧ k ≠ 7) → (a < b + (45 + 56 * ((v b 5 + 1) % 13)) ∨ b + (45 + 56 * ((v b 5 + 1) % 13)) + 56 ≤ a) → w a k = v a k) := by
  have hC := h.1.1
  have hst := h.rc.st
  obtain ⟨s1, s2, s3⟩ := h.2.2.2.1
  have hu := h.2.2.2.2.2.2.1
  generalize hp : v b 5 = p at *
  have e1 : w32 (p + 1) = p + 1 := w32_e (by omega)
  have e0 : 0 ≤ p + 1 := by clear e1; omega
  have e2 : w32 ((p + 1) % 13) = (p + 1) % 13 := by clear e1; exact w32_e (by omega)
  have hn1 : 0 ≤ (p + 1) % 13 ∧ (p + 1) % 13 < 13 := by clear e1 e2; omega
  have hd : b + (45 + 56 * ((p + 1) % 13)) + 56 ≤ s ∨ s + 56 ≤ b + (45 + 56 * ((p + 1) % 13)) := by
    clear e1 e2
    have : (p + 1) % 13 < p ∨ p < (p + 1) % 13 := by omega
    omega
  have hs' := hC.s _ hn1.1 hn1.2
  simp only [mX11_newAct, sX11_newAct, wE_I, wE_V, wE_F, wE_A, wE_N, wE_1, wE_2, wE_D, wE_B, wE_If, wE_C, wE_CV, wE_SL, wE_SA, wA_0, wA_1, wC_B, wC_E, wC_And, wC_Or, wC_Not, wS_Skip, wS_Brk, wS_Cnt, wS_RetV, wS_Ret, wS_Seq, wS_Set, wS_Inc, wS_Do, wS_Put, wS_PutC, wS_Arr, wS_ArrC, wS_If, wS_Sw, wS_F0, wS_F1, wM_q, lu_ap, aL_ap, ct_0, ct_1, ct_2, ct_3, ct_4, ct_5, headD_1, List.mem_cons, List.not_mem_nil, or_false, false_or, or_true, true_or, true_and, and_true, false_and, and_false, not_true_eq_false, not_false_eq_true, if_true, if_false, nr_20, nr_24, nr_40, nr_41, nr_44, pt_lt, pt_ge, pt_eq, pt_ne, pt_gt, pt_le, pt_E, pt_N, pt_F, ite_10, ite_11, ne_eq, and_self, or_self, decide_true, decide_false, Bool.not_true, Bool.not_false, Bool.false_eq_true, Nat.reduceEqDiff, Nat.reduceAdd, Int.reduceEq, Int.reduceLT, Int.reduceLE, Int.reduceNeg, Int.reduceAdd, Int.reduceSub, Int.reduceMul, reduceCtorEq, iA, iS, iM, iD, iR, iN, lA, lS, lM, lD, lR, hC.k, hp, e1, e2, hC.p4, hC.a44, hC.n44, hn1, s1, s2, hC.es _ hn1.1 hn1.2, hC.es _ s1 s2, s3, hs'.k, tmod_n e0]
  clear e1 e2
  refine wM_mono (c_copyS hs' hst hd) ?_
  rintro z0 w e ⟨hD, hf⟩
  have hkw := (Kc.of kX8_copy e).p
  have hCw := hC.keep hkw
  have q6 : w b 6 = v b 6 := hf _ _ (by omega)
  have e3 : iMin (w32 (v b 6 + 1)) 12 = if v b 6 = 12 then 12 else v b 6 + 1 := by
    rw [w32_e (by omega)]
    unfold iMin
    split <;> split <;> omega
  have fD : ∀ (u : QV), (∀ a k, a ≠ b → u a k = w a k) → Dq v s u (b + (45 + 56 * ((p + 1) % 13))) := by
    intro u hu
    obtain ⟨d1, d2, d3⟩ := hD
    refine ⟨⟨by rw [hu _ _ (by omega)]; exact d1.1, by rw [hu _ _ (by omega)]; exact d1.2⟩, fun m m0 m1 => ?_, fun a a0 a1 => ?_⟩
    · obtain ⟨x1, x2, x3, x4⟩ := d2 m m0 m1
      refine ⟨fun k k0 k1 => by rw [hu _ _ (by omega)]; exact x1 k k0 k1, ?_, fun j j0 j1 => ?_, fun j j0 j1 => ?_⟩
      · rw [hu _ _ (by omega), hu _ _ (by omega), hu _ _ (by omega), hu _ _ (by omega)]; exact x2
      · rw [hu _ _ (by omega), hu _ _ (by omega)]; exact x3 j j0 j1
      · rw [hu _ _ (by omega), hu _ _ (by omega)]; exact x4 j j0 j1
    · obtain ⟨x1, x2⟩ := d3 a a0 a1
      exact ⟨fun j j0 j1 => by rw [hu _ _ (by omega)]; exact x1 j j0 j1, fun m m0 m1 k k0 k1 => by rw [hu _ _ (by omega)]; exact x2 m m0 m1 k k0 k1⟩
  have nb : ¬ b + 44 = b := by omega
  simp only [hCw.k, vu_ne, vu_is, q6, e3, hCw.p4, hCw.a44, hCw.n44, hn1, hCw.es _ hn1.1 hn1.2, nb, wE_I, wE_V, wE_F, wE_A, wE_N, wE_1, wE_2, wE_D, wE_B, wE_If, wE_C, wE_CV, wE_SL, wE_SA, wA_0, wA_1, wC_B, wC_E, wC_And, wC_Or, wC_Not, wS_Skip, wS_Brk, wS_Cnt, wS_RetV, wS_Ret, wS_Seq, wS_Set, wS_Inc, wS_Do, wS_Put, wS_PutC, wS_Arr, wS_ArrC, wS_If, wS_Sw, wS_F0, wS_F1, wM_q, lu_ap, aL_ap, ct_0, ct_1, ct_2, ct_3, ct_4, ct_5, headD_1, List.mem_cons, List.not_mem_nil, or_false, false_or, or_true, true_or, true_and, and_true, false_and, and_false, not_true_eq_false, not_false_eq_true, if_true, if_false, nr_20, nr_24, nr_40, nr_41, nr_44, pt_lt, pt_ge, pt_eq, pt_ne, pt_gt, pt_le, pt_E, pt_N, pt_F, ite_10, ite_11, ne_eq, and_self, or_self, decide_true, decide_false, Bool.not_true, Bool.not_false, Bool.false_eq_true, Nat.reduceEqDiff, Nat.reduceAdd, Int.reduceEq, Int.reduceLT, Int.reduceLE, Int.reduceNeg, Int.reduceAdd, Int.reduceSub, Int.reduceMul, reduceCtorEq]
  refine ⟨fD _ (fun a k ha => ?_), fun a k ha hb => ?_⟩
  · rw [vu_ne (fun q => ha q.1), vu_ne (fun q => ha q.1), vu_ne (fun q => ha q.1)]
  · rw [vu_ne (fun q => (ha q.1).2.2 q.2), vu_ne (fun q => (ha q.1).2.1 q.2), vu_ne (fun q => (ha q.1).1 q.2)]
    exact hf a k hb
end GA
