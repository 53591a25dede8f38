/-! BACK, TURN: both held together -/
def cT (v : QV) (t x y : Int) : Prop := (x = 0 ∧ 1 ≤ y ∧ y ≤ 1000) ∨ (x = 1 ∧ 0 ≤ y ∧ y ≤ v t 2) ∨ (x = 2 ∧ v t 1 ≤ y ∧ y ≤ 999999)
section GB
variable {S : QS} {v w : QV} {b M P B s : Int}
theorem back_RR {u : QV} (h : RR S v b M P B s) (hk : Kp S v u)
    (hc : ∀ a k, a < M → (a = b → k ≠ 6 ∧ k ≠ 7) → (a < s ∨ s + 56 ≤ a) → u a k = v a k) (c6 : u b 6 = 0) (c7 : u b 7 = 0)
    (hm : ∀ a k, M ≤ a → (a = M → k ≠ 58 ∧ k ≠ 59) → a ≠ M + 1 → u a k = v a k) (m58 : u M 58 = 0) (m59 : u M 59 = 0)
    (hs : SR u P s (u (M + 1))) : RR S u b M P B s := by
  have hn := h.nb
  obtain ⟨⟨h1, h2, h3⟩, ⟨p1, p2, p3⟩, ⟨b1, b2⟩, ⟨s1, s2, s3⟩, r', t, ⟨u1, u2, u3, u4, u5⟩, un, re, bx, tp, fa⟩ := h
  have eb : ∀ k, k ≠ 6 → k ≠ 7 → u b k = v b k := fun k q2 q3 => hc _ _ (by omega) (fun _ => ⟨q2, q3⟩) (by omega)
  have eM : ∀ k, k ≠ 58 → k ≠ 59 → u M k = v M k := fun k q1 q2 => hm _ _ (by omega) (fun _ => ⟨q1, q2⟩) (by omega)
  have eP : ∀ a k, (a = P ∨ (P + 9 ≤ a ∧ a ≤ P + 16)) → u a k = v a k := fun a k hh => hc _ _ (by omega) (by omega) (by omega)
  refine ⟨⟨h1.keep hk, h2.keep hk, h3⟩, ⟨by rw [eb 2 (by decide) (by decide)]; exact p1, by rw [eb 3 (by decide) (by decide)]; exact p2, p3⟩, ⟨by rw [eM 28 (by decide) (by decide)]; exact b1, b2⟩, ⟨by rw [eb 5 (by decide) (by decide)]; exact s1, by rw [eb 5 (by decide) (by decide)]; exact s2, by rw [eb 5 (by decide) (by decide)]; exact s3⟩, ?_, hs, ?_, ?_, ?_, ?_, ?_, ?_⟩
  · exact r'.eq (fun a k g0 g1 g2 g3 g4 => hc _ _ (by omega) (by omega) (by omega)) (fun j k g0 g1 => hm _ _ (by omega) (by omega) (by omega))
  · rw [c6, c7, m58, m59]
    exact ⟨rfl, rfl, by decide, by decide, by decide⟩
  · intro j g0 g1
    rw [c6] at g1
    omega
  · intro j g0 g1
    rw [c7] at g1
    omega
  · intro x g0 g1
    have e1 : u (b + 886) x = v (b + 886) x := hc _ _ (by omega) (by omega) (by omega)
    have e2 : u (M + 38) x = v (M + 38) x := hm _ _ (by omega) (by omega) (by omega)
    rw [e1, e2]
    exact ⟨(bx x g0 g1).1, fun g2 => SR.q hn eP (fun a k g3 g4 => hc _ _ (by omega) (by omega) (by omega)) (fun k _ _ => hm _ _ (by omega) (by omega) (by omega)) ((bx x g0 g1).2 g2)⟩
  · have e1 : ∀ k, u (b + 1) k = v (b + 1) k := fun k => hc _ _ (by omega) (by omega) (by omega)
    have e2 : ∀ k, u (b + 2) k = v (b + 2) k := fun k => hc _ _ (by omega) (by omega) (by omega)
    have e3 : ∀ k, u (M + 28) k = v (M + 28) k := fun k => hm _ _ (by omega) (by omega) (by omega)
    rw [e1, eM 30 (by decide) (by decide)]
    simp only [e2, e3]
    exact tp
  · rw [eb 10 (by decide) (by decide), eb 11 (by decide) (by decide), eM 39 (by decide) (by decide), eM 40 (by decide) (by decide)]; exact fa
theorem q_forgetActs (h : S.1 b = 12) : mX11_forgetActs [b] S v = some (0, vu (vu v b 6 0) b 7 0) := by
  apply wM_eq
  simp only [mX11_forgetActs, sX11_forgetActs, wE_I, wE_V, wE_F, wE_A, wE_N, wE_1, wE_2, wE_D, wE_B, wE_If, wE_C, wE_CV, wE_SL, wE_SA, wA_0, wA_1, wC_B, wC_E, wC_And, wC_Or, wC_Not, wS_Skip, wS_Brk, wS_Cnt, wS_RetV, wS_Ret, wS_Seq, wS_Set, wS_Inc, wS_Do, wS_Put, wS_PutC, wS_Arr, wS_ArrC, wS_If, wS_Sw, wS_F0, wS_F1, wM_q, lu_ap, aL_ap, ct_0, ct_1, ct_2, ct_3, ct_4, ct_5, headD_1, List.mem_cons, List.not_mem_nil, or_false, false_or, or_true, true_or, true_and, and_true, false_and, and_false, not_true_eq_false, not_false_eq_true, if_true, if_false, nr_20, nr_24, nr_40, nr_41, nr_44, pt_lt, pt_ge, pt_eq, pt_ne, pt_gt, pt_le, pt_E, pt_N, pt_F, ite_10, ite_11, ne_eq, and_self, or_self, decide_true, decide_false, Bool.not_true, Bool.not_false, Bool.false_eq_true, Nat.reduceEqDiff, Nat.reduceAdd, Int.reduceEq, Int.reduceLT, Int.reduceLE, Int.reduceNeg, Int.reduceAdd, Int.reduceSub, Int.reduceMul, reduceCtorEq, iA, iS, iM, iD, iR, iN, lA, lS, lM, lD, lR, h]
theorem Dq.u {d o : Int} {u : QV} (h : Dq v o w d) (hu : ∀ a k, d ≤ a → a < d + 56 → u a k = w a k) : Dq v o u d := by
  obtain ⟨d1, d2, d3⟩ := h
  refine ⟨⟨by rw [hu _ _ (by omega) (by omega)]; exact d1.1, by rw [hu _ _ (by omega) (by omega)]; exact d1.2⟩, fun m m0 m1 => ?_, fun a a0 a1 => ?_⟩
  · obtain ⟨x1, x2, x3, x4⟩ := d2 m m0 m1
    refine ⟨fun k k0 k1 => by rw [hu _ _ (by omega) (by omega)]; exact x1 k k0 k1, ?_, fun j j0 j1 => ?_, fun j j0 j1 => ?_⟩
    · rw [hu _ _ (by omega) (by omega), hu _ _ (by omega) (by omega), hu _ _ (by omega) (by omega), hu _ _ (by omega) (by omega)]; exact x2
    · rw [hu _ _ (by omega) (by omega), hu _ _ (by omega) (by omega)]; exact x3 j j0 j1
    · rw [hu _ _ (by omega) (by omega), hu _ _ (by omega) (by omega)]; exact x4 j j0 j1
  · obtain ⟨x1, x2⟩ := d3 a a0 a1
    exact ⟨fun j j0 j1 => by rw [hu _ _ (by omega) (by omega)]; exact x1 j j0 j1, fun m m0 m1 k k0 k1 => by rw [hu _ _ (by omega) (by omega)]; exact x2 m m0 m1 k k0 k1⟩
theorem g_back (h : RX S b v) {x : Int} : EQ S b mX11_back mX12_back [x] v := by
  have hX := h
  obtain ⟨P, B, s, h⟩ := h
  have hn := h.nb
  have hMo := h.1.2.1
  have hC := h.1.1
  have hst := h.rc.st
  unfold EQ
  by_cases hx : 0 ≤ x ∧ x ≤ 1
  · have hx2 : 0 ≤ x ∧ x < 2 := by omega
    have hbox := h.2.2.2.2.2.2.2.2.2.1 x hx2.1 hx2.2
    by_cases hf0 : v (b + 886) x = 0
    · have e1 : mX11_back [b, x] S v = some (-1, v) := by
        apply wM_eq
        simp only [mX11_back, sX11_back, wE_I, wE_V, wE_F, wE_A, wE_N, wE_1, wE_2, wE_D, wE_B, wE_If, wE_C, wE_CV, wE_SL, wE_SA, wA_0, wA_1, wC_B, wC_E, wC_And, wC_Or, wC_Not, wS_Skip, wS_Brk, wS_Cnt, wS_RetV, wS_Ret, wS_Seq, wS_Set, wS_Inc, wS_Do, wS_Put, wS_PutC, wS_Arr, wS_ArrC, wS_If, wS_Sw, wS_F0, wS_F1, wM_q, lu_ap, aL_ap, ct_0, ct_1, ct_2, ct_3, ct_4, ct_5, headD_1, List.mem_cons, List.not_mem_nil, or_false, false_or, or_true, true_or, true_and, and_true, false_and, and_false, not_true_eq_false, not_false_eq_true, if_true, if_false, nr_20, nr_24, nr_40, nr_41, nr_44, pt_lt, pt_ge, pt_eq, pt_ne, pt_gt, pt_le, pt_E, pt_N, pt_F, ite_10, ite_11, ne_eq, and_self, or_self, decide_true, decide_false, Bool.not_true, Bool.not_false, Bool.false_eq_true, Nat.reduceEqDiff, Nat.reduceAdd, Int.reduceEq, Int.reduceLT, Int.reduceLE, Int.reduceNeg, Int.reduceAdd, Int.reduceSub, Int.reduceMul, reduceCtorEq, iA, iS, iM, iD, iR, iN, lA, lS, lM, lD, lR, hC.k, wM_of (q_isBox h.rc), hx, hC.p9, hC.a886, hC.n886, hx2, hf0]
      have e2 : mX12_back [b + 889, x] S v = some (-1, v) := by
        have hm0 : v (b + 889 + 38) x = 0 := by rw [← hbox.1.1]; exact hf0
        apply wM_eq
        simp only [mX12_back, sX12_back, wE_I, wE_V, wE_F, wE_A, wE_N, wE_1, wE_2, wE_D, wE_B, wE_If, wE_C, wE_CV, wE_SL, wE_SA, wA_0, wA_1, wC_B, wC_E, wC_And, wC_Or, wC_Not, wS_Skip, wS_Brk, wS_Cnt, wS_RetV, wS_Ret, wS_Seq, wS_Set, wS_Inc, wS_Do, wS_Put, wS_PutC, wS_Arr, wS_ArrC, wS_If, wS_Sw, wS_F0, wS_F1, wM_q, lu_ap, aL_ap, ct_0, ct_1, ct_2, ct_3, ct_4, ct_5, headD_1, List.mem_cons, List.not_mem_nil, or_false, false_or, or_true, true_or, true_and, and_true, false_and, and_false, not_true_eq_false, not_false_eq_true, if_true, if_false, nr_20, nr_24, nr_40, nr_41, nr_44, pt_lt, pt_ge, pt_eq, pt_ne, pt_gt, pt_le, pt_E, pt_N, pt_F, ite_10, ite_11, ne_eq, and_self, or_self, decide_true, decide_false, Bool.not_true, Bool.not_false, Bool.false_eq_true, Nat.reduceEqDiff, Nat.reduceAdd, Int.reduceEq, Int.reduceLT, Int.reduceLE, Int.reduceNeg, Int.reduceAdd, Int.reduceSub, Int.reduceMul, reduceCtorEq, iA, iS, iM, iD, iR, iN, lA, lS, lM, lD, lR, wM_of m_isIn, hx, hMo.k, hMo.p57, hMo.a38, hMo.n38, hx2, hm0]
      rw [wM_of e1, wM_of e2]
      exact ⟨rfl, hX⟩
    · have hsb := h.rc.sb
      have hbx := hC.b _ hx2.1 hx2.2
      have hb8 := hbox.2 hf0
      have hb86 : ¬ v (b + 889 + 38) x = 0 := by rw [← hbox.1.1]; exact hf0
      simp only [mX11_back, sX11_back, wE_I, wE_V, wE_F, wE_A, wE_N, wE_1, wE_2, wE_D, wE_B, wE_If, wE_C, wE_CV, wE_SL, wE_SA, wA_0, wA_1, wC_B, wC_E, wC_And, wC_Or, wC_Not, wS_Skip, wS_Brk, wS_Cnt, wS_RetV, wS_Ret, wS_Seq, wS_Set, wS_Inc, wS_Do, wS_Put, wS_PutC, wS_Arr, wS_ArrC, wS_If, wS_Sw, wS_F0, wS_F1, wM_q, lu_ap, aL_ap, ct_0, ct_1, ct_2, ct_3, ct_4, ct_5, headD_1, List.mem_cons, List.not_mem_nil, or_false, false_or, or_true, true_or, true_and, and_true, false_and, and_false, not_true_eq_false, not_false_eq_true, if_true, if_false, nr_20, nr_24, nr_40, nr_41, nr_44, pt_lt, pt_ge, pt_eq, pt_ne, pt_gt, pt_le, pt_E, pt_N, pt_F, ite_10, ite_11, ne_eq, and_self, or_self, decide_true, decide_false, Bool.not_true, Bool.not_false, Bool.false_eq_true, Nat.reduceEqDiff, Nat.reduceAdd, Int.reduceEq, Int.reduceLT, Int.reduceLE, Int.reduceNeg, Int.reduceAdd, Int.reduceSub, Int.reduceMul, reduceCtorEq, iA, iS, iM, iD, iR, iN, lA, lS, lM, lD, lR, hC.k, wM_of (q_isBox h.rc), hx, hC.p9, hC.a886, hC.n886, hC.p8, hC.a773, hC.n773, hx2, hf0, hC.eb _ hx2.1 hx2.2, wM_of (q_now h.rc), hst.k]
      refine wM_mono (c_copyS hst hbx (by omega)) ?_
      rintro z0 w e ⟨hD, hf⟩
      have kw := (Kc.of kX8_copy e).p
      have hCw := hC.keep kw
      simp only [hCw.k, wM_of (q_forgetActs hCw.k), wE_I, wE_V, wE_F, wE_A, wE_N, wE_1, wE_2, wE_D, wE_B, wE_If, wE_C, wE_CV, wE_SL, wE_SA, wA_0, wA_1, wC_B, wC_E, wC_And, wC_Or, wC_Not, wS_Skip, wS_Brk, wS_Cnt, wS_RetV, wS_Ret, wS_Seq, wS_Set, wS_Inc, wS_Do, wS_Put, wS_PutC, wS_Arr, wS_ArrC, wS_If, wS_Sw, wS_F0, wS_F1, wM_q, lu_ap, aL_ap, ct_0, ct_1, ct_2, ct_3, ct_4, ct_5, headD_1, List.mem_cons, List.not_mem_nil, or_false, false_or, or_true, true_or, true_and, and_true, false_and, and_false, not_true_eq_false, not_false_eq_true, if_true, if_false, nr_20, nr_24, nr_40, nr_41, nr_44, pt_lt, pt_ge, pt_eq, pt_ne, pt_gt, pt_le, pt_E, pt_N, pt_F, ite_10, ite_11, ne_eq, and_self, or_self, decide_true, decide_false, Bool.not_true, Bool.not_false, Bool.false_eq_true, Nat.reduceEqDiff, Nat.reduceAdd, Int.reduceEq, Int.reduceLT, Int.reduceLE, Int.reduceNeg, Int.reduceAdd, Int.reduceSub, Int.reduceMul, reduceCtorEq]
      have kz : Kp S v (vu (vu w b 6 0) b 7 0) := (kw.vuc (by rw [hCw.k]; rfl)).vuc (by rw [hCw.k]; rfl)
      have hCz := hC.keep kz
      have hMz := hMo.keep kz
      have hs := h.2.2.2.1
      have e5 : vu (vu w b 6 0) b 7 0 b 5 = v b 5 := by rw [vu_ne (by omega), vu_ne (by omega)]; exact hf _ _ (by omega)
      have fz : ∀ a k, a ≠ b → vu (vu w b 6 0) b 7 0 a k = w a k := fun a k ha => by rw [vu_ne (fun q => ha q.1), vu_ne (fun q => ha q.1)]
      have z6 : vu (vu w b 6 0) b 7 0 b 6 = 0 := by rw [vu_ne (by omega), vu_is]
      have z7 : vu (vu w b 6 0) b 7 0 b 7 = 0 := vu_is
      have zb : ∀ k, k ≠ 6 → k ≠ 7 → vu (vu w b 6 0) b 7 0 b k = w b k := fun k k6 k7 => by rw [vu_ne (fun q => k7 q.2), vu_ne (fun q => k6 q.2)]
      generalize vu (vu w b 6 0) b 7 0 = z at *
      have hnow : mX11_now [b] S z = some (s, z) := by
        apply wM_eq
        simp only [mX11_now, sX11_now, wE_I, wE_V, wE_F, wE_A, wE_N, wE_1, wE_2, wE_D, wE_B, wE_If, wE_C, wE_CV, wE_SL, wE_SA, wA_0, wA_1, wC_B, wC_E, wC_And, wC_Or, wC_Not, wS_Skip, wS_Brk, wS_Cnt, wS_RetV, wS_Ret, wS_Seq, wS_Set, wS_Inc, wS_Do, wS_Put, wS_PutC, wS_Arr, wS_ArrC, wS_If, wS_Sw, wS_F0, wS_F1, wM_q, lu_ap, aL_ap, ct_0, ct_1, ct_2, ct_3, ct_4, ct_5, headD_1, List.mem_cons, List.not_mem_nil, or_false, false_or, or_true, true_or, true_and, and_true, false_and, and_false, not_true_eq_false, not_false_eq_true, if_true, if_false, nr_20, nr_24, nr_40, nr_41, nr_44, pt_lt, pt_ge, pt_eq, pt_ne, pt_gt, pt_le, pt_E, pt_N, pt_F, ite_10, ite_11, ne_eq, and_self, or_self, decide_true, decide_false, Bool.not_true, Bool.not_false, Bool.false_eq_true, Nat.reduceEqDiff, Nat.reduceAdd, Int.reduceEq, Int.reduceLT, Int.reduceLE, Int.reduceNeg, Int.reduceAdd, Int.reduceSub, Int.reduceMul, reduceCtorEq, iA, iS, iM, iD, iR, iN, lA, lS, lM, lD, lR, hCz.k, hCz.p4, hCz.a44, hCz.n44, e5, hs.1, hs.2.1, hCz.es _ hs.1 hs.2.1, hs.2.2]
      simp only [wM_of hnow, hst.k, wE_I, wE_V, wE_F, wE_A, wE_N, wE_1, wE_2, wE_D, wE_B, wE_If, wE_C, wE_CV, wE_SL, wE_SA, wA_0, wA_1, wC_B, wC_E, wC_And, wC_Or, wC_Not, wS_Skip, wS_Brk, wS_Cnt, wS_RetV, wS_Ret, wS_Seq, wS_Set, wS_Inc, wS_Do, wS_Put, wS_PutC, wS_Arr, wS_ArrC, wS_If, wS_Sw, wS_F0, wS_F1, wM_q, lu_ap, aL_ap, ct_0, ct_1, ct_2, ct_3, ct_4, ct_5, headD_1, List.mem_cons, List.not_mem_nil, or_false, false_or, or_true, true_or, true_and, and_true, false_and, and_false, not_true_eq_false, not_false_eq_true, if_true, if_false, nr_20, nr_24, nr_40, nr_41, nr_44, pt_lt, pt_ge, pt_eq, pt_ne, pt_gt, pt_le, pt_E, pt_N, pt_F, ite_10, ite_11, ne_eq, and_self, or_self, decide_true, decide_false, Bool.not_true, Bool.not_false, Bool.false_eq_true, Nat.reduceEqDiff, Nat.reduceAdd, Int.reduceEq, Int.reduceLT, Int.reduceLE, Int.reduceNeg, Int.reduceAdd, Int.reduceSub, Int.reduceMul, reduceCtorEq]
      have zM : ∀ a k, b + 889 ≤ a → z a k = v a k := fun a k ha => (fz _ _ (by omega)).trans (hf _ _ (by omega))
      refine wM_mono (m_back hMz hx (by rw [zM _ _ (by omega)]; exact hb86)) ?_
      rintro r u e' ⟨hr, a1, ⟨a2, a3⟩, a4⟩
      have ku := kz.tr (Km.of kX12_back e').p
      refine ⟨?_, P, B, s, back_RR h ku (fun a k ha hb hc => ?_) ((a4 _ _ (by omega) (by omega)).trans z6) ((a4 _ _ (by omega) (by omega)).trans z7) (fun a k ha hb hc => (a4 _ _ hb hc).trans (zM _ _ ha)) a2 a3 ?_⟩
      · rw [hr, fz _ _ (by omega), hD.1.1, zM _ _ (by omega), hb8.1.1]
        obtain ⟨t1, -⟩ := hb8
        dsimp only at t1 ⊢
        rw [Int.add_zero] at t1 ⊢
        exact (w32_e (by omega)).symm
      · rw [a4 _ _ (by omega) (by omega)]
        by_cases hab : a = b
        · subst hab
          rw [zb k (hb rfl).1 (hb rfl).2]
          exact hf _ _ hc
        · rw [fz _ _ hab]
          exact hf _ _ hc
      · have uP : ∀ a k, (a = P ∨ (P + 9 ≤ a ∧ a ≤ P + 16)) → u a k = v a k := fun a k ha => by
          have := h.2.1.2.2
          rw [a4 _ _ (by omega) (by omega), fz _ _ (by omega)]
          exact hf _ _ (by omega)
        refine SR.cong hn.1 hn.2 uP (hD.u (fun a k g0 g1 => ?_)) (fun k k0 k1 => ?_) hb8
        · rw [a4 _ _ (by omega) (by omega), fz _ _ (by omega)]
        · show u (b + 889 + 1) k = v (b + 889 + 37) (1095 * x + k)
          rw [a1 k k0 k1]
          exact zM _ _ (by omega)
  · have e1 : mX11_back [b, x] S v = some (-1, v) := by
      apply wM_eq
      simp only [mX11_back, sX11_back, wE_I, wE_V, wE_F, wE_A, wE_N, wE_1, wE_2, wE_D, wE_B, wE_If, wE_C, wE_CV, wE_SL, wE_SA, wA_0, wA_1, wC_B, wC_E, wC_And, wC_Or, wC_Not, wS_Skip, wS_Brk, wS_Cnt, wS_RetV, wS_Ret, wS_Seq, wS_Set, wS_Inc, wS_Do, wS_Put, wS_PutC, wS_Arr, wS_ArrC, wS_If, wS_Sw, wS_F0, wS_F1, wM_q, lu_ap, aL_ap, ct_0, ct_1, ct_2, ct_3, ct_4, ct_5, headD_1, List.mem_cons, List.not_mem_nil, or_false, false_or, or_true, true_or, true_and, and_true, false_and, and_false, not_true_eq_false, not_false_eq_true, if_true, if_false, nr_20, nr_24, nr_40, nr_41, nr_44, pt_lt, pt_ge, pt_eq, pt_ne, pt_gt, pt_le, pt_E, pt_N, pt_F, ite_10, ite_11, ne_eq, and_self, or_self, decide_true, decide_false, Bool.not_true, Bool.not_false, Bool.false_eq_true, Nat.reduceEqDiff, Nat.reduceAdd, Int.reduceEq, Int.reduceLT, Int.reduceLE, Int.reduceNeg, Int.reduceAdd, Int.reduceSub, Int.reduceMul, reduceCtorEq, iA, iS, iM, iD, iR, iN, lA, lS, lM, lD, lR, hC.k, wM_of (q_isBox h.rc), hx]
    have e2 : mX12_back [b + 889, x] S v = some (-1, v) := by
      apply wM_eq
      simp only [mX12_back, sX12_back, wE_I, wE_V, wE_F, wE_A, wE_N, wE_1, wE_2, wE_D, wE_B, wE_If, wE_C, wE_CV, wE_SL, wE_SA, wA_0, wA_1, wC_B, wC_E, wC_And, wC_Or, wC_Not, wS_Skip, wS_Brk, wS_Cnt, wS_RetV, wS_Ret, wS_Seq, wS_Set, wS_Inc, wS_Do, wS_Put, wS_PutC, wS_Arr, wS_ArrC, wS_If, wS_Sw, wS_F0, wS_F1, wM_q, lu_ap, aL_ap, ct_0, ct_1, ct_2, ct_3, ct_4, ct_5, headD_1, List.mem_cons, List.not_mem_nil, or_false, false_or, or_true, true_or, true_and, and_true, false_and, and_false, not_true_eq_false, not_false_eq_true, if_true, if_false, nr_20, nr_24, nr_40, nr_41, nr_44, pt_lt, pt_ge, pt_eq, pt_ne, pt_gt, pt_le, pt_E, pt_N, pt_F, ite_10, ite_11, ne_eq, and_self, or_self, decide_true, decide_false, Bool.not_true, Bool.not_false, Bool.false_eq_true, Nat.reduceEqDiff, Nat.reduceAdd, Int.reduceEq, Int.reduceLT, Int.reduceLE, Int.reduceNeg, Int.reduceAdd, Int.reduceSub, Int.reduceMul, reduceCtorEq, iA, iS, iM, iD, iR, iN, lA, lS, lM, lD, lR, wM_of m_isIn, hx]
    rw [wM_of e1, wM_of e2]
    exact ⟨rfl, hX⟩
theorem q_canTurn {t x y : Int} (ht : S.1 t = 4) [Decidable (cT v t x y)] : mX3_canTurn [t, x, y] S v = some (if cT v t x y then 1 else 0, v) := by
  apply wM_eq
  simp only [mX3_canTurn, sX3_canTurn, wE_I, wE_V, wE_F, wE_A, wE_N, wE_1, wE_2, wE_D, wE_B, wE_If, wE_C, wE_CV, wE_SL, wE_SA, wA_0, wA_1, wC_B, wC_E, wC_And, wC_Or, wC_Not, wS_Skip, wS_Brk, wS_Cnt, wS_RetV, wS_Ret, wS_Seq, wS_Set, wS_Inc, wS_Do, wS_Put, wS_PutC, wS_Arr, wS_ArrC, wS_If, wS_Sw, wS_F0, wS_F1, wM_q, lu_ap, aL_ap, ct_0, ct_1, ct_2, ct_3, ct_4, ct_5, headD_1, List.mem_cons, List.not_mem_nil, or_false, false_or, or_true, true_or, true_and, and_true, false_and, and_false, not_true_eq_false, not_false_eq_true, if_true, if_false, nr_20, nr_24, nr_40, nr_41, nr_44, pt_lt, pt_ge, pt_eq, pt_ne, pt_gt, pt_le, pt_E, pt_N, pt_F, ite_10, ite_11, ne_eq, and_self, or_self, decide_true, decide_false, Bool.not_true, Bool.not_false, Bool.false_eq_true, Nat.reduceEqDiff, Nat.reduceAdd, Int.reduceEq, Int.reduceLT, Int.reduceLE, Int.reduceNeg, Int.reduceAdd, Int.reduceSub, Int.reduceMul, reduceCtorEq, iA, iS, iM, iD, iR, iN, lA, lS, lM, lD, lR, ht]
  by_cases x0 : x = 0
  · subst x0
    have : cT v t 0 y ↔ 1 ≤ y ∧ y ≤ 1000 := by unfold cT; omega
    by_cases h1 : 1 ≤ y <;> by_cases h2 : y ≤ 1000 <;> simp [this, h1, h2]
  by_cases x1 : x = 1
  · subst x1
    have : cT v t 1 y ↔ 0 ≤ y ∧ y ≤ v t 2 := by unfold cT; omega
    by_cases h1 : 0 ≤ y <;> by_cases h2 : y ≤ v t 2 <;> simp [this, h1, h2]
  by_cases x2 : x = 2
  · subst x2
    have : cT v t 2 y ↔ v t 1 ≤ y ∧ y ≤ 999999 := by unfold cT; omega
    by_cases h1 : v t 1 ≤ y <;> by_cases h2 : y ≤ 999999 <;> simp [this, h1, h2]
  have : ¬ cT v t x y := by unfold cT; omega
  simp [this, x0, x1, x2]
theorem c_bound {t x y : Int} (ht : S.1 t = 4) (hx : x = 0 ∨ x = 1 ∨ x = 2) : mX3_bound [t, x, y] S v = some (v t x, vu v t x y) := by
  apply wM_eq
  rcases hx with rfl | rfl | rfl <;> simp only [mX3_bound, sX3_bound, wE_I, wE_V, wE_F, wE_A, wE_N, wE_1, wE_2, wE_D, wE_B, wE_If, wE_C, wE_CV, wE_SL, wE_SA, wA_0, wA_1, wC_B, wC_E, wC_And, wC_Or, wC_Not, wS_Skip, wS_Brk, wS_Cnt, wS_RetV, wS_Ret, wS_Seq, wS_Set, wS_Inc, wS_Do, wS_Put, wS_PutC, wS_Arr, wS_ArrC, wS_If, wS_Sw, wS_F0, wS_F1, wM_q, lu_ap, aL_ap, ct_0, ct_1, ct_2, ct_3, ct_4, ct_5, headD_1, List.mem_cons, List.not_mem_nil, or_false, false_or, or_true, true_or, true_and, and_true, false_and, and_false, not_true_eq_false, not_false_eq_true, if_true, if_false, nr_20, nr_24, nr_40, nr_41, nr_44, pt_lt, pt_ge, pt_eq, pt_ne, pt_gt, pt_le, pt_E, pt_N, pt_F, ite_10, ite_11, ne_eq, and_self, or_self, decide_true, decide_false, Bool.not_true, Bool.not_false, Bool.false_eq_true, Nat.reduceEqDiff, Nat.reduceAdd, Int.reduceEq, Int.reduceLT, Int.reduceLE, Int.reduceNeg, Int.reduceAdd, Int.reduceSub, Int.reduceMul, reduceCtorEq, iA, iS, iM, iD, iR, iN, lA, lS, lM, lD, lR, ht]
theorem m_canTurn (h : RM S v M B) {m x y : Int} : mX12_canTurn [M, m, x, y] S v = some (if (0 ≤ m ∧ m < v (M + 3) B) ∧ ((x = 0 ∧ 1 ≤ y ∧ y ≤ 1000) ∨ (x = 1 ∧ 0 ≤ y ∧ y ≤ v (M + 1) (3 + 12 * m + 2)) ∨ (x = 2 ∧ v (M + 1) (3 + 12 * m + 1) ≤ y ∧ y ≤ 999999)) then 1 else 0, v) := by
  apply wM_eq
  by_cases hm : 0 ≤ m ∧ m < v (M + 3) B
  · have hn := h.2.2.2.2.1
    have hm4 : 0 ≤ m ∧ m < 4 := by omega
    have o1 : 0 ≤ 3 + 12 * m + 1 ∧ 3 + 12 * m + 1 < 1095 := by omega
    have o2 : 0 ≤ 3 + 12 * m + 2 ∧ 3 + 12 * m + 2 < 1095 := by omega
    by_cases hx : 0 ≤ x ∧ x ≤ 2
    · simp only [mX12_canTurn, sX12_canTurn, wE_I, wE_V, wE_F, wE_A, wE_N, wE_1, wE_2, wE_D, wE_B, wE_If, wE_C, wE_CV, wE_SL, wE_SA, wA_0, wA_1, wC_B, wC_E, wC_And, wC_Or, wC_Not, wS_Skip, wS_Brk, wS_Cnt, wS_RetV, wS_Ret, wS_Seq, wS_Set, wS_Inc, wS_Do, wS_Put, wS_PutC, wS_Arr, wS_ArrC, wS_If, wS_Sw, wS_F0, wS_F1, wM_q, lu_ap, aL_ap, ct_0, ct_1, ct_2, ct_3, ct_4, ct_5, headD_1, List.mem_cons, List.not_mem_nil, or_false, false_or, or_true, true_or, true_and, and_true, false_and, and_false, not_true_eq_false, not_false_eq_true, if_true, if_false, nr_20, nr_24, nr_40, nr_41, nr_44, pt_lt, pt_ge, pt_eq, pt_ne, pt_gt, pt_le, pt_E, pt_N, pt_F, ite_10, ite_11, ne_eq, and_self, or_self, decide_true, decide_false, Bool.not_true, Bool.not_false, Bool.false_eq_true, Nat.reduceEqDiff, Nat.reduceAdd, Int.reduceEq, Int.reduceLT, Int.reduceLE, Int.reduceNeg, Int.reduceAdd, Int.reduceSub, Int.reduceMul, reduceCtorEq, iA, iS, iM, iD, iR, iN, lA, lS, lM, lD, lR, h.1.k, h.1.p0, h.1.a1, h.1.n1, wM_of (m_isMeasure h), wM_of m_isIn, hm, hx, wM_of (m_atMeasure hm4 (show 0 ≤ (1 : Int) ∧ (1 : Int) < 12 by decide)), wM_of (m_atMeasure hm4 (show 0 ≤ (2 : Int) ∧ (2 : Int) < 12 by decide)), o1, o2]
      by_cases x0 : x = 0
      · simp [x0]
      by_cases x1 : x = 1
      · simp [x1]
      have x2 : x = 2 := by omega
      simp [x2]
    · have x0 : ¬ x = 0 := by omega
      have x1 : ¬ x = 1 := by omega
      have x2 : ¬ x = 2 := by omega
      simp only [mX12_canTurn, sX12_canTurn, wE_I, wE_V, wE_F, wE_A, wE_N, wE_1, wE_2, wE_D, wE_B, wE_If, wE_C, wE_CV, wE_SL, wE_SA, wA_0, wA_1, wC_B, wC_E, wC_And, wC_Or, wC_Not, wS_Skip, wS_Brk, wS_Cnt, wS_RetV, wS_Ret, wS_Seq, wS_Set, wS_Inc, wS_Do, wS_Put, wS_PutC, wS_Arr, wS_ArrC, wS_If, wS_Sw, wS_F0, wS_F1, wM_q, lu_ap, aL_ap, ct_0, ct_1, ct_2, ct_3, ct_4, ct_5, headD_1, List.mem_cons, List.not_mem_nil, or_false, false_or, or_true, true_or, true_and, and_true, false_and, and_false, not_true_eq_false, not_false_eq_true, if_true, if_false, nr_20, nr_24, nr_40, nr_41, nr_44, pt_lt, pt_ge, pt_eq, pt_ne, pt_gt, pt_le, pt_E, pt_N, pt_F, ite_10, ite_11, ne_eq, and_self, or_self, decide_true, decide_false, Bool.not_true, Bool.not_false, Bool.false_eq_true, Nat.reduceEqDiff, Nat.reduceAdd, Int.reduceEq, Int.reduceLT, Int.reduceLE, Int.reduceNeg, Int.reduceAdd, Int.reduceSub, Int.reduceMul, reduceCtorEq, iA, iS, iM, iD, iR, iN, lA, lS, lM, lD, lR, h.1.k, wM_of (m_isMeasure h), wM_of m_isIn, hm, hx, x0, x1, x2]
  · simp only [mX12_canTurn, sX12_canTurn, wE_I, wE_V, wE_F, wE_A, wE_N, wE_1, wE_2, wE_D, wE_B, wE_If, wE_C, wE_CV, wE_SL, wE_SA, wA_0, wA_1, wC_B, wC_E, wC_And, wC_Or, wC_Not, wS_Skip, wS_Brk, wS_Cnt, wS_RetV, wS_Ret, wS_Seq, wS_Set, wS_Inc, wS_Do, wS_Put, wS_PutC, wS_Arr, wS_ArrC, wS_If, wS_Sw, wS_F0, wS_F1, wM_q, lu_ap, aL_ap, ct_0, ct_1, ct_2, ct_3, ct_4, ct_5, headD_1, List.mem_cons, List.not_mem_nil, or_false, false_or, or_true, true_or, true_and, and_true, false_and, and_false, not_true_eq_false, not_false_eq_true, if_true, if_false, nr_20, nr_24, nr_40, nr_41, nr_44, pt_lt, pt_ge, pt_eq, pt_ne, pt_gt, pt_le, pt_E, pt_N, pt_F, ite_10, ite_11, ne_eq, and_self, or_self, decide_true, decide_false, Bool.not_true, Bool.not_false, Bool.false_eq_true, Nat.reduceEqDiff, Nat.reduceAdd, Int.reduceEq, Int.reduceLT, Int.reduceLE, Int.reduceNeg, Int.reduceAdd, Int.reduceSub, Int.reduceMul, reduceCtorEq, iA, iS, iM, iD, iR, iN, lA, lS, lM, lD, lR, h.1.k, wM_of (m_isMeasure h), hm]
/-- a bound turned -/
theorem SR.turn {f g : Int → Int} {m x y : Int} (hg : ∀ k, k ≠ 3 + 12 * m + x → g k = f k) (hgx : g (3 + 12 * m + x) = y) (hn : v P 1 ≤ 4 ∧ v P 2 ≤ 4) (hP : P + 16 < s) (h : SR v P s f) (hm : 0 ≤ m ∧ m < v P 1) (hT : cT v (s + (4 + 6 * m)) x y) : SR (vu v (s + (4 + 6 * m)) x y) P s g := by
  have hx : x = 0 ∨ x = 1 ∨ x = 2 := by unfold cT at hT; omega
  have fr : ∀ a k, a ≠ s + (4 + 6 * m) → vu v (s + (4 + 6 * m)) x y a k = v a k := fun a k ha => vu_ne (fun q => ha q.1)
  have ft : ∀ k, k ≠ x → vu v (s + (4 + 6 * m)) x y (s + (4 + 6 * m)) k = v (s + (4 + 6 * m)) k := fun k hk => vu_ne (fun q => hk q.2)
  have fe : vu v (s + (4 + 6 * m)) x y (s + (4 + 6 * m)) x = y := vu_is
  generalize vu v (s + (4 + 6 * m)) x y = w at *
  obtain ⟨h1, h2, h3, h4, h5, h6⟩ := h
  have eP : ∀ k, w P k = v P k := fun k => fr _ _ (by omega)
  have e0 : ∀ k, k < 3 ∨ 51 ≤ k → g k = f k := fun k hk => hg k (by omega)
  refine ⟨?_, ?_, ?_, ?_, ?_, ?_⟩
  · rw [fr _ _ (by omega), e0 0 (by omega)]; exact h1
  · rw [e0 0 (by omega), e0 1 (by omega), eP]; exact h2
  · rw [fr _ _ (by omega), e0 0 (by omega), e0 2 (by omega)]; exact h3
  · intro q q0 q1
    rw [eP] at q1
    have := h4 q q0 q1
    by_cases hq : q = m
    · subst hq
      obtain ⟨t1, t2, t3, t4, t5, t6, t7, t8⟩ := this
      have g3 : ∀ k, 3 ≤ k → g (3 + 12 * q + k) = f (3 + 12 * q + k) := fun k hk => hg _ (by omega)
      have g0 : ∀ k, k ≠ x → g (3 + 12 * q + k) = f (3 + 12 * q + k) := fun k hk => hg _ (by omega)
      have gx : g (3 + 12 * q + x) = y := hgx
      refine ⟨?_, ?_, ?_, ?_, ?_, ?_, ?_, ?_⟩
      · rcases hx with rfl | rfl | rfl
        · rw [fe, gx]; unfold cT at hT; omega
        · rw [ft 0 (by decide), g0 0 (by decide)]; exact t1
        · rw [ft 0 (by decide), g0 0 (by decide)]; exact t1
      · rcases hx with rfl | rfl | rfl
        · rw [ft 1 (by decide), ft 2 (by decide), g0 1 (by decide), g0 2 (by decide)]; exact t2
        · rw [ft 2 (by decide), fe, gx, g0 2 (by decide)]
          unfold cT at hT
          omega
        · rw [ft 1 (by decide), fe, gx, g0 1 (by decide)]
          unfold cT at hT
          omega
      · rw [ft 3 (by omega), g3 3 (by decide), fr _ _ (by omega), fr _ _ (by omega)]; exact t3
      · rw [ft 4 (by omega), g3 4 (by decide)]; exact t4
      · rw [ft 5 (by omega), g3 5 (by decide)]; exact t5
      · rw [ft 6 (by omega), g3 7 (by decide), e0 0 (by omega), eP]; exact t6
      · rw [ft 7 (by omega), ft 6 (by omega), g3 6 (by decide)]; exact t7
      · rw [ft 8 (by omega), ft 9 (by omega), g3 8 (by decide), g3 9 (by decide)]; exact t8
    · have g0 : ∀ k, 0 ≤ k → k < 12 → g (3 + 12 * q + k) = f (3 + 12 * q + k) := fun k hk hk2 => hg _ (by omega)
      have et : ∀ k, w (s + (4 + 6 * q)) k = v (s + (4 + 6 * q)) k := fun k => fr _ _ (by omega)
      have ep : ∀ k, w (P + (9 + q)) k = v (P + (9 + q)) k := fun k => fr _ _ (by omega)
      unfold SRm at this ⊢
      simp only [et, ep, eP]
      rw [g0 0 (by omega) (by omega), g0 1 (by omega) (by omega), g0 2 (by omega) (by omega), g0 3 (by omega) (by omega), g0 4 (by omega) (by omega), g0 5 (by omega) (by omega), g0 6 (by omega) (by omega), g0 7 (by omega) (by omega), g0 8 (by omega) (by omega), g0 9 (by omega) (by omega), e0 0 (by omega)]
      exact this
  · intro a a0 a1
    rw [eP] at a1
    obtain ⟨k1, k2⟩ := h5 a a0 a1
    have eU : cU w P a = cU v P a := by unfold cU; rw [eP, fr _ _ (by omega)]
    refine ⟨?_, fun q q0 q1 => ?_⟩
    · rw [e0 (51 + a) (by omega), e0 0 (by omega), eU, fr _ _ (by omega)]; exact k1
    · rw [eP] at q1
      obtain ⟨k3, k4⟩ := k2 q q0 q1
      have et : ∀ k, w (s + (28 + 7 * a) + (3 + q)) k = v (s + (28 + 7 * a) + (3 + q)) k := fun k => fr _ _ (by omega)
      refine ⟨?_, fun i i0 i1 => ?_⟩
      · unfold SRt at k3 ⊢
        simp only [et]
        rw [e0 (55 + 7 * (4 * a + q) + 0) (by omega), e0 (55 + 7 * (4 * a + q) + 1) (by omega), e0 (55 + 7 * (4 * a + q) + 2) (by omega), e0 (55 + 7 * (4 * a + q) + 3) (by omega), e0 (55 + 7 * (4 * a + q) + 4) (by omega), e0 (55 + 7 * (4 * a + q) + 5) (by omega), e0 (55 + 7 * (4 * a + q) + 6) (by omega), e0 1 (by omega), fr (P + (13 + a)) _ (by omega)]
        exact k3
      · rw [e0 (51 + a) (by omega)] at i1
        rw [eU, e0 0 (by omega), fr _ _ (by omega), e0 (167 + 30 * (4 * a + q) + i) (by omega)]
        exact k4 i i0 i1
  · intro q q0 q1 q2
    rw [eP] at q1
    rw [fr _ _ (by omega)] at q2
    obtain ⟨o1, o2, o3, o4, o5, o6⟩ := h6 q q0 q1 q2
    have eo : ∀ j k, 0 ≤ j → j ≤ 4 → w (s + (5 + 6 * q) + j) k = v (s + (5 + 6 * q) + j) k := fun j k _ _ => fr _ _ (by omega)
    have eo0 : ∀ k, w (s + (5 + 6 * q)) k = v (s + (5 + 6 * q)) k := fun k => fr _ _ (by omega)
    have eK : cKo w (s + (5 + 6 * q)) = cKo v (s + (5 + 6 * q)) := by unfold cKo; rw [eo0]
    have eT : ∀ i, cTo w (s + (5 + 6 * q)) i = cTo v (s + (5 + 6 * q)) i := fun i => by unfold cTo; rw [eo0, eo 3 _ (by decide) (by decide)]
    have eO : ∀ i, cOd w (s + (5 + 6 * q)) i = cOd v (s + (5 + 6 * q)) i := fun i => by unfold cOd; rw [eo0, eo 4 _ (by decide) (by decide)]
    have ef : ∀ k, 0 ≤ k → g (647 + 112 * q + k) = f (647 + 112 * q + k) := fun k _ => hg _ (by omega)
    refine ⟨?_, ?_, ?_, ?_, ?_, ?_⟩
    · rw [eo0, ef 2 (by decide), ef 0 (by decide)]; exact o1
    · rw [eo0, ef 0 (by decide)]; exact o2
    · rw [eo0, ef 1 (by decide)]; exact o3
    · rw [eo0, eK, ef 3 (by decide), e0 1 (by omega)]; exact o4
    · intro j j0 j1
      rw [eo 1 _ (by decide) (by decide), eo 2 _ (by decide) (by decide), ef (4 + j) (by omega), ef (28 + j) (by omega)]
      exact o5 j j0 j1
    · intro i i0 i1
      rw [eK] at i1
      rw [eT, eO, ef (52 + i) (by omega), ef (82 + i) (by omega)]
      exact o6 i i0 i1
theorem g_turn (h : RX S b v) {m x y : Int} : EQ S b mX11_turn mX12_turn [m, x, y] v := by
  have hX := h
  obtain ⟨P, B, s, h⟩ := h
  have hn := h.nb
  have hMo := h.1.2.1
  have hC := h.1.1
  have hst := h.rc.st
  have hdc : ∀ v t x y, Decidable (cT v t x y) := fun _ _ _ _ => Classical.propDecidable _
  unfold EQ
  by_cases hm : 0 ≤ m ∧ m < v P 1
  · have hm4 : m < 4 := by omega
    have t := h.2.2.2.2.2.1
    have tm := t.2.2.2.1 m hm.1 hm.2
    have hmm : 0 ≤ m ∧ m < v (b + 889 + 3) B := by rw [h.e3]; exact hm
    have hcm : ((x = 0 ∧ 1 ≤ y ∧ y ≤ 1000) ∨ (x = 1 ∧ 0 ≤ y ∧ y ≤ v (b + 889 + 1) (3 + 12 * m + 2)) ∨ (x = 2 ∧ v (b + 889 + 1) (3 + 12 * m + 1) ≤ y ∧ y ≤ 999999)) ↔ cT v (s + (4 + 6 * m)) x y := by
      unfold cT
      rw [tm.2.1.1, tm.2.1.2.1]
    by_cases hT : cT v (s + (4 + 6 * m)) x y
    · have hxx : x = 0 ∨ x = 1 ∨ x = 2 := by unfold cT at hT; omega
      have hs := h.2.2.2.1
      have hsb := h.rc.sb
      simp only [mX11_turn, sX11_turn, wE_I, wE_V, wE_F, wE_A, wE_N, wE_1, wE_2, wE_D, wE_B, wE_If, wE_C, wE_CV, wE_SL, wE_SA, wA_0, wA_1, wC_B, wC_E, wC_And, wC_Or, wC_Not, wS_Skip, wS_Brk, wS_Cnt, wS_RetV, wS_Ret, wS_Seq, wS_Set, wS_Inc, wS_Do, wS_Put, wS_PutC, wS_Arr, wS_ArrC, wS_If, wS_Sw, wS_F0, wS_F1, wM_q, lu_ap, aL_ap, ct_0, ct_1, ct_2, ct_3, ct_4, ct_5, headD_1, List.mem_cons, List.not_mem_nil, or_false, false_or, or_true, true_or, true_and, and_true, false_and, and_false, not_true_eq_false, not_false_eq_true, if_true, if_false, nr_20, nr_24, nr_40, nr_41, nr_44, pt_lt, pt_ge, pt_eq, pt_ne, pt_gt, pt_le, pt_E, pt_N, pt_F, ite_10, ite_11, ne_eq, and_self, or_self, decide_true, decide_false, Bool.not_true, Bool.not_false, Bool.false_eq_true, Nat.reduceEqDiff, Nat.reduceAdd, Int.reduceEq, Int.reduceLT, Int.reduceLE, Int.reduceNeg, Int.reduceAdd, Int.reduceSub, Int.reduceMul, reduceCtorEq, iA, iS, iM, iD, iR, iN, lA, lS, lM, lD, lR, hC.k, wM_of (q_isMeasure h.rc), hm, wM_of (q_now h.rc), hst.k, hst.p2, hst.a1, hst.n1, hst.em _ hm.1 hm4, hm4, hst.m _ hm.1 hm4, wM_of (q_canTurn (hst.m _ hm.1 hm4)), hT]
      refine wM_mono (c_newAct h) ?_
      rintro r w e ⟨hr, ⟨c5, c6, c7⟩, hD, hf⟩
      have kw := (Kc.of kX11_newAct e).p
      have hCw := hC.keep kw
      have hn1 : 0 ≤ (v b 5 + 1) % 13 ∧ (v b 5 + 1) % 13 < 13 := by omega
      have hs' := hCw.s _ hn1.1 hn1.2
      rw [← hr] at hs' hD hf
      have hrb : b + 45 ≤ r ∧ r ≤ b + 717 ∧ (r + 56 ≤ s ∨ s + 56 ≤ r) := by
        have : (v b 5 + 1) % 13 < v b 5 ∨ v b 5 < (v b 5 + 1) % 13 := by omega
        omega
      simp only [hs'.k, hs'.p2, hs'.a1, hs'.n1, hs'.em _ hm.1 hm4, hm4, hs'.m _ hm.1 hm4, wM_of (c_bound (hs'.m _ hm.1 hm4) hxx), wE_I, wE_V, wE_F, wE_A, wE_N, wE_1, wE_2, wE_D, wE_B, wE_If, wE_C, wE_CV, wE_SL, wE_SA, wA_0, wA_1, wC_B, wC_E, wC_And, wC_Or, wC_Not, wS_Skip, wS_Brk, wS_Cnt, wS_RetV, wS_Ret, wS_Seq, wS_Set, wS_Inc, wS_Do, wS_Put, wS_PutC, wS_Arr, wS_ArrC, wS_If, wS_Sw, wS_F0, wS_F1, wM_q, lu_ap, aL_ap, ct_0, ct_1, ct_2, ct_3, ct_4, ct_5, headD_1, List.mem_cons, List.not_mem_nil, or_false, false_or, or_true, true_or, true_and, and_true, false_and, and_false, not_true_eq_false, not_false_eq_true, if_true, if_false, nr_20, nr_24, nr_40, nr_41, nr_44, pt_lt, pt_ge, pt_eq, pt_ne, pt_gt, pt_le, pt_E, pt_N, pt_F, ite_10, ite_11, ne_eq, and_self, or_self, decide_true, decide_false, Bool.not_true, Bool.not_false, Bool.false_eq_true, Nat.reduceEqDiff, Nat.reduceAdd, Int.reduceEq, Int.reduceLT, Int.reduceLE, Int.reduceNeg, Int.reduceAdd, Int.reduceSub, Int.reduceMul, reduceCtorEq]
      have kz : Kp S v (vu w (r + (4 + 6 * m)) x y) := kw.vuc (by rw [hs'.m _ hm.1 hm4]; rfl)
      have hMz := hMo.keep kz
      have zM : ∀ a k, b + 889 ≤ a → vu w (r + (4 + 6 * m)) x y a k = v a k := fun a k ha => by rw [vu_ne (by omega)]; exact hf _ _ (by omega) (by omega)
      have zc : ∀ a k, a ≠ r + (4 + 6 * m) → vu w (r + (4 + 6 * m)) x y a k = w a k := fun a k ha => vu_ne (fun q => ha q.1)
      have wP : ∀ a k, (a = P ∨ (P + 9 ≤ a ∧ a ≤ P + 16)) → w a k = v a k := fun a k ha => by
        have := h.2.1.2.2
        exact hf _ _ (by omega) (by omega)
      have hSw : SR w P r (v (b + 889 + 1)) := SR.cong hn.1 hn.2 wP hD (fun _ _ _ => rfl) t
      have hnw : w P 1 ≤ 4 ∧ w P 2 ≤ 4 := by rw [wP _ _ (Or.inl rfl), wP _ _ (Or.inl rfl)]; exact hn
      have ewt : ∀ k, 0 ≤ k → k < 10 → w (r + (4 + 6 * m)) k = v (s + (4 + 6 * m)) k := fun k k0 k1 => (hD.2.1 m hm.1 hm4).1 k k0 k1
      have hTw : cT w (r + (4 + 6 * m)) x y := by
        unfold cT at hT ⊢
        rw [ewt 1 (by decide) (by decide), ewt 2 (by decide) (by decide)]
        exact hT
      have hzz : ∀ g : Int → Int, (∀ k, k ≠ 3 + 12 * m + x → g k = v (b + 889 + 1) k) → g (3 + 12 * m + x) = y → SR (vu w (r + (4 + 6 * m)) x y) P r g := fun g g1 g2 => SR.turn g1 g2 hnw (by have := h.2.1.2.2; omega) hSw (by rw [wP _ _ (Or.inl rfl)]; exact hm) hTw
      have hwx : w (r + (4 + 6 * m)) x = v (s + (4 + 6 * m)) x := ewt x (by omega) (by omega)
      rw [hwx]
      have zq5 : vu w (r + (4 + 6 * m)) x y b 5 = (v b 5 + 1) % 13 := (zc _ _ (by omega)).trans c5
      have zq6 : vu w (r + (4 + 6 * m)) x y b 6 = if v b 6 = 12 then 12 else v b 6 + 1 := (zc _ _ (by omega)).trans c6
      have zq7 : vu w (r + (4 + 6 * m)) x y b 7 = 0 := (zc _ _ (by omega)).trans c7
      have zf : ∀ a k, a < b + 889 → (a = b → k ≠ 5 ∧ k ≠ 6 ∧ k ≠ 7) → (a < r ∨ r + 56 ≤ a) → vu w (r + (4 + 6 * m)) x y a k = v a k := fun a k _ h2 h3 => (zc _ _ (by omega)).trans (hf _ _ h2 h3)
      generalize vu w (r + (4 + 6 * m)) x y = z at *
      -- the reference, from z
      have hz28 : z (b + 889) 28 = B := (zM _ _ (by omega)).trans h.2.2.1.1
      have zU : ∀ j k, 0 ≤ j → z (b + 889 + j) k = v (b + 889 + j) k := fun j k hj => zM _ _ (by omega)
      have hRMz : RM S z (b + 889) B := by
        obtain ⟨r1, r2, r3, r4, r5, r6, r7, r8, r9⟩ := h.rm
        refine ⟨hMz, hz28, r3, ?_, ?_, ?_, ?_, ?_, ?_⟩
        · rw [zU 2 _ (by decide)]; exact r4
        · rw [zU 3 _ (by decide)]; exact r5
        · rw [zU 4 _ (by decide)]; exact r6
        · rw [zU 4 _ (by decide)]
          simp only [zU 15 _ (show (0 : Int) ≤ 15 by decide), zU 1 _ (show (0 : Int) ≤ 1 by decide)]
          exact r7
        · rw [zU 1 _ (by decide)]; exact r8
        · rw [zU 1 _ (by decide), zU 1 _ (by decide), zU 2 _ (by decide)]; exact r9
      have hcz := m_canTurn hRMz (m := m) (x := x) (y := y)
      rw [zU 3 _ (by decide), zU 1 _ (by decide), zU 1 _ (by decide), if_pos ⟨hmm, hcm.mpr hT⟩] at hcz
      simp only [mX12_turn, sX12_turn, wE_I, wE_V, wE_F, wE_A, wE_N, wE_1, wE_2, wE_D, wE_B, wE_If, wE_C, wE_CV, wE_SL, wE_SA, wA_0, wA_1, wC_B, wC_E, wC_And, wC_Or, wC_Not, wS_Skip, wS_Brk, wS_Cnt, wS_RetV, wS_Ret, wS_Seq, wS_Set, wS_Inc, wS_Do, wS_Put, wS_PutC, wS_Arr, wS_ArrC, wS_If, wS_Sw, wS_F0, wS_F1, wM_q, lu_ap, aL_ap, ct_0, ct_1, ct_2, ct_3, ct_4, ct_5, headD_1, List.mem_cons, List.not_mem_nil, or_false, false_or, or_true, true_or, true_and, and_true, false_and, and_false, not_true_eq_false, not_false_eq_true, if_true, if_false, nr_20, nr_24, nr_40, nr_41, nr_44, pt_lt, pt_ge, pt_eq, pt_ne, pt_gt, pt_le, pt_E, pt_N, pt_F, ite_10, ite_11, ne_eq, and_self, or_self, decide_true, decide_false, Bool.not_true, Bool.not_false, Bool.false_eq_true, Nat.reduceEqDiff, Nat.reduceAdd, Int.reduceEq, Int.reduceLT, Int.reduceLE, Int.reduceNeg, Int.reduceAdd, Int.reduceSub, Int.reduceMul, reduceCtorEq, iA, iS, iM, iD, iR, iN, lA, lS, lM, lD, lR, hMz.k, wM_of hcz]
      have z58 : z (b + 889) 58 = v b 6 := (zM _ _ (by omega)).trans h.2.2.2.2.2.2.1.1.symm
      have hu := h.2.2.2.2.2.2.1
      refine wM_mono (m_keepAct hMz (by rw [z58]; omega) (q := if v b 6 = 12 then 11 else v b 6) (d := if v b 6 = 12 then 1095 else 0) (by rw [z58]) (by rw [z58])) ?_
      rintro r0 z2 e2 ⟨⟨a1, a2⟩, a3, a4, a5⟩
      have kz2 := kz.tr (Km.of kX12_keepAct e2).p
      have hMz2 := hMo.keep kz2
      have hx12 : 0 ≤ x ∧ x < 12 := by omega
      have hmb : 0 ≤ m ∧ m < 4 := ⟨hm.1, hm4⟩
      have o1 : 0 ≤ 3 + 12 * m + x ∧ 3 + 12 * m + x < 1095 := by omega
      have z2f : z2 (b + 889 + 1) (3 + 12 * m + x) = v (b + 889 + 1) (3 + 12 * m + x) := (a5 _ _ (by omega) (by omega)).trans (zU 1 _ (by decide))
      simp only [hMz2.k, hMz2.p0, hMz2.a1, hMz2.n1, wM_of (m_atMeasure hmb hx12), o1, z2f, wE_I, wE_V, wE_F, wE_A, wE_N, wE_1, wE_2, wE_D, wE_B, wE_If, wE_C, wE_CV, wE_SL, wE_SA, wA_0, wA_1, wC_B, wC_E, wC_And, wC_Or, wC_Not, wS_Skip, wS_Brk, wS_Cnt, wS_RetV, wS_Ret, wS_Seq, wS_Set, wS_Inc, wS_Do, wS_Put, wS_PutC, wS_Arr, wS_ArrC, wS_If, wS_Sw, wS_F0, wS_F1, wM_q, lu_ap, aL_ap, ct_0, ct_1, ct_2, ct_3, ct_4, ct_5, headD_1, List.mem_cons, List.not_mem_nil, or_false, false_or, or_true, true_or, true_and, and_true, false_and, and_false, not_true_eq_false, not_false_eq_true, if_true, if_false, nr_20, nr_24, nr_40, nr_41, nr_44, pt_lt, pt_ge, pt_eq, pt_ne, pt_gt, pt_le, pt_E, pt_N, pt_F, ite_10, ite_11, ne_eq, and_self, or_self, decide_true, decide_false, Bool.not_true, Bool.not_false, Bool.false_eq_true, Nat.reduceEqDiff, Nat.reduceAdd, Int.reduceEq, Int.reduceLT, Int.reduceLE, Int.reduceNeg, Int.reduceAdd, Int.reduceSub, Int.reduceMul, reduceCtorEq]
      have hold : v (s + (4 + 6 * m)) x = v (b + 889 + 1) (3 + 12 * m + x) ∧ 0 ≤ v (s + (4 + 6 * m)) x ∧ v (s + (4 + 6 * m)) x ≤ 999999 := by
        obtain ⟨q1, q2, -⟩ := tm
        rcases hxx with rfl | rfl | rfl <;> omega
      have er : v (s + (4 + 6 * m)) x = w32 (v (b + 889 + 1) (3 + 12 * m + x)) := by rw [← hold.1]; exact (w32_e (by omega)).symm
      have ku : Kp S v (vu z2 (b + 889 + 1) (3 + 12 * m + x) y) := kz2.tr (Km.vu Km.rf (by rw [hMz2.a1]; rfl)).p
      have uo : ∀ a k, a ≠ b + 889 + 1 → vu z2 (b + 889 + 1) (3 + 12 * m + x) y a k = z2 a k := fun a k ha => vu_ne (fun q => ha q.1)
      have uf : ∀ k, k ≠ 3 + 12 * m + x → vu z2 (b + 889 + 1) (3 + 12 * m + x) y (b + 889 + 1) k = v (b + 889 + 1) k := fun k hk => by
        rw [vu_ne (fun q => hk q.2), a5 _ _ (by omega) (by omega)]
        exact zU 1 _ (by decide)
      have ux : vu z2 (b + 889 + 1) (3 + 12 * m + x) y (b + 889 + 1) (3 + 12 * m + x) = y := vu_is
      generalize vu z2 (b + 889 + 1) (3 + 12 * m + x) y = u at *
      refine ⟨er, P, B, _, act_RR h ku (fun a k g0 g1 g2 g3 => ?_) ?_ ?_ ?_ (fun a k g0 g1 g2 g3 g4 => ?_) ?_ ?_ (fun i i0 i1 => ?_) (fun k k0 k1 => ?_) ?_⟩
      · rw [uo _ _ (by omega), a5 _ _ (by omega) (by omega)]
        exact zf a k g0 g1 (by omega)
      · rw [uo _ _ (by omega), a5 _ _ (by omega) (by omega)]; exact zq5
      · rw [uo _ _ (by omega), a5 _ _ (by omega) (by omega)]; exact zq6
      · rw [uo _ _ (by omega), a5 _ _ (by omega) (by omega)]; exact zq7
      · rw [uo _ _ g2, a5 _ _ g1 g4]
        exact zM _ _ g0
      · rw [uo _ _ (by omega), a1]
        split <;> omega
      · rw [uo _ _ (by omega), a2]
      · rw [uo _ _ (by omega), a3 i i0 i1]
        exact zM _ _ (by omega)
      · rw [uo _ _ (by omega), a4 k k0 k1]
        exact zM _ _ (by omega)
      · rw [← hr]
        have uP : ∀ a k, (a = P ∨ (P + 9 ≤ a ∧ a ≤ P + 16)) → u a k = z a k := fun a k ha => by
          have := h.2.1.2.2
          rw [uo _ _ (by omega), a5 _ _ (by omega) (by omega)]
        have hnz : z P 1 ≤ 4 ∧ z P 2 ≤ 4 := by
          have := h.2.1.2.2
          rw [zf P 1 (by omega) (by omega) (by omega), zf P 2 (by omega) (by omega) (by omega)]; exact hn
        exact SR.q hnz uP (fun a k g0 g1 => by rw [uo _ _ (by omega), a5 _ _ (by omega) (by omega)]) (fun _ _ _ => rfl) (hzz _ uf ux)
    · have e1 : mX11_turn [b, m, x, y] S v = some (-1, v) := by
        apply wM_eq
        simp only [mX11_turn, sX11_turn, wE_I, wE_V, wE_F, wE_A, wE_N, wE_1, wE_2, wE_D, wE_B, wE_If, wE_C, wE_CV, wE_SL, wE_SA, wA_0, wA_1, wC_B, wC_E, wC_And, wC_Or, wC_Not, wS_Skip, wS_Brk, wS_Cnt, wS_RetV, wS_Ret, wS_Seq, wS_Set, wS_Inc, wS_Do, wS_Put, wS_PutC, wS_Arr, wS_ArrC, wS_If, wS_Sw, wS_F0, wS_F1, wM_q, lu_ap, aL_ap, ct_0, ct_1, ct_2, ct_3, ct_4, ct_5, headD_1, List.mem_cons, List.not_mem_nil, or_false, false_or, or_true, true_or, true_and, and_true, false_and, and_false, not_true_eq_false, not_false_eq_true, if_true, if_false, nr_20, nr_24, nr_40, nr_41, nr_44, pt_lt, pt_ge, pt_eq, pt_ne, pt_gt, pt_le, pt_E, pt_N, pt_F, ite_10, ite_11, ne_eq, and_self, or_self, decide_true, decide_false, Bool.not_true, Bool.not_false, Bool.false_eq_true, Nat.reduceEqDiff, Nat.reduceAdd, Int.reduceEq, Int.reduceLT, Int.reduceLE, Int.reduceNeg, Int.reduceAdd, Int.reduceSub, Int.reduceMul, reduceCtorEq, iA, iS, iM, iD, iR, iN, lA, lS, lM, lD, lR, hC.k, wM_of (q_isMeasure h.rc), hm, wM_of (q_now h.rc), hst.k, hst.p2, hst.a1, hst.n1, hst.em _ hm.1 hm4, hm4, hst.m _ hm.1 hm4, wM_of (q_canTurn (hst.m _ hm.1 hm4)), hT]
      have e2 : mX12_turn [b + 889, m, x, y] S v = some (-1, v) := by
        have hc := m_canTurn h.rm (m := m) (x := x) (y := y)
        rw [if_neg (fun q => hT (hcm.mp q.2))] at hc
        apply wM_eq
        simp only [mX12_turn, sX12_turn, wE_I, wE_V, wE_F, wE_A, wE_N, wE_1, wE_2, wE_D, wE_B, wE_If, wE_C, wE_CV, wE_SL, wE_SA, wA_0, wA_1, wC_B, wC_E, wC_And, wC_Or, wC_Not, wS_Skip, wS_Brk, wS_Cnt, wS_RetV, wS_Ret, wS_Seq, wS_Set, wS_Inc, wS_Do, wS_Put, wS_PutC, wS_Arr, wS_ArrC, wS_If, wS_Sw, wS_F0, wS_F1, wM_q, lu_ap, aL_ap, ct_0, ct_1, ct_2, ct_3, ct_4, ct_5, headD_1, List.mem_cons, List.not_mem_nil, or_false, false_or, or_true, true_or, true_and, and_true, false_and, and_false, not_true_eq_false, not_false_eq_true, if_true, if_false, nr_20, nr_24, nr_40, nr_41, nr_44, pt_lt, pt_ge, pt_eq, pt_ne, pt_gt, pt_le, pt_E, pt_N, pt_F, ite_10, ite_11, ne_eq, and_self, or_self, decide_true, decide_false, Bool.not_true, Bool.not_false, Bool.false_eq_true, Nat.reduceEqDiff, Nat.reduceAdd, Int.reduceEq, Int.reduceLT, Int.reduceLE, Int.reduceNeg, Int.reduceAdd, Int.reduceSub, Int.reduceMul, reduceCtorEq, iA, iS, iM, iD, iR, iN, lA, lS, lM, lD, lR, hMo.k, wM_of hc]
      rw [wM_of e1, wM_of e2]
      exact ⟨rfl, hX⟩
  · have e1 : mX11_turn [b, m, x, y] S v = some (-1, v) := by
      apply wM_eq
      simp only [mX11_turn, sX11_turn, wE_I, wE_V, wE_F, wE_A, wE_N, wE_1, wE_2, wE_D, wE_B, wE_If, wE_C, wE_CV, wE_SL, wE_SA, wA_0, wA_1, wC_B, wC_E, wC_And, wC_Or, wC_Not, wS_Skip, wS_Brk, wS_Cnt, wS_RetV, wS_Ret, wS_Seq, wS_Set, wS_Inc, wS_Do, wS_Put, wS_PutC, wS_Arr, wS_ArrC, wS_If, wS_Sw, wS_F0, wS_F1, wM_q, lu_ap, aL_ap, ct_0, ct_1, ct_2, ct_3, ct_4, ct_5, headD_1, List.mem_cons, List.not_mem_nil, or_false, false_or, or_true, true_or, true_and, and_true, false_and, and_false, not_true_eq_false, not_false_eq_true, if_true, if_false, nr_20, nr_24, nr_40, nr_41, nr_44, pt_lt, pt_ge, pt_eq, pt_ne, pt_gt, pt_le, pt_E, pt_N, pt_F, ite_10, ite_11, ne_eq, and_self, or_self, decide_true, decide_false, Bool.not_true, Bool.not_false, Bool.false_eq_true, Nat.reduceEqDiff, Nat.reduceAdd, Int.reduceEq, Int.reduceLT, Int.reduceLE, Int.reduceNeg, Int.reduceAdd, Int.reduceSub, Int.reduceMul, reduceCtorEq, iA, iS, iM, iD, iR, iN, lA, lS, lM, lD, lR, hC.k, wM_of (q_isMeasure h.rc), hm]
    have e2 : mX12_turn [b + 889, m, x, y] S v = some (-1, v) := by
      have hc := m_canTurn h.rm (m := m) (x := x) (y := y)
      rw [if_neg (fun q => hm (by rw [← h.e3]; exact q.1))] at hc
      apply wM_eq
      simp only [mX12_turn, sX12_turn, wE_I, wE_V, wE_F, wE_A, wE_N, wE_1, wE_2, wE_D, wE_B, wE_If, wE_C, wE_CV, wE_SL, wE_SA, wA_0, wA_1, wC_B, wC_E, wC_And, wC_Or, wC_Not, wS_Skip, wS_Brk, wS_Cnt, wS_RetV, wS_Ret, wS_Seq, wS_Set, wS_Inc, wS_Do, wS_Put, wS_PutC, wS_Arr, wS_ArrC, wS_If, wS_Sw, wS_F0, wS_F1, wM_q, lu_ap, aL_ap, ct_0, ct_1, ct_2, ct_3, ct_4, ct_5, headD_1, List.mem_cons, List.not_mem_nil, or_false, false_or, or_true, true_or, true_and, and_true, false_and, and_false, not_true_eq_false, not_false_eq_true, if_true, if_false, nr_20, nr_24, nr_40, nr_41, nr_44, pt_lt, pt_ge, pt_eq, pt_ne, pt_gt, pt_le, pt_E, pt_N, pt_F, ite_10, ite_11, ne_eq, and_self, or_self, decide_true, decide_false, Bool.not_true, Bool.not_false, Bool.false_eq_true, Nat.reduceEqDiff, Nat.reduceAdd, Int.reduceEq, Int.reduceLT, Int.reduceLE, Int.reduceNeg, Int.reduceAdd, Int.reduceSub, Int.reduceMul, reduceCtorEq, iA, iS, iM, iD, iR, iN, lA, lS, lM, lD, lR, hMo.k, wM_of hc]
    rw [wM_of e1, wM_of e2]
    exact ⟨rfl, hX⟩
end GB
