/-! STORE: a whole formula, the reference's -/
section MG
variable {S : QS} {u v w w' u0 : QV} {M T n x B l nm op un : Int} {ns : Nat} {β : Int → Int} {st st' : List Int} {c c' : Int → Int} {l2 i : Int} {o : Int × Int}
theorem MQf.p44 (h : MQf u0 M B l (40 :: st) c l2 un op w) : MQf u0 M B l st c l2 un op (vu w M 44 st.length) := by
  obtain ⟨h1, ⟨r1, r2, r3, r4⟩, h3, h4⟩ := h
  simp only [List.length_cons] at r1 r2
  refine ⟨fun a k p1 p2 p3 p4 => ?_, ⟨vu_is, fun k hk => ?_, by rw [vu_ne (by omega)]; exact r3, fun k k0 k1 => by rw [vu_ne (by omega)]; exact r4 k k0 k1⟩, by rw [vu_ne (by omega)]; exact h3, by rw [vu_ne (by simp)]; exact h4⟩
  · rw [vu_ne (fun e => (p1 e.1).2.1 e.2)]
    exact h1 a k p1 p2 p3 p4
  · rw [vu_ne (by omega)]
    have := r2 (k + 1) (by omega)
    rw [show ((st.length + 1 : Nat) : Int) - 1 - ((k + 1 : Nat) : Int) = (st.length : Int) - 1 - k by omega] at this
    exact this
theorem MQf.p45 {z : Int} (h : MQf u0 M B l st c l2 un op w) : MQf u0 M B l st c l2 un z (vu w M 45 z) := by
  obtain ⟨h1, ⟨r1, r2, r3, r4⟩, h3, h4⟩ := h
  refine ⟨fun a k p1 p2 p3 p4 => ?_, ⟨by rw [vu_ne (by simp)]; exact r1, fun k hk => by rw [vu_ne (by omega)]; exact r2 k hk, by rw [vu_ne (by omega)]; exact r3, fun k k0 k1 => by rw [vu_ne (by omega)]; exact r4 k k0 k1⟩, by rw [vu_ne (by omega)]; exact h3, vu_is⟩
  rw [vu_ne (fun e => (p1 e.1).2.2 e.2)]
  exact h1 a k p1 p2 p3 p4
/-- what comes of the main loop -/
def mgE (S : QS) (v u0 : QV) (T M n B l nm : Int) (ns : Nat) (RES : (Int × Int) × (Int → Int) × Int × Int) (L : QL) (w : QV) : Prop := (∃ st c l2 un op, Mm S v T M n (MQf u0 M B l st c l2 un op) w RES.1 ∧ ¬ RES.1.1 = 0) ∨ (∃ st c l2 un op i, L 3 = 0 ∧ Mm S v T M n (MQf u0 M B l st c l2 un op) w (0, i) ∧ fV st c l2 op un 1 l nm ns ∧ RES = if 0 < op then ((1, i), c, l2, un) else ((0, i), (fRl 1 st c l2).2.1, (fRl 1 st c l2).2.2, un))
theorem m_mainF (hc : CX v M T n) (hB : B = 0 ∨ B = 1) {i0 : Int} (h : Mm S v T M n (MQf u0 M B l [] c l un 0) w (0, i0)) (hu : ∀ q k, T ≤ q → q ≤ T + 4 → u q k = v q k) (hR : NR u u0 T x M) (hβ : ∀ i r, (0 ≤ i ∧ i < nTk v T) → kdT v T i = 4 → isBe u T x i r → r = β i) (hun : 0 ≤ un ∧ un ≤ 30) (hl : 0 ≤ l ∧ l ≤ 2 * un) (hb : bOk v T β nm ns) (hend : kdT v T (nTk v T - 1) = 1) {RES : (Int × Int) × (Int → Int) × Int × Int} (hRS : RES = fmG v T β (nTk v T - i0).toNat [] c l 0 un true i0) {L : QL} (m0 : L 0 = M) (m1 : L 1 = B) (m2 : L 2 = 1) (m3 : L 3 = 1) : wS (sWhile cX12_readUnits_1 bX12_readUnits_1 uX12_readUnits_1) L S w (fun k _ L' w' => k = 0 ∧ (L' 0 = M ∧ L' 1 = B) ∧ mgE S v u0 T M n B l nm ns RES L' w') := by
  have hi0 := h.1.1
  dsimp only at hi0
  have hT5 : nTk v T ≤ 1001 := hc.1.1.2
  have hV0 : fV [] c l 0 un (if true then 0 else 1) l nm ns := by
    refine ⟨fun s hs => absurd hs (by simp), rfl, ⟨by simp; omega, hun.2⟩, by simp only [cO, if_true]; omega, ⟨hl.1, Int.le_refl _⟩, ?_, fun j hj => by omega⟩
    rw [show (l - l).toNat = 0 by omega]
    rfl
  refine wS_While (fun k L' w' => (L' 0 = M ∧ L' 1 = B) ∧ (mgE S v u0 T M n B l nm ns RES L' w' ∨ ∃ (st : List Int) (c : Int → Int) (l2 op un : Int) (wt : Bool) (i : Int), (L' 2 = (if wt then 1 else 0) ∧ L' 3 = 1) ∧ ((k : Int) = nTk v T - i ∧ 0 ≤ i) ∧ Mm S v T M n (MQf u0 M B l st c l2 un op) w' (0, i) ∧ fV st c l2 op un (if wt then 0 else 1) l nm ns ∧ RES = fmG v T β k st c l2 op un wt i)) (nTk v T - i0).toNat (by omega) ?_ ?_
  · exact ⟨⟨m0, m1⟩, Or.inr ⟨[], c, l, 0, un, true, i0, ⟨by simp [m2], m3⟩, by omega, h, hV0, hRS⟩⟩
  · clear hRS hV0 h hl hun m0 m1 m2 m3
    rintro k L w1 ⟨⟨m0, m1⟩, hE | ⟨st, c, l2, op, un, wt, i, ⟨m2, m3⟩, ⟨hk, hii⟩, hM, hV, hR'⟩⟩
    · rcases id hE with ⟨st, c, l2, un, op, hm, hd⟩ | ⟨st, c, l2, un, op, i, h3, hm, -, -⟩
      · have h37 : ¬ w1 M 37 = 0 := by have := hm.dead hd; omega
        simp only [cX12_readUnits_1, wE_I, wE_V, wE_F, wE_A, wE_N, wE_1, wE_2, wE_D, wE_B, wE_If, wE_C, wE_CV, wE_SL, wE_SA, wA_0, wA_1, wC_B, wC_E, wC_And, wC_Or, wC_Not, wS_Skip, wS_Brk, wS_Cnt, wS_RetV, wS_Ret, wS_Seq, wS_Set, wS_Inc, wS_Do, wS_Put, wS_PutC, wS_Arr, wS_ArrC, wS_If, wS_Sw, wS_F0, wS_F1, wM_q, lu_ap, aL_ap, ct_0, ct_1, ct_2, ct_3, ct_4, ct_5, headD_1, List.mem_cons, List.not_mem_nil, or_false, false_or, or_true, true_or, true_and, and_true, false_and, and_false, not_true_eq_false, not_false_eq_true, if_true, if_false, nr_20, nr_24, nr_40, nr_41, nr_44, pt_lt, pt_ge, pt_eq, pt_ne, pt_gt, pt_le, pt_E, pt_N, pt_F, ite_10, ite_11, ne_eq, and_self, or_self, decide_true, decide_false, Bool.not_true, Bool.not_false, Bool.false_eq_true, Nat.reduceEqDiff, Nat.reduceAdd, Int.reduceEq, Int.reduceLT, Int.reduceLE, Int.reduceNeg, Int.reduceAdd, Int.reduceSub, Int.reduceMul, reduceCtorEq, iA, iS, iM, iD, iR, iN, lA, lS, lM, lD, lR, m0, m1, hm.2.1.1.k, h37]
        exact hE
      · have h37 := hm.live
        simp only [cX12_readUnits_1, wE_I, wE_V, wE_F, wE_A, wE_N, wE_1, wE_2, wE_D, wE_B, wE_If, wE_C, wE_CV, wE_SL, wE_SA, wA_0, wA_1, wC_B, wC_E, wC_And, wC_Or, wC_Not, wS_Skip, wS_Brk, wS_Cnt, wS_RetV, wS_Ret, wS_Seq, wS_Set, wS_Inc, wS_Do, wS_Put, wS_PutC, wS_Arr, wS_ArrC, wS_If, wS_Sw, wS_F0, wS_F1, wM_q, lu_ap, aL_ap, ct_0, ct_1, ct_2, ct_3, ct_4, ct_5, headD_1, List.mem_cons, List.not_mem_nil, or_false, false_or, or_true, true_or, true_and, and_true, false_and, and_false, not_true_eq_false, not_false_eq_true, if_true, if_false, nr_20, nr_24, nr_40, nr_41, nr_44, pt_lt, pt_ge, pt_eq, pt_ne, pt_gt, pt_le, pt_E, pt_N, pt_F, ite_10, ite_11, ne_eq, and_self, or_self, decide_true, decide_false, Bool.not_true, Bool.not_false, Bool.false_eq_true, Nat.reduceEqDiff, Nat.reduceAdd, Int.reduceEq, Int.reduceLT, Int.reduceLE, Int.reduceNeg, Int.reduceAdd, Int.reduceSub, Int.reduceMul, reduceCtorEq, iA, iS, iM, iD, iR, iN, lA, lS, lM, lD, lR, m0, m1, hm.2.1.1.k, h37, h3]
        exact hE
    · have hw := hM.2.1.1
      have hi := hM.1.1
      dsimp only at hi
      obtain ⟨k, rfl⟩ : ∃ k', k = k' + 1 := ⟨k - 1, by omega⟩
      have h37 := hM.live
      have lt : k < k + 1 := Nat.lt_succ_self k
      have nk : (k : Int) = nTk v T - (i + 1) ∧ 0 ≤ i + 1 := by omega
      obtain ⟨v1, v2, ⟨v3, v4⟩, v5, v6, v7, v8⟩ := id hV
      have hcn := cO_n st
      have hcp := cP_n st
      have hcl := cP_len st
      cases wt with
      | true =>
        have m2t : L 2 = 1 := m2
        simp only [fmG] at hR'
        simp only [cX12_readUnits_1, bX12_readUnits_1, wE_I, wE_V, wE_F, wE_A, wE_N, wE_1, wE_2, wE_D, wE_B, wE_If, wE_C, wE_CV, wE_SL, wE_SA, wA_0, wA_1, wC_B, wC_E, wC_And, wC_Or, wC_Not, wS_Skip, wS_Brk, wS_Cnt, wS_RetV, wS_Ret, wS_Seq, wS_Set, wS_Inc, wS_Do, wS_Put, wS_PutC, wS_Arr, wS_ArrC, wS_If, wS_Sw, wS_F0, wS_F1, wM_q, lu_ap, aL_ap, ct_0, ct_1, ct_2, ct_3, ct_4, ct_5, headD_1, List.mem_cons, List.not_mem_nil, or_false, false_or, or_true, true_or, true_and, and_true, false_and, and_false, not_true_eq_false, not_false_eq_true, if_true, if_false, nr_20, nr_24, nr_40, nr_41, nr_44, pt_lt, pt_ge, pt_eq, pt_ne, pt_gt, pt_le, pt_E, pt_N, pt_F, ite_10, ite_11, ne_eq, and_self, or_self, decide_true, decide_false, Bool.not_true, Bool.not_false, Bool.false_eq_true, Nat.reduceEqDiff, Nat.reduceAdd, Int.reduceEq, Int.reduceLT, Int.reduceLE, Int.reduceNeg, Int.reduceAdd, Int.reduceSub, Int.reduceMul, reduceCtorEq, iA, iS, iM, iD, iR, iN, lA, lS, lM, lD, lR, m0, m1, m2t, m3, hw.k, h37]
        refine wM_mono (m_readUnit hc hB hM hu hR (fun r a b => hβ i r hi a b) hV hb) ?_
        rintro r w2 e (⟨g0, hA, hBB⟩ | ⟨g0, rfl, hC⟩)
        · rw [if_pos g0] at hR'
          obtain ⟨gk, gu, go⟩ := fUn_0 g0
          by_cases k40 : kdT v T i = 40
          · rw [if_pos k40] at hR'
            obtain ⟨rfl, hm⟩ := hA k40
            have hV2 := fV.opn hV gu
            simp only [uX12_readUnits_1, wE_I, wE_V, wE_F, wE_A, wE_N, wE_1, wE_2, wE_D, wE_B, wE_If, wE_C, wE_CV, wE_SL, wE_SA, wA_0, wA_1, wC_B, wC_E, wC_And, wC_Or, wC_Not, wS_Skip, wS_Brk, wS_Cnt, wS_RetV, wS_Ret, wS_Seq, wS_Set, wS_Inc, wS_Do, wS_Put, wS_PutC, wS_Arr, wS_ArrC, wS_If, wS_Sw, wS_F0, wS_F1, wM_q, lu_ap, aL_ap, ct_0, ct_1, ct_2, ct_3, ct_4, ct_5, headD_1, List.mem_cons, List.not_mem_nil, or_false, false_or, or_true, true_or, true_and, and_true, false_and, and_false, not_true_eq_false, not_false_eq_true, if_true, if_false, nr_20, nr_24, nr_40, nr_41, nr_44, pt_lt, pt_ge, pt_eq, pt_ne, pt_gt, pt_le, pt_E, pt_N, pt_F, ite_10, ite_11, ne_eq, and_self, or_self, decide_true, decide_false, Bool.not_true, Bool.not_false, Bool.false_eq_true, Nat.reduceEqDiff, Nat.reduceAdd, Int.reduceEq, Int.reduceLT, Int.reduceLE, Int.reduceNeg, Int.reduceAdd, Int.reduceSub, Int.reduceMul, reduceCtorEq]
            exact ⟨k, lt, ⟨by simp [lu_ap, m0], by simp [lu_ap, m1]⟩, Or.inr ⟨_, _, _, _, _, true, i + 1, ⟨by simp [lu_ap], by simp [lu_ap, m3]⟩, nk, hm, hV2, hR'⟩⟩
          · rw [if_neg k40] at hR'
            obtain ⟨rfl, hm⟩ := hBB k40
            have hV2 : fV st (fu c l2 (cdU v T β i)) (l2 + 1) op (un + 1) 1 l nm ns := fV.cd hV gu (cdU_b hb hi g0 k40)
            simp only [uX12_readUnits_1, wE_I, wE_V, wE_F, wE_A, wE_N, wE_1, wE_2, wE_D, wE_B, wE_If, wE_C, wE_CV, wE_SL, wE_SA, wA_0, wA_1, wC_B, wC_E, wC_And, wC_Or, wC_Not, wS_Skip, wS_Brk, wS_Cnt, wS_RetV, wS_Ret, wS_Seq, wS_Set, wS_Inc, wS_Do, wS_Put, wS_PutC, wS_Arr, wS_ArrC, wS_If, wS_Sw, wS_F0, wS_F1, wM_q, lu_ap, aL_ap, ct_0, ct_1, ct_2, ct_3, ct_4, ct_5, headD_1, List.mem_cons, List.not_mem_nil, or_false, false_or, or_true, true_or, true_and, and_true, false_and, and_false, not_true_eq_false, not_false_eq_true, if_true, if_false, nr_20, nr_24, nr_40, nr_41, nr_44, pt_lt, pt_ge, pt_eq, pt_ne, pt_gt, pt_le, pt_E, pt_N, pt_F, ite_10, ite_11, ne_eq, and_self, or_self, decide_true, decide_false, Bool.not_true, Bool.not_false, Bool.false_eq_true, Nat.reduceEqDiff, Nat.reduceAdd, Int.reduceEq, Int.reduceLT, Int.reduceLE, Int.reduceNeg, Int.reduceAdd, Int.reduceSub, Int.reduceMul, reduceCtorEq]
            exact ⟨k, lt, ⟨by simp [lu_ap, m0], by simp [lu_ap, m1]⟩, Or.inr ⟨_, _, _, _, _, false, i + 1, ⟨by simp [lu_ap], by simp [lu_ap, m3]⟩, nk, hm, hV2, hR'⟩⟩
        · rw [if_neg g0] at hR'
          subst hR'
          simp only [uX12_readUnits_1, wE_I, wE_V, wE_F, wE_A, wE_N, wE_1, wE_2, wE_D, wE_B, wE_If, wE_C, wE_CV, wE_SL, wE_SA, wA_0, wA_1, wC_B, wC_E, wC_And, wC_Or, wC_Not, wS_Skip, wS_Brk, wS_Cnt, wS_RetV, wS_Ret, wS_Seq, wS_Set, wS_Inc, wS_Do, wS_Put, wS_PutC, wS_Arr, wS_ArrC, wS_If, wS_Sw, wS_F0, wS_F1, wM_q, lu_ap, aL_ap, ct_0, ct_1, ct_2, ct_3, ct_4, ct_5, headD_1, List.mem_cons, List.not_mem_nil, or_false, false_or, or_true, true_or, true_and, and_true, false_and, and_false, not_true_eq_false, not_false_eq_true, if_true, if_false, nr_20, nr_24, nr_40, nr_41, nr_44, pt_lt, pt_ge, pt_eq, pt_ne, pt_gt, pt_le, pt_E, pt_N, pt_F, ite_10, ite_11, ne_eq, and_self, or_self, decide_true, decide_false, Bool.not_true, Bool.not_false, Bool.false_eq_true, Nat.reduceEqDiff, Nat.reduceAdd, Int.reduceEq, Int.reduceLT, Int.reduceLE, Int.reduceNeg, Int.reduceAdd, Int.reduceSub, Int.reduceMul, reduceCtorEq]
          exact ⟨k, lt, ⟨by simp [lu_ap, m0], by simp [lu_ap, m1]⟩, Or.inl (Or.inl ⟨_, _, _, _, _, hC, g0⟩)⟩
      | false =>
        have m2f : L 2 = 0 := m2
        simp only [fmG] at hR'
        have hlen : st.length < 60 := by simp at v3; omega
        have hbo : 0 ≤ l2 ∧ l2 + cO st ≤ 60 := by simp at v5; omega
        have hat := m_isAtO hc hM.2.1 hM.1 (s := 41) (by unfold isSg; omega)
        simp only [true_and] at hat
        have hbt := m_between hc hM.2.1 hM.1
        have h45 := hM.2.2.2.2.2
        have hmr := hM.2.2.2.1
        by_cases c0 : 0 < rkS (kdT v T i)
        · rw [if_pos c0] at hR' hbt
          have hop := rkS_p.mp c0
          have k41 : ¬ kdT v T i = 41 := fun z => by rw [z] at hop; unfold isOp at hop; omega
          rw [if_neg k41] at hat
          have hcv : ¬ cvS (kdT v T i) = -1 := by have := cv_b hop; omega
          obtain ⟨g1, g2, g3, g4⟩ := fRl_v c0 _ _ _ hV
          have hpu := m_push (z := kdT v T i) (l0 := l) hw hB hmr v1 (Or.inl ⟨hop, rfl⟩) hbo hlen v6.2
          simp only [cX12_readUnits_1, bX12_readUnits_1, wE_I, wE_V, wE_F, wE_A, wE_N, wE_1, wE_2, wE_D, wE_B, wE_If, wE_C, wE_CV, wE_SL, wE_SA, wA_0, wA_1, wC_B, wC_E, wC_And, wC_Or, wC_Not, wS_Skip, wS_Brk, wS_Cnt, wS_RetV, wS_Ret, wS_Seq, wS_Set, wS_Inc, wS_Do, wS_Put, wS_PutC, wS_Arr, wS_ArrC, wS_If, wS_Sw, wS_F0, wS_F1, wM_q, lu_ap, aL_ap, ct_0, ct_1, ct_2, ct_3, ct_4, ct_5, headD_1, List.mem_cons, List.not_mem_nil, or_false, false_or, or_true, true_or, true_and, and_true, false_and, and_false, not_true_eq_false, not_false_eq_true, if_true, if_false, nr_20, nr_24, nr_40, nr_41, nr_44, pt_lt, pt_ge, pt_eq, pt_ne, pt_gt, pt_le, pt_E, pt_N, pt_F, ite_10, ite_11, ne_eq, and_self, or_self, decide_true, decide_false, Bool.not_true, Bool.not_false, Bool.false_eq_true, Nat.reduceEqDiff, Nat.reduceAdd, Int.reduceEq, Int.reduceLT, Int.reduceLE, Int.reduceNeg, Int.reduceAdd, Int.reduceSub, Int.reduceMul, reduceCtorEq, iA, iS, iM, iD, iR, iN, lA, lS, lM, lD, lR, m0, m1, m2f, m3, hw.k, h37, wM_of hat, wM_of hbt, hcv]
          refine wM_mono hpu ?_
          rintro r w2 e ⟨r1, r2, r3⟩
          have hM2 := hM.me r2 r3 (hM.2.2.me r2 r1)
          have hV2 := fV.bi g1 hop
          refine wM_mono (hM2.sc hc MQf.qz (rk_1 c0)) ?_
          rintro r w3 e hM3
          simp only [uX12_readUnits_1, wE_I, wE_V, wE_F, wE_A, wE_N, wE_1, wE_2, wE_D, wE_B, wE_If, wE_C, wE_CV, wE_SL, wE_SA, wA_0, wA_1, wC_B, wC_E, wC_And, wC_Or, wC_Not, wS_Skip, wS_Brk, wS_Cnt, wS_RetV, wS_Ret, wS_Seq, wS_Set, wS_Inc, wS_Do, wS_Put, wS_PutC, wS_Arr, wS_ArrC, wS_If, wS_Sw, wS_F0, wS_F1, wM_q, lu_ap, aL_ap, ct_0, ct_1, ct_2, ct_3, ct_4, ct_5, headD_1, List.mem_cons, List.not_mem_nil, or_false, false_or, or_true, true_or, true_and, and_true, false_and, and_false, not_true_eq_false, not_false_eq_true, if_true, if_false, nr_20, nr_24, nr_40, nr_41, nr_44, pt_lt, pt_ge, pt_eq, pt_ne, pt_gt, pt_le, pt_E, pt_N, pt_F, ite_10, ite_11, ne_eq, and_self, or_self, decide_true, decide_false, Bool.not_true, Bool.not_false, Bool.false_eq_true, Nat.reduceEqDiff, Nat.reduceAdd, Int.reduceEq, Int.reduceLT, Int.reduceLE, Int.reduceNeg, Int.reduceAdd, Int.reduceSub, Int.reduceMul, reduceCtorEq]
          exact ⟨k, lt, ⟨by simp [lu_ap, m0], by simp [lu_ap, m1]⟩, Or.inr ⟨_, _, _, _, _, true, i + 1, ⟨by simp [lu_ap], by simp [lu_ap, m3]⟩, nk, hM3, hV2, hR'⟩⟩
        · rw [if_neg c0] at hR' hbt
          by_cases c1 : kdT v T i = 41 ∧ 0 < op
          · rw [if_pos c1] at hR'
            rw [if_pos c1.1] at hat
            have op0 := c1.2
            obtain ⟨g1, g2, g3, g4⟩ := fRl_v (show (0 : Int) < 1 by decide) _ _ _ hV
            have g4 := g4 rfl
            have hla := m_layAll hB hM hV op0 m0 m1
            simp only [cX12_readUnits_1, bX12_readUnits_1, wE_I, wE_V, wE_F, wE_A, wE_N, wE_1, wE_2, wE_D, wE_B, wE_If, wE_C, wE_CV, wE_SL, wE_SA, wA_0, wA_1, wC_B, wC_E, wC_And, wC_Or, wC_Not, wS_Skip, wS_Brk, wS_Cnt, wS_RetV, wS_Ret, wS_Seq, wS_Set, wS_Inc, wS_Do, wS_Put, wS_PutC, wS_Arr, wS_ArrC, wS_If, wS_Sw, wS_F0, wS_F1, wM_q, lu_ap, aL_ap, ct_0, ct_1, ct_2, ct_3, ct_4, ct_5, headD_1, List.mem_cons, List.not_mem_nil, or_false, false_or, or_true, true_or, true_and, and_true, false_and, and_false, not_true_eq_false, not_false_eq_true, if_true, if_false, nr_20, nr_24, nr_40, nr_41, nr_44, pt_lt, pt_ge, pt_eq, pt_ne, pt_gt, pt_le, pt_E, pt_N, pt_F, ite_10, ite_11, ne_eq, and_self, or_self, decide_true, decide_false, Bool.not_true, Bool.not_false, Bool.false_eq_true, Nat.reduceEqDiff, Nat.reduceAdd, Int.reduceEq, Int.reduceLT, Int.reduceLE, Int.reduceNeg, Int.reduceAdd, Int.reduceSub, Int.reduceMul, reduceCtorEq, iA, iS, iM, iD, iR, iN, lA, lS, lM, lD, lR, m0, m1, m2f, m3, hw.k, h37, wM_of hat, h45, op0]
            refine wS_mono hla ?_
            rintro j y L' w2 ⟨rfl, rfl, hM2⟩
            generalize fRl 1 st c l2 = q at *
            obtain ⟨q1, q2, q3⟩ := q
            dsimp only at *
            have hne : ∃ t, q1 = 40 :: t := by
              rcases g4 with a | a
              · subst a
                have := g1.2.1
                simp only [cP] at this
                omega
              · exact a
            obtain ⟨t, rfl⟩ := hne
            rw [List.tail_cons] at hR'
            have hglen := g1.2.2.1
            simp only [List.length_cons] at hglen
            have h44 := hM2.2.2.2.1.1
            simp only [List.length_cons] at h44
            have h452 := hM2.2.2.2.2.2
            have hM3 := hM2.p27 (k := 44) (z := (t.length : Int)) (by decide) (by decide) (fun w' q => q.p44)
            have h453 := hM3.2.2.2.2.2
            have hM4 := hM3.p27 (k := 45) (z := op - 1) (by decide) (by decide) (fun w' q => q.p45)
            have hV2 := fV.cl g1
            have hsc := hM4.sc hc MQf.qz (by omega)
            have e1 : w32 (((t.length + 1 : Nat) : Int) - 1) = t.length := by rw [w32_e (by omega)]; omega
            have e4 : w32 (op - 1) = op - 1 := by clear e1; exact w32_e (by omega)
            simp only [wE_I, wE_V, wE_F, wE_A, wE_N, wE_1, wE_2, wE_D, wE_B, wE_If, wE_C, wE_CV, wE_SL, wE_SA, wA_0, wA_1, wC_B, wC_E, wC_And, wC_Or, wC_Not, wS_Skip, wS_Brk, wS_Cnt, wS_RetV, wS_Ret, wS_Seq, wS_Set, wS_Inc, wS_Do, wS_Put, wS_PutC, wS_Arr, wS_ArrC, wS_If, wS_Sw, wS_F0, wS_F1, wM_q, lu_ap, aL_ap, ct_0, ct_1, ct_2, ct_3, ct_4, ct_5, headD_1, List.mem_cons, List.not_mem_nil, or_false, false_or, or_true, true_or, true_and, and_true, false_and, and_false, not_true_eq_false, not_false_eq_true, if_true, if_false, nr_20, nr_24, nr_40, nr_41, nr_44, pt_lt, pt_ge, pt_eq, pt_ne, pt_gt, pt_le, pt_E, pt_N, pt_F, ite_10, ite_11, ne_eq, and_self, or_self, decide_true, decide_false, Bool.not_true, Bool.not_false, Bool.false_eq_true, Nat.reduceEqDiff, Nat.reduceAdd, Int.reduceEq, Int.reduceLT, Int.reduceLE, Int.reduceNeg, Int.reduceAdd, Int.reduceSub, Int.reduceMul, reduceCtorEq, iA, iS, iM, iD, iR, iN, lA, lS, lM, lD, lR, if_pos, m0, hw.k, h44, e1, h453, e4]
            clear e1 e4
            refine wM_mono hsc ?_
            rintro r w3 e hM5
            simp only [uX12_readUnits_1, wE_I, wE_V, wE_F, wE_A, wE_N, wE_1, wE_2, wE_D, wE_B, wE_If, wE_C, wE_CV, wE_SL, wE_SA, wA_0, wA_1, wC_B, wC_E, wC_And, wC_Or, wC_Not, wS_Skip, wS_Brk, wS_Cnt, wS_RetV, wS_Ret, wS_Seq, wS_Set, wS_Inc, wS_Do, wS_Put, wS_PutC, wS_Arr, wS_ArrC, wS_If, wS_Sw, wS_F0, wS_F1, wM_q, lu_ap, aL_ap, ct_0, ct_1, ct_2, ct_3, ct_4, ct_5, headD_1, List.mem_cons, List.not_mem_nil, or_false, false_or, or_true, true_or, true_and, and_true, false_and, and_false, not_true_eq_false, not_false_eq_true, if_true, if_false, nr_20, nr_24, nr_40, nr_41, nr_44, pt_lt, pt_ge, pt_eq, pt_ne, pt_gt, pt_le, pt_E, pt_N, pt_F, ite_10, ite_11, ne_eq, and_self, or_self, decide_true, decide_false, Bool.not_true, Bool.not_false, Bool.false_eq_true, Nat.reduceEqDiff, Nat.reduceAdd, Int.reduceEq, Int.reduceLT, Int.reduceLE, Int.reduceNeg, Int.reduceAdd, Int.reduceSub, Int.reduceMul, reduceCtorEq]
            exact ⟨k, lt, ⟨m0, m1⟩, Or.inr ⟨_, _, _, _, _, false, i + 1, ⟨by simp [m2f], m3⟩, nk, hM5, hV2, hR'⟩⟩
          · rw [if_neg c1] at hR'
            have fin : ∃ k', k' < k + 1 ∧ (lu L 3 0 0 = M ∧ lu L 3 0 1 = B) ∧ (mgE S v u0 T M n B l nm ns RES (lu L 3 0) w1) := ⟨k, lt, ⟨by simp [lu_ap, m0], by simp [lu_ap, m1]⟩, Or.inr ⟨st, c, l2, un, op, i, by simp [lu_ap], hM, hV, hR'⟩⟩
            obtain ⟨k', f1, f2, f3⟩ := fin
            by_cases k41 : kdT v T i = 41
            · rw [if_pos k41] at hat
              have op0 : ¬ 0 < op := fun z => c1 ⟨k41, z⟩
              simp only [cX12_readUnits_1, bX12_readUnits_1, uX12_readUnits_1, wE_I, wE_V, wE_F, wE_A, wE_N, wE_1, wE_2, wE_D, wE_B, wE_If, wE_C, wE_CV, wE_SL, wE_SA, wA_0, wA_1, wC_B, wC_E, wC_And, wC_Or, wC_Not, wS_Skip, wS_Brk, wS_Cnt, wS_RetV, wS_Ret, wS_Seq, wS_Set, wS_Inc, wS_Do, wS_Put, wS_PutC, wS_Arr, wS_ArrC, wS_If, wS_Sw, wS_F0, wS_F1, wM_q, lu_ap, aL_ap, ct_0, ct_1, ct_2, ct_3, ct_4, ct_5, headD_1, List.mem_cons, List.not_mem_nil, or_false, false_or, or_true, true_or, true_and, and_true, false_and, and_false, not_true_eq_false, not_false_eq_true, if_true, if_false, nr_20, nr_24, nr_40, nr_41, nr_44, pt_lt, pt_ge, pt_eq, pt_ne, pt_gt, pt_le, pt_E, pt_N, pt_F, ite_10, ite_11, ne_eq, and_self, or_self, decide_true, decide_false, Bool.not_true, Bool.not_false, Bool.false_eq_true, Nat.reduceEqDiff, Nat.reduceAdd, Int.reduceEq, Int.reduceLT, Int.reduceLE, Int.reduceNeg, Int.reduceAdd, Int.reduceSub, Int.reduceMul, reduceCtorEq, iA, iS, iM, iD, iR, iN, lA, lS, lM, lD, lR, m0, m1, m2f, m3, hw.k, h37, wM_of hat, h45, op0, wM_of hbt]
              exact ⟨k', f1, Or.inl f3⟩
            · rw [if_neg k41] at hat
              simp only [cX12_readUnits_1, bX12_readUnits_1, uX12_readUnits_1, wE_I, wE_V, wE_F, wE_A, wE_N, wE_1, wE_2, wE_D, wE_B, wE_If, wE_C, wE_CV, wE_SL, wE_SA, wA_0, wA_1, wC_B, wC_E, wC_And, wC_Or, wC_Not, wS_Skip, wS_Brk, wS_Cnt, wS_RetV, wS_Ret, wS_Seq, wS_Set, wS_Inc, wS_Do, wS_Put, wS_PutC, wS_Arr, wS_ArrC, wS_If, wS_Sw, wS_F0, wS_F1, wM_q, lu_ap, aL_ap, ct_0, ct_1, ct_2, ct_3, ct_4, ct_5, headD_1, List.mem_cons, List.not_mem_nil, or_false, false_or, or_true, true_or, true_and, and_true, false_and, and_false, not_true_eq_false, not_false_eq_true, if_true, if_false, nr_20, nr_24, nr_40, nr_41, nr_44, pt_lt, pt_ge, pt_eq, pt_ne, pt_gt, pt_le, pt_E, pt_N, pt_F, ite_10, ite_11, ne_eq, and_self, or_self, decide_true, decide_false, Bool.not_true, Bool.not_false, Bool.false_eq_true, Nat.reduceEqDiff, Nat.reduceAdd, Int.reduceEq, Int.reduceLT, Int.reduceLE, Int.reduceNeg, Int.reduceAdd, Int.reduceSub, Int.reduceMul, reduceCtorEq, iA, iS, iM, iD, iR, iN, lA, lS, lM, lD, lR, m0, m1, m2f, m3, hw.k, h37, wM_of hat, wM_of hbt]
              exact ⟨k', f1, Or.inl f3⟩
/-- at a fault nothing more is laid -/
theorem m_endD {Q : QV → Prop} (h : Mm S v T M n Q w o) (hd : ¬ o.1 = 0) {L : QL} (m0 : L 0 = M) : wS (sWhile cX12_readUnits_3 bX12_readUnits_3 uX12_readUnits_3) L S w (fun k _ L' w' => k = 0 ∧ L' = L ∧ w' = w) := by
  have h37 : ¬ w M 37 = 0 := by have := h.dead hd; omega
  refine wS_While (fun k L' w' => L' = L ∧ w' = w) 0 (by decide) ⟨rfl, rfl⟩ ?_
  rintro k L' w' ⟨rfl, rfl⟩
  simp only [cX12_readUnits_3, wE_I, wE_V, wE_F, wE_A, wE_N, wE_1, wE_2, wE_D, wE_B, wE_If, wE_C, wE_CV, wE_SL, wE_SA, wA_0, wA_1, wC_B, wC_E, wC_And, wC_Or, wC_Not, wS_Skip, wS_Brk, wS_Cnt, wS_RetV, wS_Ret, wS_Seq, wS_Set, wS_Inc, wS_Do, wS_Put, wS_PutC, wS_Arr, wS_ArrC, wS_If, wS_Sw, wS_F0, wS_F1, wM_q, lu_ap, aL_ap, ct_0, ct_1, ct_2, ct_3, ct_4, ct_5, headD_1, List.mem_cons, List.not_mem_nil, or_false, false_or, or_true, true_or, true_and, and_true, false_and, and_false, not_true_eq_false, not_false_eq_true, if_true, if_false, nr_20, nr_24, nr_40, nr_41, nr_44, pt_lt, pt_ge, pt_eq, pt_ne, pt_gt, pt_le, pt_E, pt_N, pt_F, ite_10, ite_11, ne_eq, and_self, or_self, decide_true, decide_false, Bool.not_true, Bool.not_false, Bool.false_eq_true, Nat.reduceEqDiff, Nat.reduceAdd, Int.reduceEq, Int.reduceLT, Int.reduceLE, Int.reduceNeg, Int.reduceAdd, Int.reduceSub, Int.reduceMul, reduceCtorEq, iA, iS, iM, iD, iR, iN, lA, lS, lM, lD, lR, m0, h.2.1.1.k, h37]
theorem m_readUnits (hc : CX v M T n) (hB : B = 0 ∨ B = 1) {i0 : Int} (h : Mm S v T M n (fun w' => mfr M B l u0 w' ∧ w' (M + 7) B = l ∧ w' (M + 6) B = un ∧ ∀ k, 0 ≤ k → k < l → w' (M + 24) (100 * B + k) = c k) w (0, i0)) (hu : ∀ q k, T ≤ q → q ≤ T + 4 → u q k = v q k) (hR : NR u u0 T x M) (hβ : ∀ i r, (0 ≤ i ∧ i < nTk v T) → kdT v T i = 4 → isBe u T x i r → r = β i) (hun : 0 ≤ un ∧ un ≤ 30) (hl : 0 ≤ l ∧ l ≤ 2 * un) (hb : bOk v T β nm ns) (hend : kdT v T (nTk v T - 1) = 1) {RES : (Int × Int) × (Int → Int) × Int × Int} (hRS : RES = fmG v T β (nTk v T - i0).toNat [] c l 0 un true i0) : wM mX12_readUnits [M, B] S w (fun _ w' => Mm S v T M n (fun w' => mfr M B l u0 w' ∧ (RES.1.1 = 0 → w' (M + 7) B = RES.2.2.1 ∧ w' (M + 6) B = RES.2.2.2 ∧ ∀ k, 0 ≤ k → k < RES.2.2.1 → w' (M + 24) (100 * B + k) = RES.2.1 k)) w' RES.1) := by
  have hw := h.2.1.1
  have hM1 : Mm S v T M n (fun w' => (mfr M B l u0 w' ∧ w' (M + 7) B = l ∧ w' (M + 6) B = un ∧ ∀ k, 0 ≤ k → k < l → w' (M + 24) (100 * B + k) = c k) ∧ w' M 44 = 0) (vu w M 44 0) (0, i0) := h.p27 (by decide) (by decide) (fun w' q => by
    obtain ⟨h1, h2, h3, h4⟩ := q
    refine ⟨⟨fun a k p1 p2 p3 p4 => ?_, by rw [vu_ne (by omega)]; exact h2, by rw [vu_ne (by omega)]; exact h3, fun k k0 k1 => by rw [vu_ne (by omega)]; exact h4 k k0 k1⟩, vu_is⟩
    rw [vu_ne (fun e => (p1 e.1).2.1 e.2)]
    exact h1 a k p1 p2 p3 p4)
  have hM2 : Mm S v T M n (MQf u0 M B l [] c l un 0) (vu (vu w M 44 0) M 45 0) (0, i0) := hM1.p27 (by decide) (by decide) (fun w' q => by
    obtain ⟨⟨h1, h2, h3, h4⟩, h5⟩ := q
    refine ⟨fun a k p1 p2 p3 p4 => ?_, ⟨by rw [vu_ne (by simp)]; exact h5, fun k hk => absurd hk (Nat.not_lt_zero _), by rw [vu_ne (by omega)]; exact h2, fun k k0 k1 => by rw [vu_ne (by omega)]; exact h4 k k0 k1⟩, by rw [vu_ne (by omega)]; exact h3, vu_is⟩
    rw [vu_ne (fun e => (p1 e.1).2.2 e.2)]
    exact h1 a k p1 p2 p3 p4)
  clear hM1 h
  simp only [mX12_readUnits, sX12_readUnits, wM_q]
  generalize hL : aL 0 [2, 0] [M, B] = L
  have m0 : L 0 = M := by rw [← hL]; simp [lu_ap, aL_ap, ct_0, ct_1, ct_2]
  have m1 : L 1 = B := by rw [← hL]; simp [lu_ap, aL_ap, ct_0, ct_1, ct_2]
  clear hL
  refine ws_step (L' := L) (w := vu w M 44 0) (by simp only [wE_I, wE_V, wE_F, wE_A, wE_N, wE_1, wE_2, wE_D, wE_B, wE_If, wE_C, wE_CV, wE_SL, wE_SA, wA_0, wA_1, wC_B, wC_E, wC_And, wC_Or, wC_Not, wS_Skip, wS_Brk, wS_Cnt, wS_RetV, wS_Ret, wS_Seq, wS_Set, wS_Inc, wS_Do, wS_Put, wS_PutC, wS_Arr, wS_ArrC, wS_If, wS_Sw, wS_F0, wS_F1, wM_q, lu_ap, aL_ap, ct_0, ct_1, ct_2, ct_3, ct_4, ct_5, headD_1, List.mem_cons, List.not_mem_nil, or_false, false_or, or_true, true_or, true_and, and_true, false_and, and_false, not_true_eq_false, not_false_eq_true, if_true, if_false, nr_20, nr_24, nr_40, nr_41, nr_44, pt_lt, pt_ge, pt_eq, pt_ne, pt_gt, pt_le, pt_E, pt_N, pt_F, ite_10, ite_11, ne_eq, and_self, or_self, decide_true, decide_false, Bool.not_true, Bool.not_false, Bool.false_eq_true, Nat.reduceEqDiff, Nat.reduceAdd, Int.reduceEq, Int.reduceLT, Int.reduceLE, Int.reduceNeg, Int.reduceAdd, Int.reduceSub, Int.reduceMul, reduceCtorEq, iA, iS, iM, iD, iR, iN, lA, lS, lM, lD, lR, m0, hw.k]) ?_
  refine ws_step (L' := L) (w := vu (vu w M 44 0) M 45 0) (by simp only [wE_I, wE_V, wE_F, wE_A, wE_N, wE_1, wE_2, wE_D, wE_B, wE_If, wE_C, wE_CV, wE_SL, wE_SA, wA_0, wA_1, wC_B, wC_E, wC_And, wC_Or, wC_Not, wS_Skip, wS_Brk, wS_Cnt, wS_RetV, wS_Ret, wS_Seq, wS_Set, wS_Inc, wS_Do, wS_Put, wS_PutC, wS_Arr, wS_ArrC, wS_If, wS_Sw, wS_F0, wS_F1, wM_q, lu_ap, aL_ap, ct_0, ct_1, ct_2, ct_3, ct_4, ct_5, headD_1, List.mem_cons, List.not_mem_nil, or_false, false_or, or_true, true_or, true_and, and_true, false_and, and_false, not_true_eq_false, not_false_eq_true, if_true, if_false, nr_20, nr_24, nr_40, nr_41, nr_44, pt_lt, pt_ge, pt_eq, pt_ne, pt_gt, pt_le, pt_E, pt_N, pt_F, ite_10, ite_11, ne_eq, and_self, or_self, decide_true, decide_false, Bool.not_true, Bool.not_false, Bool.false_eq_true, Nat.reduceEqDiff, Nat.reduceAdd, Int.reduceEq, Int.reduceLT, Int.reduceLE, Int.reduceNeg, Int.reduceAdd, Int.reduceSub, Int.reduceMul, reduceCtorEq, iA, iS, iM, iD, iR, iN, lA, lS, lM, lD, lR, m0, hw.k]) ?_
  refine ws_step (L' := lu L 2 1) (w := vu (vu w M 44 0) M 45 0) (by simp only [wE_I, wE_V, wE_F, wE_A, wE_N, wE_1, wE_2, wE_D, wE_B, wE_If, wE_C, wE_CV, wE_SL, wE_SA, wA_0, wA_1, wC_B, wC_E, wC_And, wC_Or, wC_Not, wS_Skip, wS_Brk, wS_Cnt, wS_RetV, wS_Ret, wS_Seq, wS_Set, wS_Inc, wS_Do, wS_Put, wS_PutC, wS_Arr, wS_ArrC, wS_If, wS_Sw, wS_F0, wS_F1, wM_q, lu_ap, aL_ap, ct_0, ct_1, ct_2, ct_3, ct_4, ct_5, headD_1, List.mem_cons, List.not_mem_nil, or_false, false_or, or_true, true_or, true_and, and_true, false_and, and_false, not_true_eq_false, not_false_eq_true, if_true, if_false, nr_20, nr_24, nr_40, nr_41, nr_44, pt_lt, pt_ge, pt_eq, pt_ne, pt_gt, pt_le, pt_E, pt_N, pt_F, ite_10, ite_11, ne_eq, and_self, or_self, decide_true, decide_false, Bool.not_true, Bool.not_false, Bool.false_eq_true, Nat.reduceEqDiff, Nat.reduceAdd, Int.reduceEq, Int.reduceLT, Int.reduceLE, Int.reduceNeg, Int.reduceAdd, Int.reduceSub, Int.reduceMul, reduceCtorEq, iA, iS, iM, iD, iR, iN, lA, lS, lM, lD, lR]) ?_
  refine ws_step (L' := lu (lu L 2 1) 3 1) (w := vu (vu w M 44 0) M 45 0) (by simp only [wE_I, wE_V, wE_F, wE_A, wE_N, wE_1, wE_2, wE_D, wE_B, wE_If, wE_C, wE_CV, wE_SL, wE_SA, wA_0, wA_1, wC_B, wC_E, wC_And, wC_Or, wC_Not, wS_Skip, wS_Brk, wS_Cnt, wS_RetV, wS_Ret, wS_Seq, wS_Set, wS_Inc, wS_Do, wS_Put, wS_PutC, wS_Arr, wS_ArrC, wS_If, wS_Sw, wS_F0, wS_F1, wM_q, lu_ap, aL_ap, ct_0, ct_1, ct_2, ct_3, ct_4, ct_5, headD_1, List.mem_cons, List.not_mem_nil, or_false, false_or, or_true, true_or, true_and, and_true, false_and, and_false, not_true_eq_false, not_false_eq_true, if_true, if_false, nr_20, nr_24, nr_40, nr_41, nr_44, pt_lt, pt_ge, pt_eq, pt_ne, pt_gt, pt_le, pt_E, pt_N, pt_F, ite_10, ite_11, ne_eq, and_self, or_self, decide_true, decide_false, Bool.not_true, Bool.not_false, Bool.false_eq_true, Nat.reduceEqDiff, Nat.reduceAdd, Int.reduceEq, Int.reduceLT, Int.reduceLE, Int.reduceNeg, Int.reduceAdd, Int.reduceSub, Int.reduceMul, reduceCtorEq, iA, iS, iM, iD, iR, iN, lA, lS, lM, lD, lR]) ?_
  rw [wS_Seq]
  refine wS_mono (m_mainF hc hB hM2 hu hR hβ hun hl hb hend hRS (by simp [lu_ap, m0]) (by simp [lu_ap, m1]) (by simp [lu_ap]) (by simp [lu_ap])) ?_
  clear hM2 m0 m1
  rintro k y L' w1 ⟨rfl, ⟨m0, m1⟩, hE⟩
  rw [if_pos rfl]
  rcases hE with ⟨st, c, l2, un, op, hm, hd⟩ | ⟨st, c, l2, un, op, i, h3, hm, hv, hR2⟩
  · have h37 : ¬ w1 M 37 = 0 := by have := hm.dead hd; omega
    refine ws_step (L' := L') (w := w1) (by simp only [wE_I, wE_V, wE_F, wE_A, wE_N, wE_1, wE_2, wE_D, wE_B, wE_If, wE_C, wE_CV, wE_SL, wE_SA, wA_0, wA_1, wC_B, wC_E, wC_And, wC_Or, wC_Not, wS_Skip, wS_Brk, wS_Cnt, wS_RetV, wS_Ret, wS_Seq, wS_Set, wS_Inc, wS_Do, wS_Put, wS_PutC, wS_Arr, wS_ArrC, wS_If, wS_Sw, wS_F0, wS_F1, wM_q, lu_ap, aL_ap, ct_0, ct_1, ct_2, ct_3, ct_4, ct_5, headD_1, List.mem_cons, List.not_mem_nil, or_false, false_or, or_true, true_or, true_and, and_true, false_and, and_false, not_true_eq_false, not_false_eq_true, if_true, if_false, nr_20, nr_24, nr_40, nr_41, nr_44, pt_lt, pt_ge, pt_eq, pt_ne, pt_gt, pt_le, pt_E, pt_N, pt_F, ite_10, ite_11, ne_eq, and_self, or_self, decide_true, decide_false, Bool.not_true, Bool.not_false, Bool.false_eq_true, Nat.reduceEqDiff, Nat.reduceAdd, Int.reduceEq, Int.reduceLT, Int.reduceLE, Int.reduceNeg, Int.reduceAdd, Int.reduceSub, Int.reduceMul, reduceCtorEq, iA, iS, iM, iD, iR, iN, lA, lS, lM, lD, lR, m0, hw.k, h37]) ?_
    rw [wS_Seq]
    refine wS_mono (m_endD hm hd m0) ?_
    rintro k y L2 w2 ⟨rfl, rfl, rfl⟩
    simp only [wE_I, wE_V, wE_F, wE_A, wE_N, wE_1, wE_2, wE_D, wE_B, wE_If, wE_C, wE_CV, wE_SL, wE_SA, wA_0, wA_1, wC_B, wC_E, wC_And, wC_Or, wC_Not, wS_Skip, wS_Brk, wS_Cnt, wS_RetV, wS_Ret, wS_Seq, wS_Set, wS_Inc, wS_Do, wS_Put, wS_PutC, wS_Arr, wS_ArrC, wS_If, wS_Sw, wS_F0, wS_F1, wM_q, lu_ap, aL_ap, ct_0, ct_1, ct_2, ct_3, ct_4, ct_5, headD_1, List.mem_cons, List.not_mem_nil, or_false, false_or, or_true, true_or, true_and, and_true, false_and, and_false, not_true_eq_false, not_false_eq_true, if_true, if_false, nr_20, nr_24, nr_40, nr_41, nr_44, pt_lt, pt_ge, pt_eq, pt_ne, pt_gt, pt_le, pt_E, pt_N, pt_F, ite_10, ite_11, ne_eq, and_self, or_self, decide_true, decide_false, Bool.not_true, Bool.not_false, Bool.false_eq_true, Nat.reduceEqDiff, Nat.reduceAdd, Int.reduceEq, Int.reduceLT, Int.reduceLE, Int.reduceNeg, Int.reduceAdd, Int.reduceSub, Int.reduceMul, reduceCtorEq, iA, iS, iM, iD, iR, iN, lA, lS, lM, lD, lR, if_pos]
    exact hm.cg (fun q => ⟨q.1, fun z => absurd z hd⟩)
  · have h37 := hm.live
    have h45 := hm.2.2.2.2.2
    by_cases c2 : 0 < op
    · rw [if_pos c2] at hR2
      subst hR2
      have hfl := hm.fl MQf.qz (f := 1) (by decide)
      rw [if_pos rfl] at hfl
      rw [wS_Seq]
      refine wS_mono (Q' := fun k _ L2 w2 => k = 0 ∧ L2 = L' ∧ Mm S v T M n (MQf u0 M B l st c l2 un op) w2 (1, i)) ?_ ?_
      · simp only [wE_I, wE_V, wE_F, wE_A, wE_N, wE_1, wE_2, wE_D, wE_B, wE_If, wE_C, wE_CV, wE_SL, wE_SA, wA_0, wA_1, wC_B, wC_E, wC_And, wC_Or, wC_Not, wS_Skip, wS_Brk, wS_Cnt, wS_RetV, wS_Ret, wS_Seq, wS_Set, wS_Inc, wS_Do, wS_Put, wS_PutC, wS_Arr, wS_ArrC, wS_If, wS_Sw, wS_F0, wS_F1, wM_q, lu_ap, aL_ap, ct_0, ct_1, ct_2, ct_3, ct_4, ct_5, headD_1, List.mem_cons, List.not_mem_nil, or_false, false_or, or_true, true_or, true_and, and_true, false_and, and_false, not_true_eq_false, not_false_eq_true, if_true, if_false, nr_20, nr_24, nr_40, nr_41, nr_44, pt_lt, pt_ge, pt_eq, pt_ne, pt_gt, pt_le, pt_E, pt_N, pt_F, ite_10, ite_11, ne_eq, and_self, or_self, decide_true, decide_false, Bool.not_true, Bool.not_false, Bool.false_eq_true, Nat.reduceEqDiff, Nat.reduceAdd, Int.reduceEq, Int.reduceLT, Int.reduceLE, Int.reduceNeg, Int.reduceAdd, Int.reduceSub, Int.reduceMul, reduceCtorEq, iA, iS, iM, iD, iR, iN, lA, lS, lM, lD, lR, m0, hw.k, h37, h45, c2]
        refine wM_mono hfl ?_
        rintro r w2 e hm2
        exact hm2
      rintro k y L1 w2 ⟨rfl, rfl, hm2⟩
      rw [if_pos rfl]
      rw [wS_Seq]
      refine wS_mono (m_endD hm2 (show ¬ (1 : Int) = 0 by decide) m0) ?_
      rintro k y L2 w3 ⟨rfl, rfl, rfl⟩
      simp only [wE_I, wE_V, wE_F, wE_A, wE_N, wE_1, wE_2, wE_D, wE_B, wE_If, wE_C, wE_CV, wE_SL, wE_SA, wA_0, wA_1, wC_B, wC_E, wC_And, wC_Or, wC_Not, wS_Skip, wS_Brk, wS_Cnt, wS_RetV, wS_Ret, wS_Seq, wS_Set, wS_Inc, wS_Do, wS_Put, wS_PutC, wS_Arr, wS_ArrC, wS_If, wS_Sw, wS_F0, wS_F1, wM_q, lu_ap, aL_ap, ct_0, ct_1, ct_2, ct_3, ct_4, ct_5, headD_1, List.mem_cons, List.not_mem_nil, or_false, false_or, or_true, true_or, true_and, and_true, false_and, and_false, not_true_eq_false, not_false_eq_true, if_true, if_false, nr_20, nr_24, nr_40, nr_41, nr_44, pt_lt, pt_ge, pt_eq, pt_ne, pt_gt, pt_le, pt_E, pt_N, pt_F, ite_10, ite_11, ne_eq, and_self, or_self, decide_true, decide_false, Bool.not_true, Bool.not_false, Bool.false_eq_true, Nat.reduceEqDiff, Nat.reduceAdd, Int.reduceEq, Int.reduceLT, Int.reduceLE, Int.reduceNeg, Int.reduceAdd, Int.reduceSub, Int.reduceMul, reduceCtorEq, iA, iS, iM, iD, iR, iN, lA, lS, lM, lD, lR, if_pos]
      exact hm2.cg (fun q => ⟨q.1, fun z => absurd z (by decide)⟩)
    · rw [if_neg c2] at hR2
      subst hR2
      have op0 : op = 0 := by
        have := hv.2.1
        have := cP_n st
        omega
      refine ws_step (L' := L') (w := w1) (by simp only [wE_I, wE_V, wE_F, wE_A, wE_N, wE_1, wE_2, wE_D, wE_B, wE_If, wE_C, wE_CV, wE_SL, wE_SA, wA_0, wA_1, wC_B, wC_E, wC_And, wC_Or, wC_Not, wS_Skip, wS_Brk, wS_Cnt, wS_RetV, wS_Ret, wS_Seq, wS_Set, wS_Inc, wS_Do, wS_Put, wS_PutC, wS_Arr, wS_ArrC, wS_If, wS_Sw, wS_F0, wS_F1, wM_q, lu_ap, aL_ap, ct_0, ct_1, ct_2, ct_3, ct_4, ct_5, headD_1, List.mem_cons, List.not_mem_nil, or_false, false_or, or_true, true_or, true_and, and_true, false_and, and_false, not_true_eq_false, not_false_eq_true, if_true, if_false, nr_20, nr_24, nr_40, nr_41, nr_44, pt_lt, pt_ge, pt_eq, pt_ne, pt_gt, pt_le, pt_E, pt_N, pt_F, ite_10, ite_11, ne_eq, and_self, or_self, decide_true, decide_false, Bool.not_true, Bool.not_false, Bool.false_eq_true, Nat.reduceEqDiff, Nat.reduceAdd, Int.reduceEq, Int.reduceLT, Int.reduceLE, Int.reduceNeg, Int.reduceAdd, Int.reduceSub, Int.reduceMul, reduceCtorEq, iA, iS, iM, iD, iR, iN, lA, lS, lM, lD, lR, m0, hw.k, h37, h45, c2]) ?_
      rw [wS_Seq]
      refine wS_mono (m_layEnd hB hm hv op0 m0 m1) ?_
      rintro k y L2 w2 ⟨rfl, rfl, hm2⟩
      simp only [wE_I, wE_V, wE_F, wE_A, wE_N, wE_1, wE_2, wE_D, wE_B, wE_If, wE_C, wE_CV, wE_SL, wE_SA, wA_0, wA_1, wC_B, wC_E, wC_And, wC_Or, wC_Not, wS_Skip, wS_Brk, wS_Cnt, wS_RetV, wS_Ret, wS_Seq, wS_Set, wS_Inc, wS_Do, wS_Put, wS_PutC, wS_Arr, wS_ArrC, wS_If, wS_Sw, wS_F0, wS_F1, wM_q, lu_ap, aL_ap, ct_0, ct_1, ct_2, ct_3, ct_4, ct_5, headD_1, List.mem_cons, List.not_mem_nil, or_false, false_or, or_true, true_or, true_and, and_true, false_and, and_false, not_true_eq_false, not_false_eq_true, if_true, if_false, nr_20, nr_24, nr_40, nr_41, nr_44, pt_lt, pt_ge, pt_eq, pt_ne, pt_gt, pt_le, pt_E, pt_N, pt_F, ite_10, ite_11, ne_eq, and_self, or_self, decide_true, decide_false, Bool.not_true, Bool.not_false, Bool.false_eq_true, Nat.reduceEqDiff, Nat.reduceAdd, Int.reduceEq, Int.reduceLT, Int.reduceLE, Int.reduceNeg, Int.reduceAdd, Int.reduceSub, Int.reduceMul, reduceCtorEq, iA, iS, iM, iD, iR, iN, lA, lS, lM, lD, lR, if_pos]
      exact hm2.cg (fun q => ⟨q.1, fun _ => ⟨q.2.1.2.2.1, q.2.2.1, q.2.1.2.2.2⟩⟩)
end MG
