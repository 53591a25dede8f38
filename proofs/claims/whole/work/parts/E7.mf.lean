/-! STORE: a formula, the reference's -/
theorem fV.ly {s : Int} {st : List Int} {c : Int → Int} {l op un l0 nm : Int} {ns : Nat} (h : fV (s :: st) c l op un 1 l0 nm ns) (hop : isOp s) : fV st (fu c l (cvS s)) (l + 1) op un 1 l0 nm ns := by
  obtain ⟨h1, h2, ⟨h3, h4⟩, h5, h6, h7, h8⟩ := id h
  have n40 : ¬ s = 40 := fun e => by rw [e] at hop; unfold isOp at hop; omega
  have e1 : cO (s :: st) = 1 + cO st := by simp only [cO]; rw [if_pos (rkS_p.mpr hop)]
  have e2 : cP (s :: st) = cP st := by simp only [cP]; rw [if_neg n40]; omega
  have hn := cO_n st
  have hl := cO_len st
  have hb := cv_b hop
  simp only [List.length_cons] at h3
  rw [e1] at h5 h7
  rw [e2] at h2
  obtain ⟨g1, g2⟩ := fV.lay (z := cvS s) (D' := cO st + 1) h6 h7 h8 (Or.inl ⟨hb.1, hb.2, by omega, by omega, by omega⟩)
  exact ⟨fun a ha => h1 a (List.mem_cons_of_mem _ ha), h2, ⟨by omega, h4⟩, by omega, ⟨h6.1, by omega⟩, g1, g2⟩
theorem fRl_1 {s : Int} {st : List Int} {c : Int → Int} {l : Int} (h : isOp s) : fRl 1 (s :: st) c l = fRl 1 st (fu c l (cvS s)) (l + 1) := by
  simp only [fRl]
  rw [if_pos (by have := rkS_p.mpr h; omega)]
theorem fRl_0 {st : List Int} {c : Int → Int} {l : Int} : fRl 1 (40 :: st) c l = (40 :: st, c, l) := by
  simp only [fRl]
  rw [if_neg (by rw [rk_40]; decide)]
section MF
variable {S : QS} {u v w w' u0 : QV} {M T n x B l0 nm op un : Int} {ns : Nat} {β : Int → Int} {st st' : List Int} {c c' : Int → Int} {l l' i : Int} {o : Int × Int}
theorem m_between (hc : CX v M T n) (hw : Pw S v w M n) (ho : OP v w T M (0, i)) : mX12_between [M] S w = some (if 0 < rkS (kdT v T i) then cvS (kdT v T i) else -1, w) := by
  have a1 := m_isWordO hw ho (j := 17) (by decide)
  have a2 := m_isAtO hc hw ho (s := 43) (by unfold isSg; omega)
  have a3 := m_isAtO hc hw ho (s := 45) (by unfold isSg; omega)
  have a4 := m_isAtO hc hw ho (s := 42) (by unfold isSg; omega)
  have a5 := m_isAtO hc hw ho (s := 47) (by unfold isSg; omega)
  simp only [true_and] at a1 a2 a3 a4 a5
  rw [show ((256 : Int) + pmN 17) = 273 from rfl] at a1
  rw [show (((17 : Nat)) : Int) = 17 from rfl] at a1
  generalize kdT v T i = K at *
  apply wM_eq
  by_cases c1 : K = 273
  · rw [if_pos c1] at a1
    rw [c1]
    simp only [mX12_between, sX12_between, wE_I, wE_V, wE_F, wE_A, wE_N, wE_1, wE_2, wE_D, wE_B, wE_If, wE_C, wE_CV, wE_SL, wE_SA, wA_0, wA_1, wC_B, wC_E, wC_And, wC_Or, wC_Not, wS_Skip, wS_Brk, wS_Cnt, wS_RetV, wS_Ret, wS_Seq, wS_Set, wS_Inc, wS_Do, wS_Put, wS_PutC, wS_Arr, wS_ArrC, wS_If, wS_Sw, wS_F0, wS_F1, wM_q, lu_ap, aL_ap, ct_0, ct_1, ct_2, ct_3, ct_4, ct_5, headD_1, List.mem_cons, List.not_mem_nil, or_false, false_or, or_true, true_or, true_and, and_true, false_and, and_false, not_true_eq_false, not_false_eq_true, if_true, if_false, nr_20, nr_24, nr_40, nr_41, nr_44, pt_lt, pt_ge, pt_eq, pt_ne, pt_gt, pt_le, pt_E, pt_N, pt_F, ite_10, ite_11, ne_eq, and_self, or_self, decide_true, decide_false, Bool.not_true, Bool.not_false, Bool.false_eq_true, Nat.reduceEqDiff, Nat.reduceAdd, Int.reduceEq, Int.reduceLT, Int.reduceLE, Int.reduceNeg, Int.reduceAdd, Int.reduceSub, Int.reduceMul, reduceCtorEq, iA, iS, iM, iD, iR, iN, lA, lS, lM, lD, lR, hw.1.k, wM_of a1]
    decide
  · rw [if_neg c1] at a1
    by_cases c2 : K = 43
    · rw [if_pos c2] at a2
      rw [c2]
      simp only [mX12_between, sX12_between, wE_I, wE_V, wE_F, wE_A, wE_N, wE_1, wE_2, wE_D, wE_B, wE_If, wE_C, wE_CV, wE_SL, wE_SA, wA_0, wA_1, wC_B, wC_E, wC_And, wC_Or, wC_Not, wS_Skip, wS_Brk, wS_Cnt, wS_RetV, wS_Ret, wS_Seq, wS_Set, wS_Inc, wS_Do, wS_Put, wS_PutC, wS_Arr, wS_ArrC, wS_If, wS_Sw, wS_F0, wS_F1, wM_q, lu_ap, aL_ap, ct_0, ct_1, ct_2, ct_3, ct_4, ct_5, headD_1, List.mem_cons, List.not_mem_nil, or_false, false_or, or_true, true_or, true_and, and_true, false_and, and_false, not_true_eq_false, not_false_eq_true, if_true, if_false, nr_20, nr_24, nr_40, nr_41, nr_44, pt_lt, pt_ge, pt_eq, pt_ne, pt_gt, pt_le, pt_E, pt_N, pt_F, ite_10, ite_11, ne_eq, and_self, or_self, decide_true, decide_false, Bool.not_true, Bool.not_false, Bool.false_eq_true, Nat.reduceEqDiff, Nat.reduceAdd, Int.reduceEq, Int.reduceLT, Int.reduceLE, Int.reduceNeg, Int.reduceAdd, Int.reduceSub, Int.reduceMul, reduceCtorEq, iA, iS, iM, iD, iR, iN, lA, lS, lM, lD, lR, hw.1.k, wM_of a1, wM_of a2]
      decide
    · rw [if_neg c2] at a2
      by_cases c3 : K = 45
      · rw [if_pos c3] at a3
        rw [c3]
        simp only [mX12_between, sX12_between, wE_I, wE_V, wE_F, wE_A, wE_N, wE_1, wE_2, wE_D, wE_B, wE_If, wE_C, wE_CV, wE_SL, wE_SA, wA_0, wA_1, wC_B, wC_E, wC_And, wC_Or, wC_Not, wS_Skip, wS_Brk, wS_Cnt, wS_RetV, wS_Ret, wS_Seq, wS_Set, wS_Inc, wS_Do, wS_Put, wS_PutC, wS_Arr, wS_ArrC, wS_If, wS_Sw, wS_F0, wS_F1, wM_q, lu_ap, aL_ap, ct_0, ct_1, ct_2, ct_3, ct_4, ct_5, headD_1, List.mem_cons, List.not_mem_nil, or_false, false_or, or_true, true_or, true_and, and_true, false_and, and_false, not_true_eq_false, not_false_eq_true, if_true, if_false, nr_20, nr_24, nr_40, nr_41, nr_44, pt_lt, pt_ge, pt_eq, pt_ne, pt_gt, pt_le, pt_E, pt_N, pt_F, ite_10, ite_11, ne_eq, and_self, or_self, decide_true, decide_false, Bool.not_true, Bool.not_false, Bool.false_eq_true, Nat.reduceEqDiff, Nat.reduceAdd, Int.reduceEq, Int.reduceLT, Int.reduceLE, Int.reduceNeg, Int.reduceAdd, Int.reduceSub, Int.reduceMul, reduceCtorEq, iA, iS, iM, iD, iR, iN, lA, lS, lM, lD, lR, hw.1.k, wM_of a1, wM_of a2, wM_of a3]
        decide
      · rw [if_neg c3] at a3
        by_cases c4 : K = 42
        · rw [if_pos c4] at a4
          rw [c4]
          simp only [mX12_between, sX12_between, wE_I, wE_V, wE_F, wE_A, wE_N, wE_1, wE_2, wE_D, wE_B, wE_If, wE_C, wE_CV, wE_SL, wE_SA, wA_0, wA_1, wC_B, wC_E, wC_And, wC_Or, wC_Not, wS_Skip, wS_Brk, wS_Cnt, wS_RetV, wS_Ret, wS_Seq, wS_Set, wS_Inc, wS_Do, wS_Put, wS_PutC, wS_Arr, wS_ArrC, wS_If, wS_Sw, wS_F0, wS_F1, wM_q, lu_ap, aL_ap, ct_0, ct_1, ct_2, ct_3, ct_4, ct_5, headD_1, List.mem_cons, List.not_mem_nil, or_false, false_or, or_true, true_or, true_and, and_true, false_and, and_false, not_true_eq_false, not_false_eq_true, if_true, if_false, nr_20, nr_24, nr_40, nr_41, nr_44, pt_lt, pt_ge, pt_eq, pt_ne, pt_gt, pt_le, pt_E, pt_N, pt_F, ite_10, ite_11, ne_eq, and_self, or_self, decide_true, decide_false, Bool.not_true, Bool.not_false, Bool.false_eq_true, Nat.reduceEqDiff, Nat.reduceAdd, Int.reduceEq, Int.reduceLT, Int.reduceLE, Int.reduceNeg, Int.reduceAdd, Int.reduceSub, Int.reduceMul, reduceCtorEq, iA, iS, iM, iD, iR, iN, lA, lS, lM, lD, lR, hw.1.k, wM_of a1, wM_of a2, wM_of a3, wM_of a4]
          decide
        · rw [if_neg c4] at a4
          by_cases c5 : K = 47
          · rw [if_pos c5] at a5
            rw [c5]
            simp only [mX12_between, sX12_between, wE_I, wE_V, wE_F, wE_A, wE_N, wE_1, wE_2, wE_D, wE_B, wE_If, wE_C, wE_CV, wE_SL, wE_SA, wA_0, wA_1, wC_B, wC_E, wC_And, wC_Or, wC_Not, wS_Skip, wS_Brk, wS_Cnt, wS_RetV, wS_Ret, wS_Seq, wS_Set, wS_Inc, wS_Do, wS_Put, wS_PutC, wS_Arr, wS_ArrC, wS_If, wS_Sw, wS_F0, wS_F1, wM_q, lu_ap, aL_ap, ct_0, ct_1, ct_2, ct_3, ct_4, ct_5, headD_1, List.mem_cons, List.not_mem_nil, or_false, false_or, or_true, true_or, true_and, and_true, false_and, and_false, not_true_eq_false, not_false_eq_true, if_true, if_false, nr_20, nr_24, nr_40, nr_41, nr_44, pt_lt, pt_ge, pt_eq, pt_ne, pt_gt, pt_le, pt_E, pt_N, pt_F, ite_10, ite_11, ne_eq, and_self, or_self, decide_true, decide_false, Bool.not_true, Bool.not_false, Bool.false_eq_true, Nat.reduceEqDiff, Nat.reduceAdd, Int.reduceEq, Int.reduceLT, Int.reduceLE, Int.reduceNeg, Int.reduceAdd, Int.reduceSub, Int.reduceMul, reduceCtorEq, iA, iS, iM, iD, iR, iN, lA, lS, lM, lD, lR, hw.1.k, wM_of a1, wM_of a2, wM_of a3, wM_of a4, wM_of a5]
            decide
          · rw [if_neg c5] at a5
            have hn : ¬ 0 < rkS K := fun z => by
              have := rkS_p.mp z
              unfold isOp at this
              omega
            simp only [mX12_between, sX12_between, wE_I, wE_V, wE_F, wE_A, wE_N, wE_1, wE_2, wE_D, wE_B, wE_If, wE_C, wE_CV, wE_SL, wE_SA, wA_0, wA_1, wC_B, wC_E, wC_And, wC_Or, wC_Not, wS_Skip, wS_Brk, wS_Cnt, wS_RetV, wS_Ret, wS_Seq, wS_Set, wS_Inc, wS_Do, wS_Put, wS_PutC, wS_Arr, wS_ArrC, wS_If, wS_Sw, wS_F0, wS_F1, wM_q, lu_ap, aL_ap, ct_0, ct_1, ct_2, ct_3, ct_4, ct_5, headD_1, List.mem_cons, List.not_mem_nil, or_false, false_or, or_true, true_or, true_and, and_true, false_and, and_false, not_true_eq_false, not_false_eq_true, if_true, if_false, nr_20, nr_24, nr_40, nr_41, nr_44, pt_lt, pt_ge, pt_eq, pt_ne, pt_gt, pt_le, pt_E, pt_N, pt_F, ite_10, ite_11, ne_eq, and_self, or_self, decide_true, decide_false, Bool.not_true, Bool.not_false, Bool.false_eq_true, Nat.reduceEqDiff, Nat.reduceAdd, Int.reduceEq, Int.reduceLT, Int.reduceLE, Int.reduceNeg, Int.reduceAdd, Int.reduceSub, Int.reduceMul, reduceCtorEq, iA, iS, iM, iD, iR, iN, lA, lS, lM, lD, lR, hw.1.k, wM_of a1, wM_of a2, wM_of a3, wM_of a4, wM_of a5, hn]
theorem Mm.lw {s : Int} (h : Mm S v T M n (MQf u0 M B l0 (s :: st) c l un op) w o) (hB : B = 0 ∨ B = 1) (hl : 0 ≤ l ∧ l < 100) (hlen : st.length < 63) (hl0 : l0 ≤ l) : wM mX12_layWaiting [M, B] S w (fun _ w' => Mm S v T M n (MQf u0 M B l0 st (fu c l (cvS s)) (l + 1) un op) w' o) := by
  refine wM_mono (m_layWaiting h.2.1.1 hB h.2.2.2.1 hl hlen hl0) ?_
  rintro r w' e ⟨h1, h2, h3⟩
  exact h.me h2 h3 (h.2.2.me h2 h1)
/-- the signs behind a bracket are laid -/
theorem m_layAll (hB : B = 0 ∨ B = 1) (h : Mm S v T M n (MQf u0 M B l0 st c l un op) w o) (hv : fV st c l op un 1 l0 nm ns) (hop : 0 < op) {L : QL} (m0 : L 0 = M) (m1 : L 1 = B) : wS (sWhile cX12_readUnits_2 bX12_readUnits_2 uX12_readUnits_2) L S w (fun k _ L' w' => k = 0 ∧ L' = L ∧ Mm S v T M n (MQf u0 M B l0 (fRl 1 st c l).1 (fRl 1 st c l).2.1 (fRl 1 st c l).2.2 un op) w' o) := by
  have hlen := hv.2.2.1
  refine wS_While (fun k L' w' => ∃ (st' : List Int) (c' : Int → Int) (l' : Int), L' = L ∧ Mm S v T M n (MQf u0 M B l0 st' c' l' un op) w' o ∧ fV st' c' l' op un 1 l0 nm ns ∧ fRl 1 st c l = fRl 1 st' c' l' ∧ k = st'.length) st.length (by omega) ?_ ?_
  · exact ⟨st, c, l, rfl, h, hv, rfl, rfl⟩
  · rintro k L' w' ⟨st', c', l', rfl, hM', hv', hE, hk⟩
    have hw := hM'.2.1.1
    obtain ⟨f1, f2, f3, f4⟩ := id hM'.2.2.2.1
    cases st' with
    | nil =>
      have := hv'.2.1
      simp only [cP] at this
      omega
    | cons s st' =>
      simp only [List.length_cons] at f1 f2 hk
      have hvl := hv'.2.2.1
      simp only [List.length_cons] at hvl
      have htop := f2 0 (by omega)
      rw [show ((st'.length + 1 : Nat) : Int) - 1 - ((0 : Nat) : Int) = st'.length by omega] at htop
      have htop' : w' (M + 31) (st'.length : Int) = cvS s := htop
      have o1 : 0 ≤ (st'.length : Int) ∧ (st'.length : Int) < 64 := by omega
      have hss := hv'.1 s (List.mem_cons_self ..)
      have hbd := hv'.2.2.2
      have hcn := cO_n (s :: st')
      by_cases ho : isOp s
      · have nz := (cv_rk hss).1 ho
        have hlw := hM'.lw hB ⟨by omega, by omega⟩ (by omega) (by omega)
        have hv2 := hv'.ly ho
        have hE2 := hE.trans (fRl_1 ho)
        have lt : st'.length < k := by omega
        have e1 : w32 (((st'.length + 1 : Nat) : Int) - 1) = st'.length := by rw [w32_e (by omega)]; omega
        simp only [cX12_readUnits_2, bX12_readUnits_2, uX12_readUnits_2, wE_I, wE_V, wE_F, wE_A, wE_N, wE_1, wE_2, wE_D, wE_B, wE_If, wE_C, wE_CV, wE_SL, wE_SA, wA_0, wA_1, wC_B, wC_E, wC_And, wC_Or, wC_Not, wS_Skip, wS_Brk, wS_Cnt, wS_RetV, wS_Ret, wS_Seq, wS_Set, wS_Inc, wS_Do, wS_Put, wS_PutC, wS_Arr, wS_ArrC, wS_If, wS_Sw, wS_F0, wS_F1, wM_q, lu_ap, aL_ap, ct_0, ct_1, ct_2, ct_3, ct_4, ct_5, headD_1, List.mem_cons, List.not_mem_nil, or_false, false_or, or_true, true_or, true_and, and_true, false_and, and_false, not_true_eq_false, not_false_eq_true, if_true, if_false, nr_20, nr_24, nr_40, nr_41, nr_44, pt_lt, pt_ge, pt_eq, pt_ne, pt_gt, pt_le, pt_E, pt_N, pt_F, ite_10, ite_11, ne_eq, and_self, or_self, decide_true, decide_false, Bool.not_true, Bool.not_false, Bool.false_eq_true, Nat.reduceEqDiff, Nat.reduceAdd, Int.reduceEq, Int.reduceLT, Int.reduceLE, Int.reduceNeg, Int.reduceAdd, Int.reduceSub, Int.reduceMul, reduceCtorEq, iA, iS, iM, iD, iR, iN, lA, lS, lM, lD, lR, m0, m1, hw.k, f1, hw.p43, hw.a31, hw.n31, e1, o1, htop', nz]
        clear e1
        refine wM_mono hlw ?_
        rintro r w2 e g1
        exact ⟨st'.length, lt, st', _, _, g1, hv2, hE2, rfl⟩
      · have e40 : s = 40 := hss.resolve_left ho
        subst e40
        have e1 : w32 (((st'.length + 1 : Nat) : Int) - 1) = st'.length := by rw [w32_e (by omega)]; omega
        have e2 : cvS 40 = 10025 := rfl
        rw [e2] at htop'
        simp only [cX12_readUnits_2, wE_I, wE_V, wE_F, wE_A, wE_N, wE_1, wE_2, wE_D, wE_B, wE_If, wE_C, wE_CV, wE_SL, wE_SA, wA_0, wA_1, wC_B, wC_E, wC_And, wC_Or, wC_Not, wS_Skip, wS_Brk, wS_Cnt, wS_RetV, wS_Ret, wS_Seq, wS_Set, wS_Inc, wS_Do, wS_Put, wS_PutC, wS_Arr, wS_ArrC, wS_If, wS_Sw, wS_F0, wS_F1, wM_q, lu_ap, aL_ap, ct_0, ct_1, ct_2, ct_3, ct_4, ct_5, headD_1, List.mem_cons, List.not_mem_nil, or_false, false_or, or_true, true_or, true_and, and_true, false_and, and_false, not_true_eq_false, not_false_eq_true, if_true, if_false, nr_20, nr_24, nr_40, nr_41, nr_44, pt_lt, pt_ge, pt_eq, pt_ne, pt_gt, pt_le, pt_E, pt_N, pt_F, ite_10, ite_11, ne_eq, and_self, or_self, decide_true, decide_false, Bool.not_true, Bool.not_false, Bool.false_eq_true, Nat.reduceEqDiff, Nat.reduceAdd, Int.reduceEq, Int.reduceLT, Int.reduceLE, Int.reduceNeg, Int.reduceAdd, Int.reduceSub, Int.reduceMul, reduceCtorEq, iA, iS, iM, iD, iR, iN, lA, lS, lM, lD, lR, m0, hw.k, f1, hw.p43, hw.a31, hw.n31, e1, o1, htop']
        clear e1
        rw [hE, fRl_0]
        exact hM'
/-- the signs at a formula's end are laid -/
theorem m_layEnd (hB : B = 0 ∨ B = 1) (h : Mm S v T M n (MQf u0 M B l0 st c l un op) w (0, i)) (hv : fV st c l op un 1 l0 nm ns) (hop : op = 0) {L : QL} (m0 : L 0 = M) (m1 : L 1 = B) : wS (sWhile cX12_readUnits_3 bX12_readUnits_3 uX12_readUnits_3) L S w (fun k _ L' w' => k = 0 ∧ L' = L ∧ Mm S v T M n (MQf u0 M B l0 (fRl 1 st c l).1 (fRl 1 st c l).2.1 (fRl 1 st c l).2.2 un op) w' (0, i)) := by
  have hlen := hv.2.2.1
  refine wS_While (fun k L' w' => ∃ (st' : List Int) (c' : Int → Int) (l' : Int), L' = L ∧ Mm S v T M n (MQf u0 M B l0 st' c' l' un op) w' (0, i) ∧ fV st' c' l' op un 1 l0 nm ns ∧ fRl 1 st c l = fRl 1 st' c' l' ∧ k = st'.length) st.length (by omega) ?_ ?_
  · exact ⟨st, c, l, rfl, h, hv, rfl, rfl⟩
  · rintro k L' w' ⟨st', c', l', rfl, hM', hv', hE, hk⟩
    have hw := hM'.2.1.1
    have h37 := hM'.live
    obtain ⟨f1, f2, f3, f4⟩ := id hM'.2.2.2.1
    cases st' with
    | nil =>
      have n0 : ¬ (0 : Int) < 0 := by decide
      have f10 : w' M 44 = 0 := f1
      simp only [cX12_readUnits_3, wE_I, wE_V, wE_F, wE_A, wE_N, wE_1, wE_2, wE_D, wE_B, wE_If, wE_C, wE_CV, wE_SL, wE_SA, wA_0, wA_1, wC_B, wC_E, wC_And, wC_Or, wC_Not, wS_Skip, wS_Brk, wS_Cnt, wS_RetV, wS_Ret, wS_Seq, wS_Set, wS_Inc, wS_Do, wS_Put, wS_PutC, wS_Arr, wS_ArrC, wS_If, wS_Sw, wS_F0, wS_F1, wM_q, lu_ap, aL_ap, ct_0, ct_1, ct_2, ct_3, ct_4, ct_5, headD_1, List.mem_cons, List.not_mem_nil, or_false, false_or, or_true, true_or, true_and, and_true, false_and, and_false, not_true_eq_false, not_false_eq_true, if_true, if_false, nr_20, nr_24, nr_40, nr_41, nr_44, pt_lt, pt_ge, pt_eq, pt_ne, pt_gt, pt_le, pt_E, pt_N, pt_F, ite_10, ite_11, ne_eq, and_self, or_self, decide_true, decide_false, Bool.not_true, Bool.not_false, Bool.false_eq_true, Nat.reduceEqDiff, Nat.reduceAdd, Int.reduceEq, Int.reduceLT, Int.reduceLE, Int.reduceNeg, Int.reduceAdd, Int.reduceSub, Int.reduceMul, reduceCtorEq, iA, iS, iM, iD, iR, iN, lA, lS, lM, lD, lR, m0, hw.k, h37, f10, n0]
      rw [hE]
      exact hM'
    | cons s st' =>
      simp only [List.length_cons] at f1 hk
      have hvl := hv'.2.2.1
      simp only [List.length_cons] at hvl
      have hss := hv'.1 s (List.mem_cons_self ..)
      have hbd := hv'.2.2.2
      have hcn := cO_n (s :: st')
      have ho : isOp s := by
        rcases hss with a | a
        · exact a
        · have h2 := hv'.2.1
          subst a
          simp only [cP, if_true] at h2
          have := cP_n st'
          omega
      have hlw := hM'.lw hB ⟨by omega, by omega⟩ (by omega) (by omega)
      have hv2 := hv'.ly ho
      have hE2 := hE.trans (fRl_1 ho)
      have lt : st'.length < k := by omega
      have hpos : (0 : Int) < ((st'.length + 1 : Nat) : Int) := by omega
      simp only [cX12_readUnits_3, bX12_readUnits_3, uX12_readUnits_3, wE_I, wE_V, wE_F, wE_A, wE_N, wE_1, wE_2, wE_D, wE_B, wE_If, wE_C, wE_CV, wE_SL, wE_SA, wA_0, wA_1, wC_B, wC_E, wC_And, wC_Or, wC_Not, wS_Skip, wS_Brk, wS_Cnt, wS_RetV, wS_Ret, wS_Seq, wS_Set, wS_Inc, wS_Do, wS_Put, wS_PutC, wS_Arr, wS_ArrC, wS_If, wS_Sw, wS_F0, wS_F1, wM_q, lu_ap, aL_ap, ct_0, ct_1, ct_2, ct_3, ct_4, ct_5, headD_1, List.mem_cons, List.not_mem_nil, or_false, false_or, or_true, true_or, true_and, and_true, false_and, and_false, not_true_eq_false, not_false_eq_true, if_true, if_false, nr_20, nr_24, nr_40, nr_41, nr_44, pt_lt, pt_ge, pt_eq, pt_ne, pt_gt, pt_le, pt_E, pt_N, pt_F, ite_10, ite_11, ne_eq, and_self, or_self, decide_true, decide_false, Bool.not_true, Bool.not_false, Bool.false_eq_true, Nat.reduceEqDiff, Nat.reduceAdd, Int.reduceEq, Int.reduceLT, Int.reduceLE, Int.reduceNeg, Int.reduceAdd, Int.reduceSub, Int.reduceMul, reduceCtorEq, iA, iS, iM, iD, iR, iN, lA, lS, lM, lD, lR, m0, m1, hw.k, h37, f1, hpos]
      refine wM_mono hlw ?_
      rintro r w2 e g1
      exact ⟨st'.length, lt, st', _, _, g1, hv2, hE2, rfl⟩
end MF
