/-! THE LAW: one call of both -/
def Inv (S : QS) (b sc : Int) (x : Int → Int) (v : QV) : Prop := RX S b v ∧ LtO v (b + 889) ∧ ∀ k, v sc k = x k
def LH (S : QS) (b sc : Int) (x : Int → Int) (len i : Int) (L : QL) (v : QV) : Prop := (L 0 = sc ∧ L 1 = b ∧ L 2 = b + 889 ∧ L 3 = i) ∧ (S.1 sc = 14 ∧ S.2.1 sc = len) ∧ (0 ≤ i ∧ i + 6 ≤ len ∧ len ≤ 3072) ∧ (∀ k, 0 ≤ k → k < len → -2147483648 ≤ x k ∧ x k ≤ 2147483647) ∧ Inv S b sc x v
theorem wS_all {d : QT} {z : Int} {L : QL} {S : QS} {v : QV} {Q : Nat → Int → QL → QV → Prop} (hd : wS d L S v Q) : ∀ cs : List (List Int × QT), (∀ p ∈ cs, wS p.2 L S v Q) → wS (sSwF cs d z) L S v Q
  | [], _ => hd
  | (ks, s) :: cs, h => by
    rw [wS_F1]
    split
    · exact h (ks, s) (List.mem_cons_self ..)
    · exact wS_all hd cs (fun p hp => h p (List.mem_cons_of_mem _ hp))
section LW
variable {S : QS} {b sc len i : Int} {x : Int → Int} {L : QL} {v w u : QV}
theorem RX.kk (h : RX S b v) : S.1 b = 12 ∧ S.1 (b + 889) = 13 ∧ S.1 (b + 889 + 29) = 42 := by
  obtain ⟨P, B, s, ⟨h1, h2, -⟩, -⟩ := h
  exact ⟨h1.k, h2.k, h2.a29⟩
theorem law_case {f g : QM} {zs : List Int} (hI : Inv S b sc x v) (hs : S.1 sc = 14) (hf : KM Wc f) (hg : KM Wn g) (h : EQ S b f g zs v) : ∃ r w u, f (b :: zs) S v = some (r, w) ∧ (∀ k, w sc k = x k) ∧ g ((b + 889) :: zs) S w = some (r, u) ∧ Inv S b sc x u := by
  obtain ⟨h1, h2, h3⟩ := hI
  have hk := h1.kk
  obtain ⟨r, w, e1, r', u, e2, rfl, h4⟩ := h
  have kf := hf _ _ _ _ e1
  have kg := hg _ _ _ _ e2
  dsimp only at kf kg
  have ew : ∀ k, w sc k = x k := fun k => by rw [kf sc k (by rw [hs]; rfl)]; exact h3 k
  refine ⟨r, w, u, e1, ew, e2, h4, fun k hk' => ?_, fun k => ?_⟩
  · rw [kg _ _ (by rw [hk.2.2]; rfl), kf _ _ (by rw [hk.2.2]; rfl)]
    exact h2 k hk'
  · rw [kg _ _ (by rw [hs]; rfl)]
    exact ew k
theorem law_feed {x1 x2 x3 x4 x5 : Int} (hI : Inv S b sc x v) (hs : S.1 sc = 14) : ∃ r w u, mX11_feed [b, x1, x2, x3, x4, x5] S v = some (r, w) ∧ (∀ k, w sc k = x k) ∧ mX12_feed [b + 889, x1, x2, x3, x4, x5] S w = some (r, u) ∧ Inv S b sc x u := by
  obtain ⟨h1, h2, h3⟩ := hI
  have hk := h1.kk
  obtain ⟨r, w, e1, r', u, e2, rfl, h4⟩ := g_feed (x1 := x1) (x2 := x2) (x3 := x3) (x4 := x4) (x5 := x5) h1
  have kf := kX11_feed _ _ _ _ e1
  have kg := kX12_feed _ _ _ _ e2
  dsimp only at kf kg
  have ew : ∀ k, w sc k = x k := fun k => by rw [kf sc k (by rw [hs]; rfl)]; exact h3 k
  have ew29 : ∀ k, w (b + 889 + 29) k = v (b + 889 + 29) k := fun k => kf _ _ (by rw [hk.2.2]; rfl)
  refine ⟨r, w, u, e1, ew, e2, h4, fun k hk' => ?_, fun k => ?_⟩
  · have eu : u (b + 889 + 29) k = w (b + 889 + 29) k := by
      obtain ⟨P, B, s, hR⟩ := h1
      have tp := hR.2.2.2.2.2.2.2.2.2.2.1
      have km : LMo S w (b + 889) := hR.1.2.1.keep (Kc.of kX11_feed e1).p
      have e30 : w (b + 889) 30 = v (b + 889) 30 := kf _ _ (by rw [hk.2.1]; rfl)
      by_cases h0 : 980 < v (b + 889) 30
      · have := m_feed0 (x1 := x1) (x2 := x2) (x3 := x3) (x4 := x4) (x5 := x5) km e30 ⟨h0, tp.2.2.1⟩
        rw [e2] at this
        cases this
        rfl
      · obtain ⟨r2, u2, e3, -, -, -, -, c4⟩ := m_feed km (x1 := x1) (x2 := x2) (x3 := x3) (x4 := x4) (x5 := x5) e30 (by omega)
        rw [e2] at e3
        cases e3
        exact c4 _ _ (by omega) (by omega)
    rw [eu, ew29]
    exact h2 k hk'
  · rw [kg _ _ (by rw [hs]; rfl)]
    exact ew k
theorem lc_0 (h : LH S b sc x len i L v) : wS (sSeq (sIf (cB qne (eCallV 11 mX11_feed [(eV 1), (eA 14 (eV 0) (e2 iA (eV 3) (eI 1))), (eA 14 (eV 0) (e2 iA (eV 3) (eI 2))), (eA 14 (eV 0) (e2 iA (eV 3) (eI 3))), (eA 14 (eV 0) (e2 iA (eV 3) (eI 4))), (eA 14 (eV 0) (e2 iA (eV 3) (eI 5)))]) (eCallV 12 mX12_feed [(eV 2), (eA 14 (eV 0) (e2 iA (eV 3) (eI 1))), (eA 14 (eV 0) (e2 iA (eV 3) (eI 2))), (eA 14 (eV 0) (e2 iA (eV 3) (eI 3))), (eA 14 (eV 0) (e2 iA (eV 3) (eI 4))), (eA 14 (eV 0) (e2 iA (eV 3) (eI 5)))])) (sRet (eI 0)) sSkip) sBrk) L S v (fun k _ L' w => k = 1 ∧ L' = L ∧ Inv S b sc x w) := by
  obtain ⟨⟨l0, l1, l2, l3⟩, ⟨hs, hn⟩, ⟨i0, i1, i2⟩, hb, hI⟩ := h
  obtain ⟨k11, k12, -⟩ := hI.1.kk
  have o1 : 0 ≤ i + 1 ∧ i + 1 < len := by omega
  have y1 := hI.2.2 (i + 1)
  have o2 : 0 ≤ i + 2 ∧ i + 2 < len := by omega
  have y2 := hI.2.2 (i + 2)
  have o3 : 0 ≤ i + 3 ∧ i + 3 < len := by omega
  have y3 := hI.2.2 (i + 3)
  have o4 : 0 ≤ i + 4 ∧ i + 4 < len := by omega
  have y4 := hI.2.2 (i + 4)
  have o5 : 0 ≤ i + 5 ∧ i + 5 < len := by omega
  have y5 := hI.2.2 (i + 5)
  obtain ⟨r, w, u, e1, e2, e3, e4⟩ := law_feed (x1 := x (i + 1)) (x2 := x (i + 2)) (x3 := x (i + 3)) (x4 := x (i + 4)) (x5 := x (i + 5)) hI hs
  have z1 := e2 (i + 1)
  have z2 := e2 (i + 2)
  have z3 := e2 (i + 3)
  have z4 := e2 (i + 4)
  have z5 := e2 (i + 5)
  have w1 : w32 (i + 1) = i + 1 := by clear hI; exact w32_e (by omega)
  have w2 : w32 (i + 2) = i + 2 := by clear hI; exact w32_e (by omega)
  have w3 : w32 (i + 3) = i + 3 := by clear hI; exact w32_e (by omega)
  have w4 : w32 (i + 4) = i + 4 := by clear hI; exact w32_e (by omega)
  have w5 : w32 (i + 5) = i + 5 := by clear hI; exact w32_e (by omega)
  simp only [wE_I, wE_V, wE_F, wE_A, wE_N, wE_1, wE_2, wE_D, wE_B, wE_If, wE_C, wE_CV, wE_SL, wE_SA, wA_0, wA_1, wC_B, wC_E, wC_And, wC_Or, wC_Not, wS_Skip, wS_Brk, wS_Cnt, wS_RetV, wS_Ret, wS_Seq, wS_Set, wS_Inc, wS_Do, wS_Put, wS_PutC, wS_Arr, wS_ArrC, wS_If, wS_Sw, wS_F0, wS_F1, wM_q, lu_ap, aL_ap, ct_0, ct_1, ct_2, ct_3, ct_4, ct_5, headD_1, List.mem_cons, List.not_mem_nil, or_false, false_or, or_true, true_or, true_and, and_true, false_and, and_false, not_true_eq_false, not_false_eq_true, if_true, if_false, nr_20, nr_24, nr_40, nr_41, nr_44, pt_lt, pt_ge, pt_eq, pt_ne, pt_gt, pt_le, pt_E, pt_N, pt_F, ite_10, ite_11, ne_eq, and_self, or_self, decide_true, decide_false, Bool.not_true, Bool.not_false, Bool.false_eq_true, Nat.reduceEqDiff, Nat.reduceAdd, Int.reduceEq, Int.reduceLT, Int.reduceLE, Int.reduceNeg, Int.reduceAdd, Int.reduceSub, Int.reduceMul, reduceCtorEq, iA, iS, iM, iD, iR, iN, lA, lS, lM, lD, lR, l0, l1, l2, l3, hs, hn, k11, k12, wM_of e1, wM_of e3, w1, o1, y1, z1, w2, o2, y2, z2, w3, o3, y3, z3, w4, o4, y4, z4, w5, o5, y5, z5]
  exact e4
theorem lc_1 (h : LH S b sc x len i L v) : wS (sSeq (sIf (cB qne (eCallV 11 mX11_end [(eV 1), (eA 14 (eV 0) (e2 iA (eV 3) (eI 1)))]) (eCallV 12 mX12_end [(eV 2), (eA 14 (eV 0) (e2 iA (eV 3) (eI 1)))])) (sRet (eI 0)) sSkip) sBrk) L S v (fun k _ L' w => k = 1 ∧ L' = L ∧ Inv S b sc x w) := by
  obtain ⟨⟨l0, l1, l2, l3⟩, ⟨hs, hn⟩, ⟨i0, i1, i2⟩, hb, hI⟩ := h
  obtain ⟨k11, k12, -⟩ := hI.1.kk
  have o1 : 0 ≤ i + 1 ∧ i + 1 < len := by omega
  have y1 := hI.2.2 (i + 1)
  obtain ⟨r, w, u, e1, e2, e3, e4⟩ := law_case hI hs kX11_end knX12_end (zs := [x (i + 1)]) (g_end hI.1)
  have z1 := e2 (i + 1)
  have w1 : w32 (i + 1) = i + 1 := by clear hI; exact w32_e (by omega)
  simp only [wE_I, wE_V, wE_F, wE_A, wE_N, wE_1, wE_2, wE_D, wE_B, wE_If, wE_C, wE_CV, wE_SL, wE_SA, wA_0, wA_1, wC_B, wC_E, wC_And, wC_Or, wC_Not, wS_Skip, wS_Brk, wS_Cnt, wS_RetV, wS_Ret, wS_Seq, wS_Set, wS_Inc, wS_Do, wS_Put, wS_PutC, wS_Arr, wS_ArrC, wS_If, wS_Sw, wS_F0, wS_F1, wM_q, lu_ap, aL_ap, ct_0, ct_1, ct_2, ct_3, ct_4, ct_5, headD_1, List.mem_cons, List.not_mem_nil, or_false, false_or, or_true, true_or, true_and, and_true, false_and, and_false, not_true_eq_false, not_false_eq_true, if_true, if_false, nr_20, nr_24, nr_40, nr_41, nr_44, pt_lt, pt_ge, pt_eq, pt_ne, pt_gt, pt_le, pt_E, pt_N, pt_F, ite_10, ite_11, ne_eq, and_self, or_self, decide_true, decide_false, Bool.not_true, Bool.not_false, Bool.false_eq_true, Nat.reduceEqDiff, Nat.reduceAdd, Int.reduceEq, Int.reduceLT, Int.reduceLE, Int.reduceNeg, Int.reduceAdd, Int.reduceSub, Int.reduceMul, reduceCtorEq, iA, iS, iM, iD, iR, iN, lA, lS, lM, lD, lR, l0, l1, l2, l3, hs, hn, k11, k12, wM_of e1, wM_of e3, w1, o1, y1, z1]
  exact e4
theorem lc_2 (h : LH S b sc x len i L v) : wS (sSeq (sIf (cB qne (eCallV 11 mX11_store [(eV 1)]) (eCallV 12 mX12_store [(eV 2)])) (sRet (eI 0)) sSkip) sBrk) L S v (fun k _ L' w => k = 1 ∧ L' = L ∧ Inv S b sc x w) := by
  obtain ⟨⟨l0, l1, l2, l3⟩, ⟨hs, hn⟩, ⟨i0, i1, i2⟩, hb, hI⟩ := h
  obtain ⟨k11, k12, -⟩ := hI.1.kk
  obtain ⟨r, w, u, e1, e2, e3, e4⟩ := law_case hI hs kX11_store knX12_store (zs := []) (g_store hI.1 hI.2.1)
  simp only [wE_I, wE_V, wE_F, wE_A, wE_N, wE_1, wE_2, wE_D, wE_B, wE_If, wE_C, wE_CV, wE_SL, wE_SA, wA_0, wA_1, wC_B, wC_E, wC_And, wC_Or, wC_Not, wS_Skip, wS_Brk, wS_Cnt, wS_RetV, wS_Ret, wS_Seq, wS_Set, wS_Inc, wS_Do, wS_Put, wS_PutC, wS_Arr, wS_ArrC, wS_If, wS_Sw, wS_F0, wS_F1, wM_q, lu_ap, aL_ap, ct_0, ct_1, ct_2, ct_3, ct_4, ct_5, headD_1, List.mem_cons, List.not_mem_nil, or_false, false_or, or_true, true_or, true_and, and_true, false_and, and_false, not_true_eq_false, not_false_eq_true, if_true, if_false, nr_20, nr_24, nr_40, nr_41, nr_44, pt_lt, pt_ge, pt_eq, pt_ne, pt_gt, pt_le, pt_E, pt_N, pt_F, ite_10, ite_11, ne_eq, and_self, or_self, decide_true, decide_false, Bool.not_true, Bool.not_false, Bool.false_eq_true, Nat.reduceEqDiff, Nat.reduceAdd, Int.reduceEq, Int.reduceLT, Int.reduceLE, Int.reduceNeg, Int.reduceAdd, Int.reduceSub, Int.reduceMul, reduceCtorEq, iA, iS, iM, iD, iR, iN, lA, lS, lM, lD, lR, l0, l1, l2, l3, hs, hn, k11, k12, wM_of e1, wM_of e3]
  exact e4
theorem lc_3 (h : LH S b sc x len i L v) : wS (sSeq (sIf (cB qne (eCallV 11 mX11_fault [(eV 1), (eA 14 (eV 0) (e2 iA (eV 3) (eI 1)))]) (eCallV 12 mX12_fault [(eV 2), (eA 14 (eV 0) (e2 iA (eV 3) (eI 1)))])) (sRet (eI 0)) sSkip) sBrk) L S v (fun k _ L' w => k = 1 ∧ L' = L ∧ Inv S b sc x w) := by
  obtain ⟨⟨l0, l1, l2, l3⟩, ⟨hs, hn⟩, ⟨i0, i1, i2⟩, hb, hI⟩ := h
  obtain ⟨k11, k12, -⟩ := hI.1.kk
  have o1 : 0 ≤ i + 1 ∧ i + 1 < len := by omega
  have y1 := hI.2.2 (i + 1)
  obtain ⟨r, w, u, e1, e2, e3, e4⟩ := law_case hI hs kX11_fault knX12_fault (zs := [x (i + 1)]) (g_fault hI.1)
  have z1 := e2 (i + 1)
  have w1 : w32 (i + 1) = i + 1 := by clear hI; exact w32_e (by omega)
  simp only [wE_I, wE_V, wE_F, wE_A, wE_N, wE_1, wE_2, wE_D, wE_B, wE_If, wE_C, wE_CV, wE_SL, wE_SA, wA_0, wA_1, wC_B, wC_E, wC_And, wC_Or, wC_Not, wS_Skip, wS_Brk, wS_Cnt, wS_RetV, wS_Ret, wS_Seq, wS_Set, wS_Inc, wS_Do, wS_Put, wS_PutC, wS_Arr, wS_ArrC, wS_If, wS_Sw, wS_F0, wS_F1, wM_q, lu_ap, aL_ap, ct_0, ct_1, ct_2, ct_3, ct_4, ct_5, headD_1, List.mem_cons, List.not_mem_nil, or_false, false_or, or_true, true_or, true_and, and_true, false_and, and_false, not_true_eq_false, not_false_eq_true, if_true, if_false, nr_20, nr_24, nr_40, nr_41, nr_44, pt_lt, pt_ge, pt_eq, pt_ne, pt_gt, pt_le, pt_E, pt_N, pt_F, ite_10, ite_11, ne_eq, and_self, or_self, decide_true, decide_false, Bool.not_true, Bool.not_false, Bool.false_eq_true, Nat.reduceEqDiff, Nat.reduceAdd, Int.reduceEq, Int.reduceLT, Int.reduceLE, Int.reduceNeg, Int.reduceAdd, Int.reduceSub, Int.reduceMul, reduceCtorEq, iA, iS, iM, iD, iR, iN, lA, lS, lM, lD, lR, l0, l1, l2, l3, hs, hn, k11, k12, wM_of e1, wM_of e3, w1, o1, y1, z1]
  exact e4
theorem lc_4 (h : LH S b sc x len i L v) : wS (sSeq (sIf (cB qne (eCallV 11 mX11_read [(eV 1), (eA 14 (eV 0) (e2 iA (eV 3) (eI 1))), (eA 14 (eV 0) (e2 iA (eV 3) (eI 2))), (eA 14 (eV 0) (e2 iA (eV 3) (eI 3))), (eA 14 (eV 0) (e2 iA (eV 3) (eI 4))), (eA 14 (eV 0) (e2 iA (eV 3) (eI 5)))]) (eCallV 12 mX12_read [(eV 2), (eA 14 (eV 0) (e2 iA (eV 3) (eI 1))), (eA 14 (eV 0) (e2 iA (eV 3) (eI 2))), (eA 14 (eV 0) (e2 iA (eV 3) (eI 3))), (eA 14 (eV 0) (e2 iA (eV 3) (eI 4))), (eA 14 (eV 0) (e2 iA (eV 3) (eI 5)))])) (sRet (eI 0)) sSkip) sBrk) L S v (fun k _ L' w => k = 1 ∧ L' = L ∧ Inv S b sc x w) := by
  obtain ⟨⟨l0, l1, l2, l3⟩, ⟨hs, hn⟩, ⟨i0, i1, i2⟩, hb, hI⟩ := h
  obtain ⟨k11, k12, -⟩ := hI.1.kk
  have o1 : 0 ≤ i + 1 ∧ i + 1 < len := by omega
  have y1 := hI.2.2 (i + 1)
  have o2 : 0 ≤ i + 2 ∧ i + 2 < len := by omega
  have y2 := hI.2.2 (i + 2)
  have o3 : 0 ≤ i + 3 ∧ i + 3 < len := by omega
  have y3 := hI.2.2 (i + 3)
  have o4 : 0 ≤ i + 4 ∧ i + 4 < len := by omega
  have y4 := hI.2.2 (i + 4)
  have o5 : 0 ≤ i + 5 ∧ i + 5 < len := by omega
  have y5 := hI.2.2 (i + 5)
  obtain ⟨r, w, u, e1, e2, e3, e4⟩ := law_case hI hs kX11_read knX12_read (zs := [x (i + 1), x (i + 2), x (i + 3), x (i + 4), x (i + 5)]) (g_read hI.1 (hb _ (by omega) (by omega)))
  have z1 := e2 (i + 1)
  have z2 := e2 (i + 2)
  have z3 := e2 (i + 3)
  have z4 := e2 (i + 4)
  have z5 := e2 (i + 5)
  have w1 : w32 (i + 1) = i + 1 := by clear hI; exact w32_e (by omega)
  have w2 : w32 (i + 2) = i + 2 := by clear hI; exact w32_e (by omega)
  have w3 : w32 (i + 3) = i + 3 := by clear hI; exact w32_e (by omega)
  have w4 : w32 (i + 4) = i + 4 := by clear hI; exact w32_e (by omega)
  have w5 : w32 (i + 5) = i + 5 := by clear hI; exact w32_e (by omega)
  simp only [wE_I, wE_V, wE_F, wE_A, wE_N, wE_1, wE_2, wE_D, wE_B, wE_If, wE_C, wE_CV, wE_SL, wE_SA, wA_0, wA_1, wC_B, wC_E, wC_And, wC_Or, wC_Not, wS_Skip, wS_Brk, wS_Cnt, wS_RetV, wS_Ret, wS_Seq, wS_Set, wS_Inc, wS_Do, wS_Put, wS_PutC, wS_Arr, wS_ArrC, wS_If, wS_Sw, wS_F0, wS_F1, wM_q, lu_ap, aL_ap, ct_0, ct_1, ct_2, ct_3, ct_4, ct_5, headD_1, List.mem_cons, List.not_mem_nil, or_false, false_or, or_true, true_or, true_and, and_true, false_and, and_false, not_true_eq_false, not_false_eq_true, if_true, if_false, nr_20, nr_24, nr_40, nr_41, nr_44, pt_lt, pt_ge, pt_eq, pt_ne, pt_gt, pt_le, pt_E, pt_N, pt_F, ite_10, ite_11, ne_eq, and_self, or_self, decide_true, decide_false, Bool.not_true, Bool.not_false, Bool.false_eq_true, Nat.reduceEqDiff, Nat.reduceAdd, Int.reduceEq, Int.reduceLT, Int.reduceLE, Int.reduceNeg, Int.reduceAdd, Int.reduceSub, Int.reduceMul, reduceCtorEq, iA, iS, iM, iD, iR, iN, lA, lS, lM, lD, lR, l0, l1, l2, l3, hs, hn, k11, k12, wM_of e1, wM_of e3, w1, o1, y1, z1, w2, o2, y2, z2, w3, o3, y3, z3, w4, o4, y4, z4, w5, o5, y5, z5]
  exact e4
theorem lc_5 (h : LH S b sc x len i L v) : wS (sSeq (sIf (cB qne (eCallV 11 mX11_turn [(eV 1), (eA 14 (eV 0) (e2 iA (eV 3) (eI 1))), (eA 14 (eV 0) (e2 iA (eV 3) (eI 2))), (eA 14 (eV 0) (e2 iA (eV 3) (eI 3)))]) (eCallV 12 mX12_turn [(eV 2), (eA 14 (eV 0) (e2 iA (eV 3) (eI 1))), (eA 14 (eV 0) (e2 iA (eV 3) (eI 2))), (eA 14 (eV 0) (e2 iA (eV 3) (eI 3)))])) (sRet (eI 0)) sSkip) sBrk) L S v (fun k _ L' w => k = 1 ∧ L' = L ∧ Inv S b sc x w) := by
  obtain ⟨⟨l0, l1, l2, l3⟩, ⟨hs, hn⟩, ⟨i0, i1, i2⟩, hb, hI⟩ := h
  obtain ⟨k11, k12, -⟩ := hI.1.kk
  have o1 : 0 ≤ i + 1 ∧ i + 1 < len := by omega
  have y1 := hI.2.2 (i + 1)
  have o2 : 0 ≤ i + 2 ∧ i + 2 < len := by omega
  have y2 := hI.2.2 (i + 2)
  have o3 : 0 ≤ i + 3 ∧ i + 3 < len := by omega
  have y3 := hI.2.2 (i + 3)
  obtain ⟨r, w, u, e1, e2, e3, e4⟩ := law_case hI hs kX11_turn knX12_turn (zs := [x (i + 1), x (i + 2), x (i + 3)]) (g_turn hI.1)
  have z1 := e2 (i + 1)
  have z2 := e2 (i + 2)
  have z3 := e2 (i + 3)
  have w1 : w32 (i + 1) = i + 1 := by clear hI; exact w32_e (by omega)
  have w2 : w32 (i + 2) = i + 2 := by clear hI; exact w32_e (by omega)
  have w3 : w32 (i + 3) = i + 3 := by clear hI; exact w32_e (by omega)
  simp only [wE_I, wE_V, wE_F, wE_A, wE_N, wE_1, wE_2, wE_D, wE_B, wE_If, wE_C, wE_CV, wE_SL, wE_SA, wA_0, wA_1, wC_B, wC_E, wC_And, wC_Or, wC_Not, wS_Skip, wS_Brk, wS_Cnt, wS_RetV, wS_Ret, wS_Seq, wS_Set, wS_Inc, wS_Do, wS_Put, wS_PutC, wS_Arr, wS_ArrC, wS_If, wS_Sw, wS_F0, wS_F1, wM_q, lu_ap, aL_ap, ct_0, ct_1, ct_2, ct_3, ct_4, ct_5, headD_1, List.mem_cons, List.not_mem_nil, or_false, false_or, or_true, true_or, true_and, and_true, false_and, and_false, not_true_eq_false, not_false_eq_true, if_true, if_false, nr_20, nr_24, nr_40, nr_41, nr_44, pt_lt, pt_ge, pt_eq, pt_ne, pt_gt, pt_le, pt_E, pt_N, pt_F, ite_10, ite_11, ne_eq, and_self, or_self, decide_true, decide_false, Bool.not_true, Bool.not_false, Bool.false_eq_true, Nat.reduceEqDiff, Nat.reduceAdd, Int.reduceEq, Int.reduceLT, Int.reduceLE, Int.reduceNeg, Int.reduceAdd, Int.reduceSub, Int.reduceMul, reduceCtorEq, iA, iS, iM, iD, iR, iN, lA, lS, lM, lD, lR, l0, l1, l2, l3, hs, hn, k11, k12, wM_of e1, wM_of e3, w1, o1, y1, z1, w2, o2, y2, z2, w3, o3, y3, z3]
  exact e4
theorem lc_6 (h : LH S b sc x len i L v) : wS (sSeq (sIf (cB qne (eCallV 11 mX11_undo [(eV 1)]) (eCallV 12 mX12_undo [(eV 2)])) (sRet (eI 0)) sSkip) sBrk) L S v (fun k _ L' w => k = 1 ∧ L' = L ∧ Inv S b sc x w) := by
  obtain ⟨⟨l0, l1, l2, l3⟩, ⟨hs, hn⟩, ⟨i0, i1, i2⟩, hb, hI⟩ := h
  obtain ⟨k11, k12, -⟩ := hI.1.kk
  obtain ⟨r, w, u, e1, e2, e3, e4⟩ := law_case hI hs kX11_undo knX12_undo (zs := []) (g_undo hI.1)
  simp only [wE_I, wE_V, wE_F, wE_A, wE_N, wE_1, wE_2, wE_D, wE_B, wE_If, wE_C, wE_CV, wE_SL, wE_SA, wA_0, wA_1, wC_B, wC_E, wC_And, wC_Or, wC_Not, wS_Skip, wS_Brk, wS_Cnt, wS_RetV, wS_Ret, wS_Seq, wS_Set, wS_Inc, wS_Do, wS_Put, wS_PutC, wS_Arr, wS_ArrC, wS_If, wS_Sw, wS_F0, wS_F1, wM_q, lu_ap, aL_ap, ct_0, ct_1, ct_2, ct_3, ct_4, ct_5, headD_1, List.mem_cons, List.not_mem_nil, or_false, false_or, or_true, true_or, true_and, and_true, false_and, and_false, not_true_eq_false, not_false_eq_true, if_true, if_false, nr_20, nr_24, nr_40, nr_41, nr_44, pt_lt, pt_ge, pt_eq, pt_ne, pt_gt, pt_le, pt_E, pt_N, pt_F, ite_10, ite_11, ne_eq, and_self, or_self, decide_true, decide_false, Bool.not_true, Bool.not_false, Bool.false_eq_true, Nat.reduceEqDiff, Nat.reduceAdd, Int.reduceEq, Int.reduceLT, Int.reduceLE, Int.reduceNeg, Int.reduceAdd, Int.reduceSub, Int.reduceMul, reduceCtorEq, iA, iS, iM, iD, iR, iN, lA, lS, lM, lD, lR, l0, l1, l2, l3, hs, hn, k11, k12, wM_of e1, wM_of e3]
  exact e4
theorem lc_7 (h : LH S b sc x len i L v) : wS (sSeq (sIf (cB qne (eCallV 11 mX11_redo [(eV 1)]) (eCallV 12 mX12_redo [(eV 2)])) (sRet (eI 0)) sSkip) sBrk) L S v (fun k _ L' w => k = 1 ∧ L' = L ∧ Inv S b sc x w) := by
  obtain ⟨⟨l0, l1, l2, l3⟩, ⟨hs, hn⟩, ⟨i0, i1, i2⟩, hb, hI⟩ := h
  obtain ⟨k11, k12, -⟩ := hI.1.kk
  obtain ⟨r, w, u, e1, e2, e3, e4⟩ := law_case hI hs kX11_redo knX12_redo (zs := []) (g_redo hI.1)
  simp only [wE_I, wE_V, wE_F, wE_A, wE_N, wE_1, wE_2, wE_D, wE_B, wE_If, wE_C, wE_CV, wE_SL, wE_SA, wA_0, wA_1, wC_B, wC_E, wC_And, wC_Or, wC_Not, wS_Skip, wS_Brk, wS_Cnt, wS_RetV, wS_Ret, wS_Seq, wS_Set, wS_Inc, wS_Do, wS_Put, wS_PutC, wS_Arr, wS_ArrC, wS_If, wS_Sw, wS_F0, wS_F1, wM_q, lu_ap, aL_ap, ct_0, ct_1, ct_2, ct_3, ct_4, ct_5, headD_1, List.mem_cons, List.not_mem_nil, or_false, false_or, or_true, true_or, true_and, and_true, false_and, and_false, not_true_eq_false, not_false_eq_true, if_true, if_false, nr_20, nr_24, nr_40, nr_41, nr_44, pt_lt, pt_ge, pt_eq, pt_ne, pt_gt, pt_le, pt_E, pt_N, pt_F, ite_10, ite_11, ne_eq, and_self, or_self, decide_true, decide_false, Bool.not_true, Bool.not_false, Bool.false_eq_true, Nat.reduceEqDiff, Nat.reduceAdd, Int.reduceEq, Int.reduceLT, Int.reduceLE, Int.reduceNeg, Int.reduceAdd, Int.reduceSub, Int.reduceMul, reduceCtorEq, iA, iS, iM, iD, iR, iN, lA, lS, lM, lD, lR, l0, l1, l2, l3, hs, hn, k11, k12, wM_of e1, wM_of e3]
  exact e4
theorem lc_8 (h : LH S b sc x len i L v) : wS (sSeq (sIf (cB qne (eCallV 11 mX11_measure [(eV 1), (eA 14 (eV 0) (e2 iA (eV 3) (eI 1))), (eA 14 (eV 0) (e2 iA (eV 3) (eI 2)))]) (eCallV 12 mX12_measure [(eV 2), (eA 14 (eV 0) (e2 iA (eV 3) (eI 1))), (eA 14 (eV 0) (e2 iA (eV 3) (eI 2)))])) (sRet (eI 0)) sSkip) sBrk) L S v (fun k _ L' w => k = 1 ∧ L' = L ∧ Inv S b sc x w) := by
  obtain ⟨⟨l0, l1, l2, l3⟩, ⟨hs, hn⟩, ⟨i0, i1, i2⟩, hb, hI⟩ := h
  obtain ⟨k11, k12, -⟩ := hI.1.kk
  have o1 : 0 ≤ i + 1 ∧ i + 1 < len := by omega
  have y1 := hI.2.2 (i + 1)
  have o2 : 0 ≤ i + 2 ∧ i + 2 < len := by omega
  have y2 := hI.2.2 (i + 2)
  obtain ⟨r, w, u, e1, e2, e3, e4⟩ := law_case hI hs kX11_measure knX12_measure (zs := [x (i + 1), x (i + 2)]) (g_measure hI.1)
  have z1 := e2 (i + 1)
  have z2 := e2 (i + 2)
  have w1 : w32 (i + 1) = i + 1 := by clear hI; exact w32_e (by omega)
  have w2 : w32 (i + 2) = i + 2 := by clear hI; exact w32_e (by omega)
  simp only [wE_I, wE_V, wE_F, wE_A, wE_N, wE_1, wE_2, wE_D, wE_B, wE_If, wE_C, wE_CV, wE_SL, wE_SA, wA_0, wA_1, wC_B, wC_E, wC_And, wC_Or, wC_Not, wS_Skip, wS_Brk, wS_Cnt, wS_RetV, wS_Ret, wS_Seq, wS_Set, wS_Inc, wS_Do, wS_Put, wS_PutC, wS_Arr, wS_ArrC, wS_If, wS_Sw, wS_F0, wS_F1, wM_q, lu_ap, aL_ap, ct_0, ct_1, ct_2, ct_3, ct_4, ct_5, headD_1, List.mem_cons, List.not_mem_nil, or_false, false_or, or_true, true_or, true_and, and_true, false_and, and_false, not_true_eq_false, not_false_eq_true, if_true, if_false, nr_20, nr_24, nr_40, nr_41, nr_44, pt_lt, pt_ge, pt_eq, pt_ne, pt_gt, pt_le, pt_E, pt_N, pt_F, ite_10, ite_11, ne_eq, and_self, or_self, decide_true, decide_false, Bool.not_true, Bool.not_false, Bool.false_eq_true, Nat.reduceEqDiff, Nat.reduceAdd, Int.reduceEq, Int.reduceLT, Int.reduceLE, Int.reduceNeg, Int.reduceAdd, Int.reduceSub, Int.reduceMul, reduceCtorEq, iA, iS, iM, iD, iR, iN, lA, lS, lM, lD, lR, l0, l1, l2, l3, hs, hn, k11, k12, wM_of e1, wM_of e3, w1, o1, y1, z1, w2, o2, y2, z2]
  exact e4
theorem lc_9 (h : LH S b sc x len i L v) : wS (sSeq (sIf (cB qne (eCallV 11 mX11_rate [(eV 1), (eA 14 (eV 0) (e2 iA (eV 3) (eI 1)))]) (eCallV 12 mX12_rate [(eV 2), (eA 14 (eV 0) (e2 iA (eV 3) (eI 1)))])) (sRet (eI 0)) sSkip) sBrk) L S v (fun k _ L' w => k = 1 ∧ L' = L ∧ Inv S b sc x w) := by
  obtain ⟨⟨l0, l1, l2, l3⟩, ⟨hs, hn⟩, ⟨i0, i1, i2⟩, hb, hI⟩ := h
  obtain ⟨k11, k12, -⟩ := hI.1.kk
  have o1 : 0 ≤ i + 1 ∧ i + 1 < len := by omega
  have y1 := hI.2.2 (i + 1)
  obtain ⟨r, w, u, e1, e2, e3, e4⟩ := law_case hI hs kX11_rate knX12_rate (zs := [x (i + 1)]) (g_rate hI.1)
  have z1 := e2 (i + 1)
  have w1 : w32 (i + 1) = i + 1 := by clear hI; exact w32_e (by omega)
  simp only [wE_I, wE_V, wE_F, wE_A, wE_N, wE_1, wE_2, wE_D, wE_B, wE_If, wE_C, wE_CV, wE_SL, wE_SA, wA_0, wA_1, wC_B, wC_E, wC_And, wC_Or, wC_Not, wS_Skip, wS_Brk, wS_Cnt, wS_RetV, wS_Ret, wS_Seq, wS_Set, wS_Inc, wS_Do, wS_Put, wS_PutC, wS_Arr, wS_ArrC, wS_If, wS_Sw, wS_F0, wS_F1, wM_q, lu_ap, aL_ap, ct_0, ct_1, ct_2, ct_3, ct_4, ct_5, headD_1, List.mem_cons, List.not_mem_nil, or_false, false_or, or_true, true_or, true_and, and_true, false_and, and_false, not_true_eq_false, not_false_eq_true, if_true, if_false, nr_20, nr_24, nr_40, nr_41, nr_44, pt_lt, pt_ge, pt_eq, pt_ne, pt_gt, pt_le, pt_E, pt_N, pt_F, ite_10, ite_11, ne_eq, and_self, or_self, decide_true, decide_false, Bool.not_true, Bool.not_false, Bool.false_eq_true, Nat.reduceEqDiff, Nat.reduceAdd, Int.reduceEq, Int.reduceLT, Int.reduceLE, Int.reduceNeg, Int.reduceAdd, Int.reduceSub, Int.reduceMul, reduceCtorEq, iA, iS, iM, iD, iR, iN, lA, lS, lM, lD, lR, l0, l1, l2, l3, hs, hn, k11, k12, wM_of e1, wM_of e3, w1, o1, y1, z1]
  exact e4
theorem lc_10 (h : LH S b sc x len i L v) : wS (sSeq (sIf (cB qne (eCallV 11 mX11_value [(eV 1), (eA 14 (eV 0) (e2 iA (eV 3) (eI 1)))]) (eCallV 12 mX12_value [(eV 2), (eA 14 (eV 0) (e2 iA (eV 3) (eI 1)))])) (sRet (eI 0)) sSkip) sBrk) L S v (fun k _ L' w => k = 1 ∧ L' = L ∧ Inv S b sc x w) := by
  obtain ⟨⟨l0, l1, l2, l3⟩, ⟨hs, hn⟩, ⟨i0, i1, i2⟩, hb, hI⟩ := h
  obtain ⟨k11, k12, -⟩ := hI.1.kk
  have o1 : 0 ≤ i + 1 ∧ i + 1 < len := by omega
  have y1 := hI.2.2 (i + 1)
  obtain ⟨r, w, u, e1, e2, e3, e4⟩ := law_case hI hs kX11_value knX12_value (zs := [x (i + 1)]) (g_value hI.1)
  have z1 := e2 (i + 1)
  have w1 : w32 (i + 1) = i + 1 := by clear hI; exact w32_e (by omega)
  simp only [wE_I, wE_V, wE_F, wE_A, wE_N, wE_1, wE_2, wE_D, wE_B, wE_If, wE_C, wE_CV, wE_SL, wE_SA, wA_0, wA_1, wC_B, wC_E, wC_And, wC_Or, wC_Not, wS_Skip, wS_Brk, wS_Cnt, wS_RetV, wS_Ret, wS_Seq, wS_Set, wS_Inc, wS_Do, wS_Put, wS_PutC, wS_Arr, wS_ArrC, wS_If, wS_Sw, wS_F0, wS_F1, wM_q, lu_ap, aL_ap, ct_0, ct_1, ct_2, ct_3, ct_4, ct_5, headD_1, List.mem_cons, List.not_mem_nil, or_false, false_or, or_true, true_or, true_and, and_true, false_and, and_false, not_true_eq_false, not_false_eq_true, if_true, if_false, nr_20, nr_24, nr_40, nr_41, nr_44, pt_lt, pt_ge, pt_eq, pt_ne, pt_gt, pt_le, pt_E, pt_N, pt_F, ite_10, ite_11, ne_eq, and_self, or_self, decide_true, decide_false, Bool.not_true, Bool.not_false, Bool.false_eq_true, Nat.reduceEqDiff, Nat.reduceAdd, Int.reduceEq, Int.reduceLT, Int.reduceLE, Int.reduceNeg, Int.reduceAdd, Int.reduceSub, Int.reduceMul, reduceCtorEq, iA, iS, iM, iD, iR, iN, lA, lS, lM, lD, lR, l0, l1, l2, l3, hs, hn, k11, k12, wM_of e1, wM_of e3, w1, o1, y1, z1]
  exact e4
theorem lc_11 (h : LH S b sc x len i L v) : wS (sSeq (sIf (cB qne (eCallV 11 mX11_archive [(eV 1), (eA 14 (eV 0) (e2 iA (eV 3) (eI 1))), (eA 14 (eV 0) (e2 iA (eV 3) (eI 2)))]) (eCallV 12 mX12_archive [(eV 2), (eA 14 (eV 0) (e2 iA (eV 3) (eI 1))), (eA 14 (eV 0) (e2 iA (eV 3) (eI 2)))])) (sRet (eI 0)) sSkip) sBrk) L S v (fun k _ L' w => k = 1 ∧ L' = L ∧ Inv S b sc x w) := by
  obtain ⟨⟨l0, l1, l2, l3⟩, ⟨hs, hn⟩, ⟨i0, i1, i2⟩, hb, hI⟩ := h
  obtain ⟨k11, k12, -⟩ := hI.1.kk
  have o1 : 0 ≤ i + 1 ∧ i + 1 < len := by omega
  have y1 := hI.2.2 (i + 1)
  have o2 : 0 ≤ i + 2 ∧ i + 2 < len := by omega
  have y2 := hI.2.2 (i + 2)
  obtain ⟨r, w, u, e1, e2, e3, e4⟩ := law_case hI hs kX11_archive knX12_archive (zs := [x (i + 1), x (i + 2)]) (g_archive hI.1)
  have z1 := e2 (i + 1)
  have z2 := e2 (i + 2)
  have w1 : w32 (i + 1) = i + 1 := by clear hI; exact w32_e (by omega)
  have w2 : w32 (i + 2) = i + 2 := by clear hI; exact w32_e (by omega)
  simp only [wE_I, wE_V, wE_F, wE_A, wE_N, wE_1, wE_2, wE_D, wE_B, wE_If, wE_C, wE_CV, wE_SL, wE_SA, wA_0, wA_1, wC_B, wC_E, wC_And, wC_Or, wC_Not, wS_Skip, wS_Brk, wS_Cnt, wS_RetV, wS_Ret, wS_Seq, wS_Set, wS_Inc, wS_Do, wS_Put, wS_PutC, wS_Arr, wS_ArrC, wS_If, wS_Sw, wS_F0, wS_F1, wM_q, lu_ap, aL_ap, ct_0, ct_1, ct_2, ct_3, ct_4, ct_5, headD_1, List.mem_cons, List.not_mem_nil, or_false, false_or, or_true, true_or, true_and, and_true, false_and, and_false, not_true_eq_false, not_false_eq_true, if_true, if_false, nr_20, nr_24, nr_40, nr_41, nr_44, pt_lt, pt_ge, pt_eq, pt_ne, pt_gt, pt_le, pt_E, pt_N, pt_F, ite_10, ite_11, ne_eq, and_self, or_self, decide_true, decide_false, Bool.not_true, Bool.not_false, Bool.false_eq_true, Nat.reduceEqDiff, Nat.reduceAdd, Int.reduceEq, Int.reduceLT, Int.reduceLE, Int.reduceNeg, Int.reduceAdd, Int.reduceSub, Int.reduceMul, reduceCtorEq, iA, iS, iM, iD, iR, iN, lA, lS, lM, lD, lR, l0, l1, l2, l3, hs, hn, k11, k12, wM_of e1, wM_of e3, w1, o1, y1, z1, w2, o2, y2, z2]
  exact e4
theorem lc_12 (h : LH S b sc x len i L v) : wS (sSeq (sIf (cB qne (eCallV 11 mX11_row [(eV 1), (eA 14 (eV 0) (e2 iA (eV 3) (eI 1))), (eA 14 (eV 0) (e2 iA (eV 3) (eI 2))), (eA 14 (eV 0) (e2 iA (eV 3) (eI 3)))]) (eCallV 12 mX12_row [(eV 2), (eA 14 (eV 0) (e2 iA (eV 3) (eI 1))), (eA 14 (eV 0) (e2 iA (eV 3) (eI 2))), (eA 14 (eV 0) (e2 iA (eV 3) (eI 3)))])) (sRet (eI 0)) sSkip) sBrk) L S v (fun k _ L' w => k = 1 ∧ L' = L ∧ Inv S b sc x w) := by
  obtain ⟨⟨l0, l1, l2, l3⟩, ⟨hs, hn⟩, ⟨i0, i1, i2⟩, hb, hI⟩ := h
  obtain ⟨k11, k12, -⟩ := hI.1.kk
  have o1 : 0 ≤ i + 1 ∧ i + 1 < len := by omega
  have y1 := hI.2.2 (i + 1)
  have o2 : 0 ≤ i + 2 ∧ i + 2 < len := by omega
  have y2 := hI.2.2 (i + 2)
  have o3 : 0 ≤ i + 3 ∧ i + 3 < len := by omega
  have y3 := hI.2.2 (i + 3)
  obtain ⟨r, w, u, e1, e2, e3, e4⟩ := law_case hI hs kX11_row knX12_row (zs := [x (i + 1), x (i + 2), x (i + 3)]) (g_row hI.1)
  have z1 := e2 (i + 1)
  have z2 := e2 (i + 2)
  have z3 := e2 (i + 3)
  have w1 : w32 (i + 1) = i + 1 := by clear hI; exact w32_e (by omega)
  have w2 : w32 (i + 2) = i + 2 := by clear hI; exact w32_e (by omega)
  have w3 : w32 (i + 3) = i + 3 := by clear hI; exact w32_e (by omega)
  simp only [wE_I, wE_V, wE_F, wE_A, wE_N, wE_1, wE_2, wE_D, wE_B, wE_If, wE_C, wE_CV, wE_SL, wE_SA, wA_0, wA_1, wC_B, wC_E, wC_And, wC_Or, wC_Not, wS_Skip, wS_Brk, wS_Cnt, wS_RetV, wS_Ret, wS_Seq, wS_Set, wS_Inc, wS_Do, wS_Put, wS_PutC, wS_Arr, wS_ArrC, wS_If, wS_Sw, wS_F0, wS_F1, wM_q, lu_ap, aL_ap, ct_0, ct_1, ct_2, ct_3, ct_4, ct_5, headD_1, List.mem_cons, List.not_mem_nil, or_false, false_or, or_true, true_or, true_and, and_true, false_and, and_false, not_true_eq_false, not_false_eq_true, if_true, if_false, nr_20, nr_24, nr_40, nr_41, nr_44, pt_lt, pt_ge, pt_eq, pt_ne, pt_gt, pt_le, pt_E, pt_N, pt_F, ite_10, ite_11, ne_eq, and_self, or_self, decide_true, decide_false, Bool.not_true, Bool.not_false, Bool.false_eq_true, Nat.reduceEqDiff, Nat.reduceAdd, Int.reduceEq, Int.reduceLT, Int.reduceLE, Int.reduceNeg, Int.reduceAdd, Int.reduceSub, Int.reduceMul, reduceCtorEq, iA, iS, iM, iD, iR, iN, lA, lS, lM, lD, lR, l0, l1, l2, l3, hs, hn, k11, k12, wM_of e1, wM_of e3, w1, o1, y1, z1, w2, o2, y2, z2, w3, o3, y3, z3]
  exact e4
theorem lc_13 (h : LH S b sc x len i L v) : wS (sSeq (sIf (cB qne (eCallV 11 mX11_rowAt [(eV 1), (eA 14 (eV 0) (e2 iA (eV 3) (eI 1))), (eA 14 (eV 0) (e2 iA (eV 3) (eI 2)))]) (eCallV 12 mX12_rowAt [(eV 2), (eA 14 (eV 0) (e2 iA (eV 3) (eI 1))), (eA 14 (eV 0) (e2 iA (eV 3) (eI 2)))])) (sRet (eI 0)) sSkip) sBrk) L S v (fun k _ L' w => k = 1 ∧ L' = L ∧ Inv S b sc x w) := by
  obtain ⟨⟨l0, l1, l2, l3⟩, ⟨hs, hn⟩, ⟨i0, i1, i2⟩, hb, hI⟩ := h
  obtain ⟨k11, k12, -⟩ := hI.1.kk
  have o1 : 0 ≤ i + 1 ∧ i + 1 < len := by omega
  have y1 := hI.2.2 (i + 1)
  have o2 : 0 ≤ i + 2 ∧ i + 2 < len := by omega
  have y2 := hI.2.2 (i + 2)
  obtain ⟨r, w, u, e1, e2, e3, e4⟩ := law_case hI hs kX11_rowAt knX12_rowAt (zs := [x (i + 1), x (i + 2)]) (g_rowAt hI.1)
  have z1 := e2 (i + 1)
  have z2 := e2 (i + 2)
  have w1 : w32 (i + 1) = i + 1 := by clear hI; exact w32_e (by omega)
  have w2 : w32 (i + 2) = i + 2 := by clear hI; exact w32_e (by omega)
  simp only [wE_I, wE_V, wE_F, wE_A, wE_N, wE_1, wE_2, wE_D, wE_B, wE_If, wE_C, wE_CV, wE_SL, wE_SA, wA_0, wA_1, wC_B, wC_E, wC_And, wC_Or, wC_Not, wS_Skip, wS_Brk, wS_Cnt, wS_RetV, wS_Ret, wS_Seq, wS_Set, wS_Inc, wS_Do, wS_Put, wS_PutC, wS_Arr, wS_ArrC, wS_If, wS_Sw, wS_F0, wS_F1, wM_q, lu_ap, aL_ap, ct_0, ct_1, ct_2, ct_3, ct_4, ct_5, headD_1, List.mem_cons, List.not_mem_nil, or_false, false_or, or_true, true_or, true_and, and_true, false_and, and_false, not_true_eq_false, not_false_eq_true, if_true, if_false, nr_20, nr_24, nr_40, nr_41, nr_44, pt_lt, pt_ge, pt_eq, pt_ne, pt_gt, pt_le, pt_E, pt_N, pt_F, ite_10, ite_11, ne_eq, and_self, or_self, decide_true, decide_false, Bool.not_true, Bool.not_false, Bool.false_eq_true, Nat.reduceEqDiff, Nat.reduceAdd, Int.reduceEq, Int.reduceLT, Int.reduceLE, Int.reduceNeg, Int.reduceAdd, Int.reduceSub, Int.reduceMul, reduceCtorEq, iA, iS, iM, iD, iR, iN, lA, lS, lM, lD, lR, l0, l1, l2, l3, hs, hn, k11, k12, wM_of e1, wM_of e3, w1, o1, y1, z1, w2, o2, y2, z2]
  exact e4
theorem lc_14 (h : LH S b sc x len i L v) : wS (sSeq (sIf (cB qne (eCallV 11 mX11_over [(eV 1), (eA 14 (eV 0) (e2 iA (eV 3) (eI 1))), (eA 14 (eV 0) (e2 iA (eV 3) (eI 2))), (eA 14 (eV 0) (e2 iA (eV 3) (eI 3))), (eA 14 (eV 0) (e2 iA (eV 3) (eI 4))), (eA 14 (eV 0) (e2 iA (eV 3) (eI 5)))]) (eCallV 12 mX12_over [(eV 2), (eA 14 (eV 0) (e2 iA (eV 3) (eI 1))), (eA 14 (eV 0) (e2 iA (eV 3) (eI 2))), (eA 14 (eV 0) (e2 iA (eV 3) (eI 3))), (eA 14 (eV 0) (e2 iA (eV 3) (eI 4))), (eA 14 (eV 0) (e2 iA (eV 3) (eI 5)))])) (sRet (eI 0)) sSkip) sBrk) L S v (fun k _ L' w => k = 1 ∧ L' = L ∧ Inv S b sc x w) := by
  obtain ⟨⟨l0, l1, l2, l3⟩, ⟨hs, hn⟩, ⟨i0, i1, i2⟩, hb, hI⟩ := h
  obtain ⟨k11, k12, -⟩ := hI.1.kk
  have o1 : 0 ≤ i + 1 ∧ i + 1 < len := by omega
  have y1 := hI.2.2 (i + 1)
  have o2 : 0 ≤ i + 2 ∧ i + 2 < len := by omega
  have y2 := hI.2.2 (i + 2)
  have o3 : 0 ≤ i + 3 ∧ i + 3 < len := by omega
  have y3 := hI.2.2 (i + 3)
  have o4 : 0 ≤ i + 4 ∧ i + 4 < len := by omega
  have y4 := hI.2.2 (i + 4)
  have o5 : 0 ≤ i + 5 ∧ i + 5 < len := by omega
  have y5 := hI.2.2 (i + 5)
  obtain ⟨r, w, u, e1, e2, e3, e4⟩ := law_case hI hs kX11_over knX12_over (zs := [x (i + 1), x (i + 2), x (i + 3), x (i + 4), x (i + 5)]) (g_over hI.1)
  have z1 := e2 (i + 1)
  have z2 := e2 (i + 2)
  have z3 := e2 (i + 3)
  have z4 := e2 (i + 4)
  have z5 := e2 (i + 5)
  have w1 : w32 (i + 1) = i + 1 := by clear hI; exact w32_e (by omega)
  have w2 : w32 (i + 2) = i + 2 := by clear hI; exact w32_e (by omega)
  have w3 : w32 (i + 3) = i + 3 := by clear hI; exact w32_e (by omega)
  have w4 : w32 (i + 4) = i + 4 := by clear hI; exact w32_e (by omega)
  have w5 : w32 (i + 5) = i + 5 := by clear hI; exact w32_e (by omega)
  simp only [wE_I, wE_V, wE_F, wE_A, wE_N, wE_1, wE_2, wE_D, wE_B, wE_If, wE_C, wE_CV, wE_SL, wE_SA, wA_0, wA_1, wC_B, wC_E, wC_And, wC_Or, wC_Not, wS_Skip, wS_Brk, wS_Cnt, wS_RetV, wS_Ret, wS_Seq, wS_Set, wS_Inc, wS_Do, wS_Put, wS_PutC, wS_Arr, wS_ArrC, wS_If, wS_Sw, wS_F0, wS_F1, wM_q, lu_ap, aL_ap, ct_0, ct_1, ct_2, ct_3, ct_4, ct_5, headD_1, List.mem_cons, List.not_mem_nil, or_false, false_or, or_true, true_or, true_and, and_true, false_and, and_false, not_true_eq_false, not_false_eq_true, if_true, if_false, nr_20, nr_24, nr_40, nr_41, nr_44, pt_lt, pt_ge, pt_eq, pt_ne, pt_gt, pt_le, pt_E, pt_N, pt_F, ite_10, ite_11, ne_eq, and_self, or_self, decide_true, decide_false, Bool.not_true, Bool.not_false, Bool.false_eq_true, Nat.reduceEqDiff, Nat.reduceAdd, Int.reduceEq, Int.reduceLT, Int.reduceLE, Int.reduceNeg, Int.reduceAdd, Int.reduceSub, Int.reduceMul, reduceCtorEq, iA, iS, iM, iD, iR, iN, lA, lS, lM, lD, lR, l0, l1, l2, l3, hs, hn, k11, k12, wM_of e1, wM_of e3, w1, o1, y1, z1, w2, o2, y2, z2, w3, o3, y3, z3, w4, o4, y4, z4, w5, o5, y5, z5]
  exact e4
theorem lc_15 (h : LH S b sc x len i L v) : wS (sSeq (sIf (cB qne (eCallV 11 mX11_share [(eV 1), (eA 14 (eV 0) (e2 iA (eV 3) (eI 1))), (eA 14 (eV 0) (e2 iA (eV 3) (eI 2))), (eA 14 (eV 0) (e2 iA (eV 3) (eI 3)))]) (eCallV 12 mX12_share [(eV 2), (eA 14 (eV 0) (e2 iA (eV 3) (eI 1))), (eA 14 (eV 0) (e2 iA (eV 3) (eI 2))), (eA 14 (eV 0) (e2 iA (eV 3) (eI 3)))])) (sRet (eI 0)) sSkip) sBrk) L S v (fun k _ L' w => k = 1 ∧ L' = L ∧ Inv S b sc x w) := by
  obtain ⟨⟨l0, l1, l2, l3⟩, ⟨hs, hn⟩, ⟨i0, i1, i2⟩, hb, hI⟩ := h
  obtain ⟨k11, k12, -⟩ := hI.1.kk
  have o1 : 0 ≤ i + 1 ∧ i + 1 < len := by omega
  have y1 := hI.2.2 (i + 1)
  have o2 : 0 ≤ i + 2 ∧ i + 2 < len := by omega
  have y2 := hI.2.2 (i + 2)
  have o3 : 0 ≤ i + 3 ∧ i + 3 < len := by omega
  have y3 := hI.2.2 (i + 3)
  obtain ⟨r, w, u, e1, e2, e3, e4⟩ := law_case hI hs kX11_share knX12_share (zs := [x (i + 1), x (i + 2), x (i + 3)]) (g_share hI.1)
  have z1 := e2 (i + 1)
  have z2 := e2 (i + 2)
  have z3 := e2 (i + 3)
  have w1 : w32 (i + 1) = i + 1 := by clear hI; exact w32_e (by omega)
  have w2 : w32 (i + 2) = i + 2 := by clear hI; exact w32_e (by omega)
  have w3 : w32 (i + 3) = i + 3 := by clear hI; exact w32_e (by omega)
  simp only [wE_I, wE_V, wE_F, wE_A, wE_N, wE_1, wE_2, wE_D, wE_B, wE_If, wE_C, wE_CV, wE_SL, wE_SA, wA_0, wA_1, wC_B, wC_E, wC_And, wC_Or, wC_Not, wS_Skip, wS_Brk, wS_Cnt, wS_RetV, wS_Ret, wS_Seq, wS_Set, wS_Inc, wS_Do, wS_Put, wS_PutC, wS_Arr, wS_ArrC, wS_If, wS_Sw, wS_F0, wS_F1, wM_q, lu_ap, aL_ap, ct_0, ct_1, ct_2, ct_3, ct_4, ct_5, headD_1, List.mem_cons, List.not_mem_nil, or_false, false_or, or_true, true_or, true_and, and_true, false_and, and_false, not_true_eq_false, not_false_eq_true, if_true, if_false, nr_20, nr_24, nr_40, nr_41, nr_44, pt_lt, pt_ge, pt_eq, pt_ne, pt_gt, pt_le, pt_E, pt_N, pt_F, ite_10, ite_11, ne_eq, and_self, or_self, decide_true, decide_false, Bool.not_true, Bool.not_false, Bool.false_eq_true, Nat.reduceEqDiff, Nat.reduceAdd, Int.reduceEq, Int.reduceLT, Int.reduceLE, Int.reduceNeg, Int.reduceAdd, Int.reduceSub, Int.reduceMul, reduceCtorEq, iA, iS, iM, iD, iR, iN, lA, lS, lM, lD, lR, l0, l1, l2, l3, hs, hn, k11, k12, wM_of e1, wM_of e3, w1, o1, y1, z1, w2, o2, y2, z2, w3, o3, y3, z3]
  exact e4
theorem lc_16 (h : LH S b sc x len i L v) : wS (sSeq (sIf (cB qne (eCallV 11 mX11_smooth [(eV 1), (eA 14 (eV 0) (e2 iA (eV 3) (eI 1))), (eA 14 (eV 0) (e2 iA (eV 3) (eI 2))), (eA 14 (eV 0) (e2 iA (eV 3) (eI 3))), (eA 14 (eV 0) (e2 iA (eV 3) (eI 4)))]) (eCallV 12 mX12_smooth [(eV 2), (eA 14 (eV 0) (e2 iA (eV 3) (eI 1))), (eA 14 (eV 0) (e2 iA (eV 3) (eI 2))), (eA 14 (eV 0) (e2 iA (eV 3) (eI 3))), (eA 14 (eV 0) (e2 iA (eV 3) (eI 4)))])) (sRet (eI 0)) sSkip) sBrk) L S v (fun k _ L' w => k = 1 ∧ L' = L ∧ Inv S b sc x w) := by
  obtain ⟨⟨l0, l1, l2, l3⟩, ⟨hs, hn⟩, ⟨i0, i1, i2⟩, hb, hI⟩ := h
  obtain ⟨k11, k12, -⟩ := hI.1.kk
  have o1 : 0 ≤ i + 1 ∧ i + 1 < len := by omega
  have y1 := hI.2.2 (i + 1)
  have o2 : 0 ≤ i + 2 ∧ i + 2 < len := by omega
  have y2 := hI.2.2 (i + 2)
  have o3 : 0 ≤ i + 3 ∧ i + 3 < len := by omega
  have y3 := hI.2.2 (i + 3)
  have o4 : 0 ≤ i + 4 ∧ i + 4 < len := by omega
  have y4 := hI.2.2 (i + 4)
  obtain ⟨r, w, u, e1, e2, e3, e4⟩ := law_case hI hs kX11_smooth knX12_smooth (zs := [x (i + 1), x (i + 2), x (i + 3), x (i + 4)]) (g_smooth hI.1)
  have z1 := e2 (i + 1)
  have z2 := e2 (i + 2)
  have z3 := e2 (i + 3)
  have z4 := e2 (i + 4)
  have w1 : w32 (i + 1) = i + 1 := by clear hI; exact w32_e (by omega)
  have w2 : w32 (i + 2) = i + 2 := by clear hI; exact w32_e (by omega)
  have w3 : w32 (i + 3) = i + 3 := by clear hI; exact w32_e (by omega)
  have w4 : w32 (i + 4) = i + 4 := by clear hI; exact w32_e (by omega)
  simp only [wE_I, wE_V, wE_F, wE_A, wE_N, wE_1, wE_2, wE_D, wE_B, wE_If, wE_C, wE_CV, wE_SL, wE_SA, wA_0, wA_1, wC_B, wC_E, wC_And, wC_Or, wC_Not, wS_Skip, wS_Brk, wS_Cnt, wS_RetV, wS_Ret, wS_Seq, wS_Set, wS_Inc, wS_Do, wS_Put, wS_PutC, wS_Arr, wS_ArrC, wS_If, wS_Sw, wS_F0, wS_F1, wM_q, lu_ap, aL_ap, ct_0, ct_1, ct_2, ct_3, ct_4, ct_5, headD_1, List.mem_cons, List.not_mem_nil, or_false, false_or, or_true, true_or, true_and, and_true, false_and, and_false, not_true_eq_false, not_false_eq_true, if_true, if_false, nr_20, nr_24, nr_40, nr_41, nr_44, pt_lt, pt_ge, pt_eq, pt_ne, pt_gt, pt_le, pt_E, pt_N, pt_F, ite_10, ite_11, ne_eq, and_self, or_self, decide_true, decide_false, Bool.not_true, Bool.not_false, Bool.false_eq_true, Nat.reduceEqDiff, Nat.reduceAdd, Int.reduceEq, Int.reduceLT, Int.reduceLE, Int.reduceNeg, Int.reduceAdd, Int.reduceSub, Int.reduceMul, reduceCtorEq, iA, iS, iM, iD, iR, iN, lA, lS, lM, lD, lR, l0, l1, l2, l3, hs, hn, k11, k12, wM_of e1, wM_of e3, w1, o1, y1, z1, w2, o2, y2, z2, w3, o3, y3, z3, w4, o4, y4, z4]
  exact e4
theorem lc_17 (h : LH S b sc x len i L v) : wS (sSeq (sIf (cB qne (eCallV 11 mX11_alike [(eV 1), (eA 14 (eV 0) (e2 iA (eV 3) (eI 1))), (eA 14 (eV 0) (e2 iA (eV 3) (eI 2))), (eA 14 (eV 0) (e2 iA (eV 3) (eI 3)))]) (eCallV 12 mX12_alike [(eV 2), (eA 14 (eV 0) (e2 iA (eV 3) (eI 1))), (eA 14 (eV 0) (e2 iA (eV 3) (eI 2))), (eA 14 (eV 0) (e2 iA (eV 3) (eI 3)))])) (sRet (eI 0)) sSkip) sBrk) L S v (fun k _ L' w => k = 1 ∧ L' = L ∧ Inv S b sc x w) := by
  obtain ⟨⟨l0, l1, l2, l3⟩, ⟨hs, hn⟩, ⟨i0, i1, i2⟩, hb, hI⟩ := h
  obtain ⟨k11, k12, -⟩ := hI.1.kk
  have o1 : 0 ≤ i + 1 ∧ i + 1 < len := by omega
  have y1 := hI.2.2 (i + 1)
  have o2 : 0 ≤ i + 2 ∧ i + 2 < len := by omega
  have y2 := hI.2.2 (i + 2)
  have o3 : 0 ≤ i + 3 ∧ i + 3 < len := by omega
  have y3 := hI.2.2 (i + 3)
  obtain ⟨r, w, u, e1, e2, e3, e4⟩ := law_case hI hs kX11_alike knX12_alike (zs := [x (i + 1), x (i + 2), x (i + 3)]) (g_alike hI.1)
  have z1 := e2 (i + 1)
  have z2 := e2 (i + 2)
  have z3 := e2 (i + 3)
  have w1 : w32 (i + 1) = i + 1 := by clear hI; exact w32_e (by omega)
  have w2 : w32 (i + 2) = i + 2 := by clear hI; exact w32_e (by omega)
  have w3 : w32 (i + 3) = i + 3 := by clear hI; exact w32_e (by omega)
  simp only [wE_I, wE_V, wE_F, wE_A, wE_N, wE_1, wE_2, wE_D, wE_B, wE_If, wE_C, wE_CV, wE_SL, wE_SA, wA_0, wA_1, wC_B, wC_E, wC_And, wC_Or, wC_Not, wS_Skip, wS_Brk, wS_Cnt, wS_RetV, wS_Ret, wS_Seq, wS_Set, wS_Inc, wS_Do, wS_Put, wS_PutC, wS_Arr, wS_ArrC, wS_If, wS_Sw, wS_F0, wS_F1, wM_q, lu_ap, aL_ap, ct_0, ct_1, ct_2, ct_3, ct_4, ct_5, headD_1, List.mem_cons, List.not_mem_nil, or_false, false_or, or_true, true_or, true_and, and_true, false_and, and_false, not_true_eq_false, not_false_eq_true, if_true, if_false, nr_20, nr_24, nr_40, nr_41, nr_44, pt_lt, pt_ge, pt_eq, pt_ne, pt_gt, pt_le, pt_E, pt_N, pt_F, ite_10, ite_11, ne_eq, and_self, or_self, decide_true, decide_false, Bool.not_true, Bool.not_false, Bool.false_eq_true, Nat.reduceEqDiff, Nat.reduceAdd, Int.reduceEq, Int.reduceLT, Int.reduceLE, Int.reduceNeg, Int.reduceAdd, Int.reduceSub, Int.reduceMul, reduceCtorEq, iA, iS, iM, iD, iR, iN, lA, lS, lM, lD, lR, l0, l1, l2, l3, hs, hn, k11, k12, wM_of e1, wM_of e3, w1, o1, y1, z1, w2, o2, y2, z2, w3, o3, y3, z3]
  exact e4
theorem lc_18 (h : LH S b sc x len i L v) : wS (sSeq (sIf (cB qne (eCallV 11 mX11_left [(eV 1), (eA 14 (eV 0) (e2 iA (eV 3) (eI 1)))]) (eCallV 12 mX12_left [(eV 2), (eA 14 (eV 0) (e2 iA (eV 3) (eI 1)))])) (sRet (eI 0)) sSkip) sBrk) L S v (fun k _ L' w => k = 1 ∧ L' = L ∧ Inv S b sc x w) := by
  obtain ⟨⟨l0, l1, l2, l3⟩, ⟨hs, hn⟩, ⟨i0, i1, i2⟩, hb, hI⟩ := h
  obtain ⟨k11, k12, -⟩ := hI.1.kk
  have o1 : 0 ≤ i + 1 ∧ i + 1 < len := by omega
  have y1 := hI.2.2 (i + 1)
  obtain ⟨r, w, u, e1, e2, e3, e4⟩ := law_case hI hs kX11_left knX12_left (zs := [x (i + 1)]) (g_left hI.1)
  have z1 := e2 (i + 1)
  have w1 : w32 (i + 1) = i + 1 := by clear hI; exact w32_e (by omega)
  simp only [wE_I, wE_V, wE_F, wE_A, wE_N, wE_1, wE_2, wE_D, wE_B, wE_If, wE_C, wE_CV, wE_SL, wE_SA, wA_0, wA_1, wC_B, wC_E, wC_And, wC_Or, wC_Not, wS_Skip, wS_Brk, wS_Cnt, wS_RetV, wS_Ret, wS_Seq, wS_Set, wS_Inc, wS_Do, wS_Put, wS_PutC, wS_Arr, wS_ArrC, wS_If, wS_Sw, wS_F0, wS_F1, wM_q, lu_ap, aL_ap, ct_0, ct_1, ct_2, ct_3, ct_4, ct_5, headD_1, List.mem_cons, List.not_mem_nil, or_false, false_or, or_true, true_or, true_and, and_true, false_and, and_false, not_true_eq_false, not_false_eq_true, if_true, if_false, nr_20, nr_24, nr_40, nr_41, nr_44, pt_lt, pt_ge, pt_eq, pt_ne, pt_gt, pt_le, pt_E, pt_N, pt_F, ite_10, ite_11, ne_eq, and_self, or_self, decide_true, decide_false, Bool.not_true, Bool.not_false, Bool.false_eq_true, Nat.reduceEqDiff, Nat.reduceAdd, Int.reduceEq, Int.reduceLT, Int.reduceLE, Int.reduceNeg, Int.reduceAdd, Int.reduceSub, Int.reduceMul, reduceCtorEq, iA, iS, iM, iD, iR, iN, lA, lS, lM, lD, lR, l0, l1, l2, l3, hs, hn, k11, k12, wM_of e1, wM_of e3, w1, o1, y1, z1]
  exact e4
theorem lc_19 (h : LH S b sc x len i L v) : wS (sSeq (sIf (cB qne (eCallV 11 mX11_gap [(eV 1), (eA 14 (eV 0) (e2 iA (eV 3) (eI 1))), (eA 14 (eV 0) (e2 iA (eV 3) (eI 2))), (eA 14 (eV 0) (e2 iA (eV 3) (eI 3)))]) (eCallV 12 mX12_gap [(eV 2), (eA 14 (eV 0) (e2 iA (eV 3) (eI 1))), (eA 14 (eV 0) (e2 iA (eV 3) (eI 2))), (eA 14 (eV 0) (e2 iA (eV 3) (eI 3)))])) (sRet (eI 0)) sSkip) sBrk) L S v (fun k _ L' w => k = 1 ∧ L' = L ∧ Inv S b sc x w) := by
  obtain ⟨⟨l0, l1, l2, l3⟩, ⟨hs, hn⟩, ⟨i0, i1, i2⟩, hb, hI⟩ := h
  obtain ⟨k11, k12, -⟩ := hI.1.kk
  have o1 : 0 ≤ i + 1 ∧ i + 1 < len := by omega
  have y1 := hI.2.2 (i + 1)
  have o2 : 0 ≤ i + 2 ∧ i + 2 < len := by omega
  have y2 := hI.2.2 (i + 2)
  have o3 : 0 ≤ i + 3 ∧ i + 3 < len := by omega
  have y3 := hI.2.2 (i + 3)
  obtain ⟨r, w, u, e1, e2, e3, e4⟩ := law_case hI hs kX11_gap knX12_gap (zs := [x (i + 1), x (i + 2), x (i + 3)]) (g_gap hI.1)
  have z1 := e2 (i + 1)
  have z2 := e2 (i + 2)
  have z3 := e2 (i + 3)
  have w1 : w32 (i + 1) = i + 1 := by clear hI; exact w32_e (by omega)
  have w2 : w32 (i + 2) = i + 2 := by clear hI; exact w32_e (by omega)
  have w3 : w32 (i + 3) = i + 3 := by clear hI; exact w32_e (by omega)
  simp only [wE_I, wE_V, wE_F, wE_A, wE_N, wE_1, wE_2, wE_D, wE_B, wE_If, wE_C, wE_CV, wE_SL, wE_SA, wA_0, wA_1, wC_B, wC_E, wC_And, wC_Or, wC_Not, wS_Skip, wS_Brk, wS_Cnt, wS_RetV, wS_Ret, wS_Seq, wS_Set, wS_Inc, wS_Do, wS_Put, wS_PutC, wS_Arr, wS_ArrC, wS_If, wS_Sw, wS_F0, wS_F1, wM_q, lu_ap, aL_ap, ct_0, ct_1, ct_2, ct_3, ct_4, ct_5, headD_1, List.mem_cons, List.not_mem_nil, or_false, false_or, or_true, true_or, true_and, and_true, false_and, and_false, not_true_eq_false, not_false_eq_true, if_true, if_false, nr_20, nr_24, nr_40, nr_41, nr_44, pt_lt, pt_ge, pt_eq, pt_ne, pt_gt, pt_le, pt_E, pt_N, pt_F, ite_10, ite_11, ne_eq, and_self, or_self, decide_true, decide_false, Bool.not_true, Bool.not_false, Bool.false_eq_true, Nat.reduceEqDiff, Nat.reduceAdd, Int.reduceEq, Int.reduceLT, Int.reduceLE, Int.reduceNeg, Int.reduceAdd, Int.reduceSub, Int.reduceMul, reduceCtorEq, iA, iS, iM, iD, iR, iN, lA, lS, lM, lD, lR, l0, l1, l2, l3, hs, hn, k11, k12, wM_of e1, wM_of e3, w1, o1, y1, z1, w2, o2, y2, z2, w3, o3, y3, z3]
  exact e4
theorem lc_20 (h : LH S b sc x len i L v) : wS (sSeq (sIf (cB qne (eCallV 11 mX11_total [(eV 1), (eA 14 (eV 0) (e2 iA (eV 3) (eI 1))), (eA 14 (eV 0) (e2 iA (eV 3) (eI 2))), (eA 14 (eV 0) (e2 iA (eV 3) (eI 3))), (eA 14 (eV 0) (e2 iA (eV 3) (eI 4)))]) (eCallV 12 mX12_total [(eV 2), (eA 14 (eV 0) (e2 iA (eV 3) (eI 1))), (eA 14 (eV 0) (e2 iA (eV 3) (eI 2))), (eA 14 (eV 0) (e2 iA (eV 3) (eI 3))), (eA 14 (eV 0) (e2 iA (eV 3) (eI 4)))])) (sRet (eI 0)) sSkip) sBrk) L S v (fun k _ L' w => k = 1 ∧ L' = L ∧ Inv S b sc x w) := by
  obtain ⟨⟨l0, l1, l2, l3⟩, ⟨hs, hn⟩, ⟨i0, i1, i2⟩, hb, hI⟩ := h
  obtain ⟨k11, k12, -⟩ := hI.1.kk
  have o1 : 0 ≤ i + 1 ∧ i + 1 < len := by omega
  have y1 := hI.2.2 (i + 1)
  have o2 : 0 ≤ i + 2 ∧ i + 2 < len := by omega
  have y2 := hI.2.2 (i + 2)
  have o3 : 0 ≤ i + 3 ∧ i + 3 < len := by omega
  have y3 := hI.2.2 (i + 3)
  have o4 : 0 ≤ i + 4 ∧ i + 4 < len := by omega
  have y4 := hI.2.2 (i + 4)
  obtain ⟨r, w, u, e1, e2, e3, e4⟩ := law_case hI hs kX11_total knX12_total (zs := [x (i + 1), x (i + 2), x (i + 3), x (i + 4)]) (g_total hI.1)
  have z1 := e2 (i + 1)
  have z2 := e2 (i + 2)
  have z3 := e2 (i + 3)
  have z4 := e2 (i + 4)
  have w1 : w32 (i + 1) = i + 1 := by clear hI; exact w32_e (by omega)
  have w2 : w32 (i + 2) = i + 2 := by clear hI; exact w32_e (by omega)
  have w3 : w32 (i + 3) = i + 3 := by clear hI; exact w32_e (by omega)
  have w4 : w32 (i + 4) = i + 4 := by clear hI; exact w32_e (by omega)
  simp only [wE_I, wE_V, wE_F, wE_A, wE_N, wE_1, wE_2, wE_D, wE_B, wE_If, wE_C, wE_CV, wE_SL, wE_SA, wA_0, wA_1, wC_B, wC_E, wC_And, wC_Or, wC_Not, wS_Skip, wS_Brk, wS_Cnt, wS_RetV, wS_Ret, wS_Seq, wS_Set, wS_Inc, wS_Do, wS_Put, wS_PutC, wS_Arr, wS_ArrC, wS_If, wS_Sw, wS_F0, wS_F1, wM_q, lu_ap, aL_ap, ct_0, ct_1, ct_2, ct_3, ct_4, ct_5, headD_1, List.mem_cons, List.not_mem_nil, or_false, false_or, or_true, true_or, true_and, and_true, false_and, and_false, not_true_eq_false, not_false_eq_true, if_true, if_false, nr_20, nr_24, nr_40, nr_41, nr_44, pt_lt, pt_ge, pt_eq, pt_ne, pt_gt, pt_le, pt_E, pt_N, pt_F, ite_10, ite_11, ne_eq, and_self, or_self, decide_true, decide_false, Bool.not_true, Bool.not_false, Bool.false_eq_true, Nat.reduceEqDiff, Nat.reduceAdd, Int.reduceEq, Int.reduceLT, Int.reduceLE, Int.reduceNeg, Int.reduceAdd, Int.reduceSub, Int.reduceMul, reduceCtorEq, iA, iS, iM, iD, iR, iN, lA, lS, lM, lD, lR, l0, l1, l2, l3, hs, hn, k11, k12, wM_of e1, wM_of e3, w1, o1, y1, z1, w2, o2, y2, z2, w3, o3, y3, z3, w4, o4, y4, z4]
  exact e4
theorem lc_21 (h : LH S b sc x len i L v) : wS (sSeq (sIf (cB qne (eCallV 11 mX11_rise [(eV 1), (eA 14 (eV 0) (e2 iA (eV 3) (eI 1))), (eA 14 (eV 0) (e2 iA (eV 3) (eI 2)))]) (eCallV 12 mX12_rise [(eV 2), (eA 14 (eV 0) (e2 iA (eV 3) (eI 1))), (eA 14 (eV 0) (e2 iA (eV 3) (eI 2)))])) (sRet (eI 0)) sSkip) sBrk) L S v (fun k _ L' w => k = 1 ∧ L' = L ∧ Inv S b sc x w) := by
  obtain ⟨⟨l0, l1, l2, l3⟩, ⟨hs, hn⟩, ⟨i0, i1, i2⟩, hb, hI⟩ := h
  obtain ⟨k11, k12, -⟩ := hI.1.kk
  have o1 : 0 ≤ i + 1 ∧ i + 1 < len := by omega
  have y1 := hI.2.2 (i + 1)
  have o2 : 0 ≤ i + 2 ∧ i + 2 < len := by omega
  have y2 := hI.2.2 (i + 2)
  obtain ⟨r, w, u, e1, e2, e3, e4⟩ := law_case hI hs kX11_rise knX12_rise (zs := [x (i + 1), x (i + 2)]) (g_rise hI.1)
  have z1 := e2 (i + 1)
  have z2 := e2 (i + 2)
  have w1 : w32 (i + 1) = i + 1 := by clear hI; exact w32_e (by omega)
  have w2 : w32 (i + 2) = i + 2 := by clear hI; exact w32_e (by omega)
  simp only [wE_I, wE_V, wE_F, wE_A, wE_N, wE_1, wE_2, wE_D, wE_B, wE_If, wE_C, wE_CV, wE_SL, wE_SA, wA_0, wA_1, wC_B, wC_E, wC_And, wC_Or, wC_Not, wS_Skip, wS_Brk, wS_Cnt, wS_RetV, wS_Ret, wS_Seq, wS_Set, wS_Inc, wS_Do, wS_Put, wS_PutC, wS_Arr, wS_ArrC, wS_If, wS_Sw, wS_F0, wS_F1, wM_q, lu_ap, aL_ap, ct_0, ct_1, ct_2, ct_3, ct_4, ct_5, headD_1, List.mem_cons, List.not_mem_nil, or_false, false_or, or_true, true_or, true_and, and_true, false_and, and_false, not_true_eq_false, not_false_eq_true, if_true, if_false, nr_20, nr_24, nr_40, nr_41, nr_44, pt_lt, pt_ge, pt_eq, pt_ne, pt_gt, pt_le, pt_E, pt_N, pt_F, ite_10, ite_11, ne_eq, and_self, or_self, decide_true, decide_false, Bool.not_true, Bool.not_false, Bool.false_eq_true, Nat.reduceEqDiff, Nat.reduceAdd, Int.reduceEq, Int.reduceLT, Int.reduceLE, Int.reduceNeg, Int.reduceAdd, Int.reduceSub, Int.reduceMul, reduceCtorEq, iA, iS, iM, iD, iR, iN, lA, lS, lM, lD, lR, l0, l1, l2, l3, hs, hn, k11, k12, wM_of e1, wM_of e3, w1, o1, y1, z1, w2, o2, y2, z2]
  exact e4
theorem lc_22 (h : LH S b sc x len i L v) : wS (sSeq (sIf (cB qne (eCallV 11 mX11_best [(eV 1), (eA 14 (eV 0) (e2 iA (eV 3) (eI 1))), (eA 14 (eV 0) (e2 iA (eV 3) (eI 2)))]) (eCallV 12 mX12_best [(eV 2), (eA 14 (eV 0) (e2 iA (eV 3) (eI 1))), (eA 14 (eV 0) (e2 iA (eV 3) (eI 2)))])) (sRet (eI 0)) sSkip) sBrk) L S v (fun k _ L' w => k = 1 ∧ L' = L ∧ Inv S b sc x w) := by
  obtain ⟨⟨l0, l1, l2, l3⟩, ⟨hs, hn⟩, ⟨i0, i1, i2⟩, hb, hI⟩ := h
  obtain ⟨k11, k12, -⟩ := hI.1.kk
  have o1 : 0 ≤ i + 1 ∧ i + 1 < len := by omega
  have y1 := hI.2.2 (i + 1)
  have o2 : 0 ≤ i + 2 ∧ i + 2 < len := by omega
  have y2 := hI.2.2 (i + 2)
  obtain ⟨r, w, u, e1, e2, e3, e4⟩ := law_case hI hs kX11_best knX12_best (zs := [x (i + 1), x (i + 2)]) (g_best hI.1)
  have z1 := e2 (i + 1)
  have z2 := e2 (i + 2)
  have w1 : w32 (i + 1) = i + 1 := by clear hI; exact w32_e (by omega)
  have w2 : w32 (i + 2) = i + 2 := by clear hI; exact w32_e (by omega)
  simp only [wE_I, wE_V, wE_F, wE_A, wE_N, wE_1, wE_2, wE_D, wE_B, wE_If, wE_C, wE_CV, wE_SL, wE_SA, wA_0, wA_1, wC_B, wC_E, wC_And, wC_Or, wC_Not, wS_Skip, wS_Brk, wS_Cnt, wS_RetV, wS_Ret, wS_Seq, wS_Set, wS_Inc, wS_Do, wS_Put, wS_PutC, wS_Arr, wS_ArrC, wS_If, wS_Sw, wS_F0, wS_F1, wM_q, lu_ap, aL_ap, ct_0, ct_1, ct_2, ct_3, ct_4, ct_5, headD_1, List.mem_cons, List.not_mem_nil, or_false, false_or, or_true, true_or, true_and, and_true, false_and, and_false, not_true_eq_false, not_false_eq_true, if_true, if_false, nr_20, nr_24, nr_40, nr_41, nr_44, pt_lt, pt_ge, pt_eq, pt_ne, pt_gt, pt_le, pt_E, pt_N, pt_F, ite_10, ite_11, ne_eq, and_self, or_self, decide_true, decide_false, Bool.not_true, Bool.not_false, Bool.false_eq_true, Nat.reduceEqDiff, Nat.reduceAdd, Int.reduceEq, Int.reduceLT, Int.reduceLE, Int.reduceNeg, Int.reduceAdd, Int.reduceSub, Int.reduceMul, reduceCtorEq, iA, iS, iM, iD, iR, iN, lA, lS, lM, lD, lR, l0, l1, l2, l3, hs, hn, k11, k12, wM_of e1, wM_of e3, w1, o1, y1, z1, w2, o2, y2, z2]
  exact e4
theorem lc_23 (h : LH S b sc x len i L v) : wS (sSeq (sIf (cB qne (eCallV 11 mX11_forecast [(eV 1), (eA 14 (eV 0) (e2 iA (eV 3) (eI 1))), (eA 14 (eV 0) (e2 iA (eV 3) (eI 2)))]) (eCallV 12 mX12_forecast [(eV 2), (eA 14 (eV 0) (e2 iA (eV 3) (eI 1))), (eA 14 (eV 0) (e2 iA (eV 3) (eI 2)))])) (sRet (eI 0)) sSkip) sBrk) L S v (fun k _ L' w => k = 1 ∧ L' = L ∧ Inv S b sc x w) := by
  obtain ⟨⟨l0, l1, l2, l3⟩, ⟨hs, hn⟩, ⟨i0, i1, i2⟩, hb, hI⟩ := h
  obtain ⟨k11, k12, -⟩ := hI.1.kk
  have o1 : 0 ≤ i + 1 ∧ i + 1 < len := by omega
  have y1 := hI.2.2 (i + 1)
  have o2 : 0 ≤ i + 2 ∧ i + 2 < len := by omega
  have y2 := hI.2.2 (i + 2)
  obtain ⟨r, w, u, e1, e2, e3, e4⟩ := law_case hI hs kX11_forecast knX12_forecast (zs := [x (i + 1), x (i + 2)]) (g_forecast hI.1)
  have z1 := e2 (i + 1)
  have z2 := e2 (i + 2)
  have w1 : w32 (i + 1) = i + 1 := by clear hI; exact w32_e (by omega)
  have w2 : w32 (i + 2) = i + 2 := by clear hI; exact w32_e (by omega)
  simp only [wE_I, wE_V, wE_F, wE_A, wE_N, wE_1, wE_2, wE_D, wE_B, wE_If, wE_C, wE_CV, wE_SL, wE_SA, wA_0, wA_1, wC_B, wC_E, wC_And, wC_Or, wC_Not, wS_Skip, wS_Brk, wS_Cnt, wS_RetV, wS_Ret, wS_Seq, wS_Set, wS_Inc, wS_Do, wS_Put, wS_PutC, wS_Arr, wS_ArrC, wS_If, wS_Sw, wS_F0, wS_F1, wM_q, lu_ap, aL_ap, ct_0, ct_1, ct_2, ct_3, ct_4, ct_5, headD_1, List.mem_cons, List.not_mem_nil, or_false, false_or, or_true, true_or, true_and, and_true, false_and, and_false, not_true_eq_false, not_false_eq_true, if_true, if_false, nr_20, nr_24, nr_40, nr_41, nr_44, pt_lt, pt_ge, pt_eq, pt_ne, pt_gt, pt_le, pt_E, pt_N, pt_F, ite_10, ite_11, ne_eq, and_self, or_self, decide_true, decide_false, Bool.not_true, Bool.not_false, Bool.false_eq_true, Nat.reduceEqDiff, Nat.reduceAdd, Int.reduceEq, Int.reduceLT, Int.reduceLE, Int.reduceNeg, Int.reduceAdd, Int.reduceSub, Int.reduceMul, reduceCtorEq, iA, iS, iM, iD, iR, iN, lA, lS, lM, lD, lR, l0, l1, l2, l3, hs, hn, k11, k12, wM_of e1, wM_of e3, w1, o1, y1, z1, w2, o2, y2, z2]
  exact e4
theorem lc_24 (h : LH S b sc x len i L v) : wS (sSeq (sIf (cB qne (eCallV 11 mX11_place [(eV 1), (eA 14 (eV 0) (e2 iA (eV 3) (eI 1))), (eA 14 (eV 0) (e2 iA (eV 3) (eI 2))), (eA 14 (eV 0) (e2 iA (eV 3) (eI 3)))]) (eCallV 12 mX12_place [(eV 2), (eA 14 (eV 0) (e2 iA (eV 3) (eI 1))), (eA 14 (eV 0) (e2 iA (eV 3) (eI 2))), (eA 14 (eV 0) (e2 iA (eV 3) (eI 3)))])) (sRet (eI 0)) sSkip) sBrk) L S v (fun k _ L' w => k = 1 ∧ L' = L ∧ Inv S b sc x w) := by
  obtain ⟨⟨l0, l1, l2, l3⟩, ⟨hs, hn⟩, ⟨i0, i1, i2⟩, hb, hI⟩ := h
  obtain ⟨k11, k12, -⟩ := hI.1.kk
  have o1 : 0 ≤ i + 1 ∧ i + 1 < len := by omega
  have y1 := hI.2.2 (i + 1)
  have o2 : 0 ≤ i + 2 ∧ i + 2 < len := by omega
  have y2 := hI.2.2 (i + 2)
  have o3 : 0 ≤ i + 3 ∧ i + 3 < len := by omega
  have y3 := hI.2.2 (i + 3)
  obtain ⟨r, w, u, e1, e2, e3, e4⟩ := law_case hI hs kX11_place knX12_place (zs := [x (i + 1), x (i + 2), x (i + 3)]) (g_place hI.1)
  have z1 := e2 (i + 1)
  have z2 := e2 (i + 2)
  have z3 := e2 (i + 3)
  have w1 : w32 (i + 1) = i + 1 := by clear hI; exact w32_e (by omega)
  have w2 : w32 (i + 2) = i + 2 := by clear hI; exact w32_e (by omega)
  have w3 : w32 (i + 3) = i + 3 := by clear hI; exact w32_e (by omega)
  simp only [wE_I, wE_V, wE_F, wE_A, wE_N, wE_1, wE_2, wE_D, wE_B, wE_If, wE_C, wE_CV, wE_SL, wE_SA, wA_0, wA_1, wC_B, wC_E, wC_And, wC_Or, wC_Not, wS_Skip, wS_Brk, wS_Cnt, wS_RetV, wS_Ret, wS_Seq, wS_Set, wS_Inc, wS_Do, wS_Put, wS_PutC, wS_Arr, wS_ArrC, wS_If, wS_Sw, wS_F0, wS_F1, wM_q, lu_ap, aL_ap, ct_0, ct_1, ct_2, ct_3, ct_4, ct_5, headD_1, List.mem_cons, List.not_mem_nil, or_false, false_or, or_true, true_or, true_and, and_true, false_and, and_false, not_true_eq_false, not_false_eq_true, if_true, if_false, nr_20, nr_24, nr_40, nr_41, nr_44, pt_lt, pt_ge, pt_eq, pt_ne, pt_gt, pt_le, pt_E, pt_N, pt_F, ite_10, ite_11, ne_eq, and_self, or_self, decide_true, decide_false, Bool.not_true, Bool.not_false, Bool.false_eq_true, Nat.reduceEqDiff, Nat.reduceAdd, Int.reduceEq, Int.reduceLT, Int.reduceLE, Int.reduceNeg, Int.reduceAdd, Int.reduceSub, Int.reduceMul, reduceCtorEq, iA, iS, iM, iD, iR, iN, lA, lS, lM, lD, lR, l0, l1, l2, l3, hs, hn, k11, k12, wM_of e1, wM_of e3, w1, o1, y1, z1, w2, o2, y2, z2, w3, o3, y3, z3]
  exact e4
theorem lc_25 (h : LH S b sc x len i L v) : wS (sSeq (sIf (cB qne (eCallV 11 mX11_told [(eV 1), (eA 14 (eV 0) (e2 iA (eV 3) (eI 1))), (eA 14 (eV 0) (e2 iA (eV 3) (eI 2))), (eA 14 (eV 0) (e2 iA (eV 3) (eI 3)))]) (eCallV 12 mX12_told [(eV 2), (eA 14 (eV 0) (e2 iA (eV 3) (eI 1))), (eA 14 (eV 0) (e2 iA (eV 3) (eI 2))), (eA 14 (eV 0) (e2 iA (eV 3) (eI 3)))])) (sRet (eI 0)) sSkip) sBrk) L S v (fun k _ L' w => k = 1 ∧ L' = L ∧ Inv S b sc x w) := by
  obtain ⟨⟨l0, l1, l2, l3⟩, ⟨hs, hn⟩, ⟨i0, i1, i2⟩, hb, hI⟩ := h
  obtain ⟨k11, k12, -⟩ := hI.1.kk
  have o1 : 0 ≤ i + 1 ∧ i + 1 < len := by omega
  have y1 := hI.2.2 (i + 1)
  have o2 : 0 ≤ i + 2 ∧ i + 2 < len := by omega
  have y2 := hI.2.2 (i + 2)
  have o3 : 0 ≤ i + 3 ∧ i + 3 < len := by omega
  have y3 := hI.2.2 (i + 3)
  obtain ⟨r, w, u, e1, e2, e3, e4⟩ := law_case hI hs kX11_told knX12_told (zs := [x (i + 1), x (i + 2), x (i + 3)]) (g_told hI.1)
  have z1 := e2 (i + 1)
  have z2 := e2 (i + 2)
  have z3 := e2 (i + 3)
  have w1 : w32 (i + 1) = i + 1 := by clear hI; exact w32_e (by omega)
  have w2 : w32 (i + 2) = i + 2 := by clear hI; exact w32_e (by omega)
  have w3 : w32 (i + 3) = i + 3 := by clear hI; exact w32_e (by omega)
  simp only [wE_I, wE_V, wE_F, wE_A, wE_N, wE_1, wE_2, wE_D, wE_B, wE_If, wE_C, wE_CV, wE_SL, wE_SA, wA_0, wA_1, wC_B, wC_E, wC_And, wC_Or, wC_Not, wS_Skip, wS_Brk, wS_Cnt, wS_RetV, wS_Ret, wS_Seq, wS_Set, wS_Inc, wS_Do, wS_Put, wS_PutC, wS_Arr, wS_ArrC, wS_If, wS_Sw, wS_F0, wS_F1, wM_q, lu_ap, aL_ap, ct_0, ct_1, ct_2, ct_3, ct_4, ct_5, headD_1, List.mem_cons, List.not_mem_nil, or_false, false_or, or_true, true_or, true_and, and_true, false_and, and_false, not_true_eq_false, not_false_eq_true, if_true, if_false, nr_20, nr_24, nr_40, nr_41, nr_44, pt_lt, pt_ge, pt_eq, pt_ne, pt_gt, pt_le, pt_E, pt_N, pt_F, ite_10, ite_11, ne_eq, and_self, or_self, decide_true, decide_false, Bool.not_true, Bool.not_false, Bool.false_eq_true, Nat.reduceEqDiff, Nat.reduceAdd, Int.reduceEq, Int.reduceLT, Int.reduceLE, Int.reduceNeg, Int.reduceAdd, Int.reduceSub, Int.reduceMul, reduceCtorEq, iA, iS, iM, iD, iR, iN, lA, lS, lM, lD, lR, l0, l1, l2, l3, hs, hn, k11, k12, wM_of e1, wM_of e3, w1, o1, y1, z1, w2, o2, y2, z2, w3, o3, y3, z3]
  exact e4
theorem lc_26 (h : LH S b sc x len i L v) : wS (sSeq (sIf (cB qne (eCallV 11 mX11_odd [(eV 1), (eA 14 (eV 0) (e2 iA (eV 3) (eI 1))), (eA 14 (eV 0) (e2 iA (eV 3) (eI 2)))]) (eCallV 12 mX12_odd [(eV 2), (eA 14 (eV 0) (e2 iA (eV 3) (eI 1))), (eA 14 (eV 0) (e2 iA (eV 3) (eI 2)))])) (sRet (eI 0)) sSkip) sBrk) L S v (fun k _ L' w => k = 1 ∧ L' = L ∧ Inv S b sc x w) := by
  obtain ⟨⟨l0, l1, l2, l3⟩, ⟨hs, hn⟩, ⟨i0, i1, i2⟩, hb, hI⟩ := h
  obtain ⟨k11, k12, -⟩ := hI.1.kk
  have o1 : 0 ≤ i + 1 ∧ i + 1 < len := by omega
  have y1 := hI.2.2 (i + 1)
  have o2 : 0 ≤ i + 2 ∧ i + 2 < len := by omega
  have y2 := hI.2.2 (i + 2)
  obtain ⟨r, w, u, e1, e2, e3, e4⟩ := law_case hI hs kX11_odd knX12_odd (zs := [x (i + 1), x (i + 2)]) (g_odd hI.1)
  have z1 := e2 (i + 1)
  have z2 := e2 (i + 2)
  have w1 : w32 (i + 1) = i + 1 := by clear hI; exact w32_e (by omega)
  have w2 : w32 (i + 2) = i + 2 := by clear hI; exact w32_e (by omega)
  simp only [wE_I, wE_V, wE_F, wE_A, wE_N, wE_1, wE_2, wE_D, wE_B, wE_If, wE_C, wE_CV, wE_SL, wE_SA, wA_0, wA_1, wC_B, wC_E, wC_And, wC_Or, wC_Not, wS_Skip, wS_Brk, wS_Cnt, wS_RetV, wS_Ret, wS_Seq, wS_Set, wS_Inc, wS_Do, wS_Put, wS_PutC, wS_Arr, wS_ArrC, wS_If, wS_Sw, wS_F0, wS_F1, wM_q, lu_ap, aL_ap, ct_0, ct_1, ct_2, ct_3, ct_4, ct_5, headD_1, List.mem_cons, List.not_mem_nil, or_false, false_or, or_true, true_or, true_and, and_true, false_and, and_false, not_true_eq_false, not_false_eq_true, if_true, if_false, nr_20, nr_24, nr_40, nr_41, nr_44, pt_lt, pt_ge, pt_eq, pt_ne, pt_gt, pt_le, pt_E, pt_N, pt_F, ite_10, ite_11, ne_eq, and_self, or_self, decide_true, decide_false, Bool.not_true, Bool.not_false, Bool.false_eq_true, Nat.reduceEqDiff, Nat.reduceAdd, Int.reduceEq, Int.reduceLT, Int.reduceLE, Int.reduceNeg, Int.reduceAdd, Int.reduceSub, Int.reduceMul, reduceCtorEq, iA, iS, iM, iD, iR, iN, lA, lS, lM, lD, lR, l0, l1, l2, l3, hs, hn, k11, k12, wM_of e1, wM_of e3, w1, o1, y1, z1, w2, o2, y2, z2]
  exact e4
theorem lc_27 (h : LH S b sc x len i L v) : wS (sSeq (sIf (cB qne (eCallV 11 mX11_alarms [(eV 1), (eA 14 (eV 0) (e2 iA (eV 3) (eI 1))), (eA 14 (eV 0) (e2 iA (eV 3) (eI 2))), (eA 14 (eV 0) (e2 iA (eV 3) (eI 3)))]) (eCallV 12 mX12_alarms [(eV 2), (eA 14 (eV 0) (e2 iA (eV 3) (eI 1))), (eA 14 (eV 0) (e2 iA (eV 3) (eI 2))), (eA 14 (eV 0) (e2 iA (eV 3) (eI 3)))])) (sRet (eI 0)) sSkip) sBrk) L S v (fun k _ L' w => k = 1 ∧ L' = L ∧ Inv S b sc x w) := by
  obtain ⟨⟨l0, l1, l2, l3⟩, ⟨hs, hn⟩, ⟨i0, i1, i2⟩, hb, hI⟩ := h
  obtain ⟨k11, k12, -⟩ := hI.1.kk
  have o1 : 0 ≤ i + 1 ∧ i + 1 < len := by omega
  have y1 := hI.2.2 (i + 1)
  have o2 : 0 ≤ i + 2 ∧ i + 2 < len := by omega
  have y2 := hI.2.2 (i + 2)
  have o3 : 0 ≤ i + 3 ∧ i + 3 < len := by omega
  have y3 := hI.2.2 (i + 3)
  obtain ⟨r, w, u, e1, e2, e3, e4⟩ := law_case hI hs kX11_alarms knX12_alarms (zs := [x (i + 1), x (i + 2), x (i + 3)]) (g_alarms hI.1)
  have z1 := e2 (i + 1)
  have z2 := e2 (i + 2)
  have z3 := e2 (i + 3)
  have w1 : w32 (i + 1) = i + 1 := by clear hI; exact w32_e (by omega)
  have w2 : w32 (i + 2) = i + 2 := by clear hI; exact w32_e (by omega)
  have w3 : w32 (i + 3) = i + 3 := by clear hI; exact w32_e (by omega)
  simp only [wE_I, wE_V, wE_F, wE_A, wE_N, wE_1, wE_2, wE_D, wE_B, wE_If, wE_C, wE_CV, wE_SL, wE_SA, wA_0, wA_1, wC_B, wC_E, wC_And, wC_Or, wC_Not, wS_Skip, wS_Brk, wS_Cnt, wS_RetV, wS_Ret, wS_Seq, wS_Set, wS_Inc, wS_Do, wS_Put, wS_PutC, wS_Arr, wS_ArrC, wS_If, wS_Sw, wS_F0, wS_F1, wM_q, lu_ap, aL_ap, ct_0, ct_1, ct_2, ct_3, ct_4, ct_5, headD_1, List.mem_cons, List.not_mem_nil, or_false, false_or, or_true, true_or, true_and, and_true, false_and, and_false, not_true_eq_false, not_false_eq_true, if_true, if_false, nr_20, nr_24, nr_40, nr_41, nr_44, pt_lt, pt_ge, pt_eq, pt_ne, pt_gt, pt_le, pt_E, pt_N, pt_F, ite_10, ite_11, ne_eq, and_self, or_self, decide_true, decide_false, Bool.not_true, Bool.not_false, Bool.false_eq_true, Nat.reduceEqDiff, Nat.reduceAdd, Int.reduceEq, Int.reduceLT, Int.reduceLE, Int.reduceNeg, Int.reduceAdd, Int.reduceSub, Int.reduceMul, reduceCtorEq, iA, iS, iM, iD, iR, iN, lA, lS, lM, lD, lR, l0, l1, l2, l3, hs, hn, k11, k12, wM_of e1, wM_of e3, w1, o1, y1, z1, w2, o2, y2, z2, w3, o3, y3, z3]
  exact e4
theorem lc_28 (h : LH S b sc x len i L v) : wS (sSeq (sIf (cB qne (eCallV 11 mX11_ahead [(eV 1), (eA 14 (eV 0) (e2 iA (eV 3) (eI 1))), (eA 14 (eV 0) (e2 iA (eV 3) (eI 2)))]) (eCallV 12 mX12_ahead [(eV 2), (eA 14 (eV 0) (e2 iA (eV 3) (eI 1))), (eA 14 (eV 0) (e2 iA (eV 3) (eI 2)))])) (sRet (eI 0)) sSkip) sBrk) L S v (fun k _ L' w => k = 1 ∧ L' = L ∧ Inv S b sc x w) := by
  obtain ⟨⟨l0, l1, l2, l3⟩, ⟨hs, hn⟩, ⟨i0, i1, i2⟩, hb, hI⟩ := h
  obtain ⟨k11, k12, -⟩ := hI.1.kk
  have o1 : 0 ≤ i + 1 ∧ i + 1 < len := by omega
  have y1 := hI.2.2 (i + 1)
  have o2 : 0 ≤ i + 2 ∧ i + 2 < len := by omega
  have y2 := hI.2.2 (i + 2)
  obtain ⟨r, w, u, e1, e2, e3, e4⟩ := law_case hI hs kX11_ahead knX12_ahead (zs := [x (i + 1), x (i + 2)]) (g_ahead hI.1)
  have z1 := e2 (i + 1)
  have z2 := e2 (i + 2)
  have w1 : w32 (i + 1) = i + 1 := by clear hI; exact w32_e (by omega)
  have w2 : w32 (i + 2) = i + 2 := by clear hI; exact w32_e (by omega)
  simp only [wE_I, wE_V, wE_F, wE_A, wE_N, wE_1, wE_2, wE_D, wE_B, wE_If, wE_C, wE_CV, wE_SL, wE_SA, wA_0, wA_1, wC_B, wC_E, wC_And, wC_Or, wC_Not, wS_Skip, wS_Brk, wS_Cnt, wS_RetV, wS_Ret, wS_Seq, wS_Set, wS_Inc, wS_Do, wS_Put, wS_PutC, wS_Arr, wS_ArrC, wS_If, wS_Sw, wS_F0, wS_F1, wM_q, lu_ap, aL_ap, ct_0, ct_1, ct_2, ct_3, ct_4, ct_5, headD_1, List.mem_cons, List.not_mem_nil, or_false, false_or, or_true, true_or, true_and, and_true, false_and, and_false, not_true_eq_false, not_false_eq_true, if_true, if_false, nr_20, nr_24, nr_40, nr_41, nr_44, pt_lt, pt_ge, pt_eq, pt_ne, pt_gt, pt_le, pt_E, pt_N, pt_F, ite_10, ite_11, ne_eq, and_self, or_self, decide_true, decide_false, Bool.not_true, Bool.not_false, Bool.false_eq_true, Nat.reduceEqDiff, Nat.reduceAdd, Int.reduceEq, Int.reduceLT, Int.reduceLE, Int.reduceNeg, Int.reduceAdd, Int.reduceSub, Int.reduceMul, reduceCtorEq, iA, iS, iM, iD, iR, iN, lA, lS, lM, lD, lR, l0, l1, l2, l3, hs, hn, k11, k12, wM_of e1, wM_of e3, w1, o1, y1, z1, w2, o2, y2, z2]
  exact e4
theorem lc_29 (h : LH S b sc x len i L v) : wS (sSeq (sIf (cB qne (eCallV 11 mX11_show [(eV 1), (eA 14 (eV 0) (e2 iA (eV 3) (eI 1))), (eA 14 (eV 0) (e2 iA (eV 3) (eI 2))), (eA 14 (eV 0) (e2 iA (eV 3) (eI 3)))]) (eCallV 12 mX12_show [(eV 2), (eA 14 (eV 0) (e2 iA (eV 3) (eI 1))), (eA 14 (eV 0) (e2 iA (eV 3) (eI 2))), (eA 14 (eV 0) (e2 iA (eV 3) (eI 3)))])) (sRet (eI 0)) sSkip) sBrk) L S v (fun k _ L' w => k = 1 ∧ L' = L ∧ Inv S b sc x w) := by
  obtain ⟨⟨l0, l1, l2, l3⟩, ⟨hs, hn⟩, ⟨i0, i1, i2⟩, hb, hI⟩ := h
  obtain ⟨k11, k12, -⟩ := hI.1.kk
  have o1 : 0 ≤ i + 1 ∧ i + 1 < len := by omega
  have y1 := hI.2.2 (i + 1)
  have o2 : 0 ≤ i + 2 ∧ i + 2 < len := by omega
  have y2 := hI.2.2 (i + 2)
  have o3 : 0 ≤ i + 3 ∧ i + 3 < len := by omega
  have y3 := hI.2.2 (i + 3)
  obtain ⟨r, w, u, e1, e2, e3, e4⟩ := law_case hI hs kX11_show knX12_show (zs := [x (i + 1), x (i + 2), x (i + 3)]) (g_show hI.1)
  have z1 := e2 (i + 1)
  have z2 := e2 (i + 2)
  have z3 := e2 (i + 3)
  have w1 : w32 (i + 1) = i + 1 := by clear hI; exact w32_e (by omega)
  have w2 : w32 (i + 2) = i + 2 := by clear hI; exact w32_e (by omega)
  have w3 : w32 (i + 3) = i + 3 := by clear hI; exact w32_e (by omega)
  simp only [wE_I, wE_V, wE_F, wE_A, wE_N, wE_1, wE_2, wE_D, wE_B, wE_If, wE_C, wE_CV, wE_SL, wE_SA, wA_0, wA_1, wC_B, wC_E, wC_And, wC_Or, wC_Not, wS_Skip, wS_Brk, wS_Cnt, wS_RetV, wS_Ret, wS_Seq, wS_Set, wS_Inc, wS_Do, wS_Put, wS_PutC, wS_Arr, wS_ArrC, wS_If, wS_Sw, wS_F0, wS_F1, wM_q, lu_ap, aL_ap, ct_0, ct_1, ct_2, ct_3, ct_4, ct_5, headD_1, List.mem_cons, List.not_mem_nil, or_false, false_or, or_true, true_or, true_and, and_true, false_and, and_false, not_true_eq_false, not_false_eq_true, if_true, if_false, nr_20, nr_24, nr_40, nr_41, nr_44, pt_lt, pt_ge, pt_eq, pt_ne, pt_gt, pt_le, pt_E, pt_N, pt_F, ite_10, ite_11, ne_eq, and_self, or_self, decide_true, decide_false, Bool.not_true, Bool.not_false, Bool.false_eq_true, Nat.reduceEqDiff, Nat.reduceAdd, Int.reduceEq, Int.reduceLT, Int.reduceLE, Int.reduceNeg, Int.reduceAdd, Int.reduceSub, Int.reduceMul, reduceCtorEq, iA, iS, iM, iD, iR, iN, lA, lS, lM, lD, lR, l0, l1, l2, l3, hs, hn, k11, k12, wM_of e1, wM_of e3, w1, o1, y1, z1, w2, o2, y2, z2, w3, o3, y3, z3]
  exact e4
theorem lc_30 (h : LH S b sc x len i L v) : wS (sSeq (sIf (cB qne (eCallV 11 mX11_shows [(eV 1), (eA 14 (eV 0) (e2 iA (eV 3) (eI 1))), (eA 14 (eV 0) (e2 iA (eV 3) (eI 2))), (eA 14 (eV 0) (e2 iA (eV 3) (eI 3)))]) (eCallV 12 mX12_shows [(eV 2), (eA 14 (eV 0) (e2 iA (eV 3) (eI 1))), (eA 14 (eV 0) (e2 iA (eV 3) (eI 2))), (eA 14 (eV 0) (e2 iA (eV 3) (eI 3)))])) (sRet (eI 0)) sSkip) sBrk) L S v (fun k _ L' w => k = 1 ∧ L' = L ∧ Inv S b sc x w) := by
  obtain ⟨⟨l0, l1, l2, l3⟩, ⟨hs, hn⟩, ⟨i0, i1, i2⟩, hb, hI⟩ := h
  obtain ⟨k11, k12, -⟩ := hI.1.kk
  have o1 : 0 ≤ i + 1 ∧ i + 1 < len := by omega
  have y1 := hI.2.2 (i + 1)
  have o2 : 0 ≤ i + 2 ∧ i + 2 < len := by omega
  have y2 := hI.2.2 (i + 2)
  have o3 : 0 ≤ i + 3 ∧ i + 3 < len := by omega
  have y3 := hI.2.2 (i + 3)
  obtain ⟨r, w, u, e1, e2, e3, e4⟩ := law_case hI hs kX11_shows knX12_shows (zs := [x (i + 1), x (i + 2), x (i + 3)]) (g_shows hI.1)
  have z1 := e2 (i + 1)
  have z2 := e2 (i + 2)
  have z3 := e2 (i + 3)
  have w1 : w32 (i + 1) = i + 1 := by clear hI; exact w32_e (by omega)
  have w2 : w32 (i + 2) = i + 2 := by clear hI; exact w32_e (by omega)
  have w3 : w32 (i + 3) = i + 3 := by clear hI; exact w32_e (by omega)
  simp only [wE_I, wE_V, wE_F, wE_A, wE_N, wE_1, wE_2, wE_D, wE_B, wE_If, wE_C, wE_CV, wE_SL, wE_SA, wA_0, wA_1, wC_B, wC_E, wC_And, wC_Or, wC_Not, wS_Skip, wS_Brk, wS_Cnt, wS_RetV, wS_Ret, wS_Seq, wS_Set, wS_Inc, wS_Do, wS_Put, wS_PutC, wS_Arr, wS_ArrC, wS_If, wS_Sw, wS_F0, wS_F1, wM_q, lu_ap, aL_ap, ct_0, ct_1, ct_2, ct_3, ct_4, ct_5, headD_1, List.mem_cons, List.not_mem_nil, or_false, false_or, or_true, true_or, true_and, and_true, false_and, and_false, not_true_eq_false, not_false_eq_true, if_true, if_false, nr_20, nr_24, nr_40, nr_41, nr_44, pt_lt, pt_ge, pt_eq, pt_ne, pt_gt, pt_le, pt_E, pt_N, pt_F, ite_10, ite_11, ne_eq, and_self, or_self, decide_true, decide_false, Bool.not_true, Bool.not_false, Bool.false_eq_true, Nat.reduceEqDiff, Nat.reduceAdd, Int.reduceEq, Int.reduceLT, Int.reduceLE, Int.reduceNeg, Int.reduceAdd, Int.reduceSub, Int.reduceMul, reduceCtorEq, iA, iS, iM, iD, iR, iN, lA, lS, lM, lD, lR, l0, l1, l2, l3, hs, hn, k11, k12, wM_of e1, wM_of e3, w1, o1, y1, z1, w2, o2, y2, z2, w3, o3, y3, z3]
  exact e4
theorem lc_31 (h : LH S b sc x len i L v) : wS (sSeq (sIf (cB qne (eCallV 11 mX11_would [(eV 1), (eA 14 (eV 0) (e2 iA (eV 3) (eI 1))), (eA 14 (eV 0) (e2 iA (eV 3) (eI 2))), (eA 14 (eV 0) (e2 iA (eV 3) (eI 3))), (eA 14 (eV 0) (e2 iA (eV 3) (eI 4)))]) (eCallV 12 mX12_would [(eV 2), (eA 14 (eV 0) (e2 iA (eV 3) (eI 1))), (eA 14 (eV 0) (e2 iA (eV 3) (eI 2))), (eA 14 (eV 0) (e2 iA (eV 3) (eI 3))), (eA 14 (eV 0) (e2 iA (eV 3) (eI 4)))])) (sRet (eI 0)) sSkip) sBrk) L S v (fun k _ L' w => k = 1 ∧ L' = L ∧ Inv S b sc x w) := by
  obtain ⟨⟨l0, l1, l2, l3⟩, ⟨hs, hn⟩, ⟨i0, i1, i2⟩, hb, hI⟩ := h
  obtain ⟨k11, k12, -⟩ := hI.1.kk
  have o1 : 0 ≤ i + 1 ∧ i + 1 < len := by omega
  have y1 := hI.2.2 (i + 1)
  have o2 : 0 ≤ i + 2 ∧ i + 2 < len := by omega
  have y2 := hI.2.2 (i + 2)
  have o3 : 0 ≤ i + 3 ∧ i + 3 < len := by omega
  have y3 := hI.2.2 (i + 3)
  have o4 : 0 ≤ i + 4 ∧ i + 4 < len := by omega
  have y4 := hI.2.2 (i + 4)
  obtain ⟨r, w, u, e1, e2, e3, e4⟩ := law_case hI hs kX11_would knX12_would (zs := [x (i + 1), x (i + 2), x (i + 3), x (i + 4)]) (g_would hI.1 (hb _ (by omega) (by omega)))
  have z1 := e2 (i + 1)
  have z2 := e2 (i + 2)
  have z3 := e2 (i + 3)
  have z4 := e2 (i + 4)
  have w1 : w32 (i + 1) = i + 1 := by clear hI; exact w32_e (by omega)
  have w2 : w32 (i + 2) = i + 2 := by clear hI; exact w32_e (by omega)
  have w3 : w32 (i + 3) = i + 3 := by clear hI; exact w32_e (by omega)
  have w4 : w32 (i + 4) = i + 4 := by clear hI; exact w32_e (by omega)
  simp only [wE_I, wE_V, wE_F, wE_A, wE_N, wE_1, wE_2, wE_D, wE_B, wE_If, wE_C, wE_CV, wE_SL, wE_SA, wA_0, wA_1, wC_B, wC_E, wC_And, wC_Or, wC_Not, wS_Skip, wS_Brk, wS_Cnt, wS_RetV, wS_Ret, wS_Seq, wS_Set, wS_Inc, wS_Do, wS_Put, wS_PutC, wS_Arr, wS_ArrC, wS_If, wS_Sw, wS_F0, wS_F1, wM_q, lu_ap, aL_ap, ct_0, ct_1, ct_2, ct_3, ct_4, ct_5, headD_1, List.mem_cons, List.not_mem_nil, or_false, false_or, or_true, true_or, true_and, and_true, false_and, and_false, not_true_eq_false, not_false_eq_true, if_true, if_false, nr_20, nr_24, nr_40, nr_41, nr_44, pt_lt, pt_ge, pt_eq, pt_ne, pt_gt, pt_le, pt_E, pt_N, pt_F, ite_10, ite_11, ne_eq, and_self, or_self, decide_true, decide_false, Bool.not_true, Bool.not_false, Bool.false_eq_true, Nat.reduceEqDiff, Nat.reduceAdd, Int.reduceEq, Int.reduceLT, Int.reduceLE, Int.reduceNeg, Int.reduceAdd, Int.reduceSub, Int.reduceMul, reduceCtorEq, iA, iS, iM, iD, iR, iN, lA, lS, lM, lD, lR, l0, l1, l2, l3, hs, hn, k11, k12, wM_of e1, wM_of e3, w1, o1, y1, z1, w2, o2, y2, z2, w3, o3, y3, z3, w4, o4, y4, z4]
  exact e4
theorem lc_32 (h : LH S b sc x len i L v) : wS (sSeq (sIf (cB qne (eCallV 11 mX11_fits [(eV 1), (eA 14 (eV 0) (e2 iA (eV 3) (eI 1))), (eA 14 (eV 0) (e2 iA (eV 3) (eI 2)))]) (eCallV 12 mX12_fits [(eV 2), (eA 14 (eV 0) (e2 iA (eV 3) (eI 1))), (eA 14 (eV 0) (e2 iA (eV 3) (eI 2)))])) (sRet (eI 0)) sSkip) sBrk) L S v (fun k _ L' w => k = 1 ∧ L' = L ∧ Inv S b sc x w) := by
  obtain ⟨⟨l0, l1, l2, l3⟩, ⟨hs, hn⟩, ⟨i0, i1, i2⟩, hb, hI⟩ := h
  obtain ⟨k11, k12, -⟩ := hI.1.kk
  have o1 : 0 ≤ i + 1 ∧ i + 1 < len := by omega
  have y1 := hI.2.2 (i + 1)
  have o2 : 0 ≤ i + 2 ∧ i + 2 < len := by omega
  have y2 := hI.2.2 (i + 2)
  obtain ⟨r, w, u, e1, e2, e3, e4⟩ := law_case hI hs kX11_fits knX12_fits (zs := [x (i + 1), x (i + 2)]) (g_fits hI.1 (hb _ (by omega) (by omega)))
  have z1 := e2 (i + 1)
  have z2 := e2 (i + 2)
  have w1 : w32 (i + 1) = i + 1 := by clear hI; exact w32_e (by omega)
  have w2 : w32 (i + 2) = i + 2 := by clear hI; exact w32_e (by omega)
  simp only [wE_I, wE_V, wE_F, wE_A, wE_N, wE_1, wE_2, wE_D, wE_B, wE_If, wE_C, wE_CV, wE_SL, wE_SA, wA_0, wA_1, wC_B, wC_E, wC_And, wC_Or, wC_Not, wS_Skip, wS_Brk, wS_Cnt, wS_RetV, wS_Ret, wS_Seq, wS_Set, wS_Inc, wS_Do, wS_Put, wS_PutC, wS_Arr, wS_ArrC, wS_If, wS_Sw, wS_F0, wS_F1, wM_q, lu_ap, aL_ap, ct_0, ct_1, ct_2, ct_3, ct_4, ct_5, headD_1, List.mem_cons, List.not_mem_nil, or_false, false_or, or_true, true_or, true_and, and_true, false_and, and_false, not_true_eq_false, not_false_eq_true, if_true, if_false, nr_20, nr_24, nr_40, nr_41, nr_44, pt_lt, pt_ge, pt_eq, pt_ne, pt_gt, pt_le, pt_E, pt_N, pt_F, ite_10, ite_11, ne_eq, and_self, or_self, decide_true, decide_false, Bool.not_true, Bool.not_false, Bool.false_eq_true, Nat.reduceEqDiff, Nat.reduceAdd, Int.reduceEq, Int.reduceLT, Int.reduceLE, Int.reduceNeg, Int.reduceAdd, Int.reduceSub, Int.reduceMul, reduceCtorEq, iA, iS, iM, iD, iR, iN, lA, lS, lM, lD, lR, l0, l1, l2, l3, hs, hn, k11, k12, wM_of e1, wM_of e3, w1, o1, y1, z1, w2, o2, y2, z2]
  exact e4
theorem lc_33 (h : LH S b sc x len i L v) : wS (sSeq (sIf (cB qne (eCallV 11 mX11_law [(eV 1)]) (eCallV 12 mX12_law [(eV 2)])) (sRet (eI 0)) sSkip) sBrk) L S v (fun k _ L' w => k = 1 ∧ L' = L ∧ Inv S b sc x w) := by
  obtain ⟨⟨l0, l1, l2, l3⟩, ⟨hs, hn⟩, ⟨i0, i1, i2⟩, hb, hI⟩ := h
  obtain ⟨k11, k12, -⟩ := hI.1.kk
  obtain ⟨r, w, u, e1, e2, e3, e4⟩ := law_case hI hs kX11_law knX12_law (zs := []) (g_law hI.1)
  simp only [wE_I, wE_V, wE_F, wE_A, wE_N, wE_1, wE_2, wE_D, wE_B, wE_If, wE_C, wE_CV, wE_SL, wE_SA, wA_0, wA_1, wC_B, wC_E, wC_And, wC_Or, wC_Not, wS_Skip, wS_Brk, wS_Cnt, wS_RetV, wS_Ret, wS_Seq, wS_Set, wS_Inc, wS_Do, wS_Put, wS_PutC, wS_Arr, wS_ArrC, wS_If, wS_Sw, wS_F0, wS_F1, wM_q, lu_ap, aL_ap, ct_0, ct_1, ct_2, ct_3, ct_4, ct_5, headD_1, List.mem_cons, List.not_mem_nil, or_false, false_or, or_true, true_or, true_and, and_true, false_and, and_false, not_true_eq_false, not_false_eq_true, if_true, if_false, nr_20, nr_24, nr_40, nr_41, nr_44, pt_lt, pt_ge, pt_eq, pt_ne, pt_gt, pt_le, pt_E, pt_N, pt_F, ite_10, ite_11, ne_eq, and_self, or_self, decide_true, decide_false, Bool.not_true, Bool.not_false, Bool.false_eq_true, Nat.reduceEqDiff, Nat.reduceAdd, Int.reduceEq, Int.reduceLT, Int.reduceLE, Int.reduceNeg, Int.reduceAdd, Int.reduceSub, Int.reduceMul, reduceCtorEq, iA, iS, iM, iD, iR, iN, lA, lS, lM, lD, lR, l0, l1, l2, l3, hs, hn, k11, k12, wM_of e1, wM_of e3]
  exact e4
theorem lc_34 (h : LH S b sc x len i L v) : wS (sSeq (sIf (cB qne (eCallV 11 mX11_image [(eV 1), (eA 14 (eV 0) (e2 iA (eV 3) (eI 1)))]) (eCallV 12 mX12_image [(eV 2), (eA 14 (eV 0) (e2 iA (eV 3) (eI 1)))])) (sRet (eI 0)) sSkip) sBrk) L S v (fun k _ L' w => k = 1 ∧ L' = L ∧ Inv S b sc x w) := by
  obtain ⟨⟨l0, l1, l2, l3⟩, ⟨hs, hn⟩, ⟨i0, i1, i2⟩, hb, hI⟩ := h
  obtain ⟨k11, k12, -⟩ := hI.1.kk
  have o1 : 0 ≤ i + 1 ∧ i + 1 < len := by omega
  have y1 := hI.2.2 (i + 1)
  obtain ⟨r, w, u, e1, e2, e3, e4⟩ := law_case hI hs kX11_image knX12_image (zs := [x (i + 1)]) (g_image hI.1)
  have z1 := e2 (i + 1)
  have w1 : w32 (i + 1) = i + 1 := by clear hI; exact w32_e (by omega)
  simp only [wE_I, wE_V, wE_F, wE_A, wE_N, wE_1, wE_2, wE_D, wE_B, wE_If, wE_C, wE_CV, wE_SL, wE_SA, wA_0, wA_1, wC_B, wC_E, wC_And, wC_Or, wC_Not, wS_Skip, wS_Brk, wS_Cnt, wS_RetV, wS_Ret, wS_Seq, wS_Set, wS_Inc, wS_Do, wS_Put, wS_PutC, wS_Arr, wS_ArrC, wS_If, wS_Sw, wS_F0, wS_F1, wM_q, lu_ap, aL_ap, ct_0, ct_1, ct_2, ct_3, ct_4, ct_5, headD_1, List.mem_cons, List.not_mem_nil, or_false, false_or, or_true, true_or, true_and, and_true, false_and, and_false, not_true_eq_false, not_false_eq_true, if_true, if_false, nr_20, nr_24, nr_40, nr_41, nr_44, pt_lt, pt_ge, pt_eq, pt_ne, pt_gt, pt_le, pt_E, pt_N, pt_F, ite_10, ite_11, ne_eq, and_self, or_self, decide_true, decide_false, Bool.not_true, Bool.not_false, Bool.false_eq_true, Nat.reduceEqDiff, Nat.reduceAdd, Int.reduceEq, Int.reduceLT, Int.reduceLE, Int.reduceNeg, Int.reduceAdd, Int.reduceSub, Int.reduceMul, reduceCtorEq, iA, iS, iM, iD, iR, iN, lA, lS, lM, lD, lR, l0, l1, l2, l3, hs, hn, k11, k12, wM_of e1, wM_of e3, w1, o1, y1, z1]
  exact e4
theorem lc_35 (h : LH S b sc x len i L v) : wS (sSeq (sIf (cB qne (eCallV 11 mX11_back [(eV 1), (eA 14 (eV 0) (e2 iA (eV 3) (eI 1)))]) (eCallV 12 mX12_back [(eV 2), (eA 14 (eV 0) (e2 iA (eV 3) (eI 1)))])) (sRet (eI 0)) sSkip) sBrk) L S v (fun k _ L' w => k = 1 ∧ L' = L ∧ Inv S b sc x w) := by
  obtain ⟨⟨l0, l1, l2, l3⟩, ⟨hs, hn⟩, ⟨i0, i1, i2⟩, hb, hI⟩ := h
  obtain ⟨k11, k12, -⟩ := hI.1.kk
  have o1 : 0 ≤ i + 1 ∧ i + 1 < len := by omega
  have y1 := hI.2.2 (i + 1)
  obtain ⟨r, w, u, e1, e2, e3, e4⟩ := law_case hI hs kX11_back knX12_back (zs := [x (i + 1)]) (g_back hI.1)
  have z1 := e2 (i + 1)
  have w1 : w32 (i + 1) = i + 1 := by clear hI; exact w32_e (by omega)
  simp only [wE_I, wE_V, wE_F, wE_A, wE_N, wE_1, wE_2, wE_D, wE_B, wE_If, wE_C, wE_CV, wE_SL, wE_SA, wA_0, wA_1, wC_B, wC_E, wC_And, wC_Or, wC_Not, wS_Skip, wS_Brk, wS_Cnt, wS_RetV, wS_Ret, wS_Seq, wS_Set, wS_Inc, wS_Do, wS_Put, wS_PutC, wS_Arr, wS_ArrC, wS_If, wS_Sw, wS_F0, wS_F1, wM_q, lu_ap, aL_ap, ct_0, ct_1, ct_2, ct_3, ct_4, ct_5, headD_1, List.mem_cons, List.not_mem_nil, or_false, false_or, or_true, true_or, true_and, and_true, false_and, and_false, not_true_eq_false, not_false_eq_true, if_true, if_false, nr_20, nr_24, nr_40, nr_41, nr_44, pt_lt, pt_ge, pt_eq, pt_ne, pt_gt, pt_le, pt_E, pt_N, pt_F, ite_10, ite_11, ne_eq, and_self, or_self, decide_true, decide_false, Bool.not_true, Bool.not_false, Bool.false_eq_true, Nat.reduceEqDiff, Nat.reduceAdd, Int.reduceEq, Int.reduceLT, Int.reduceLE, Int.reduceNeg, Int.reduceAdd, Int.reduceSub, Int.reduceMul, reduceCtorEq, iA, iS, iM, iD, iR, iN, lA, lS, lM, lD, lR, l0, l1, l2, l3, hs, hn, k11, k12, wM_of e1, wM_of e3, w1, o1, y1, z1]
  exact e4
theorem lc_36 (h : LH S b sc x len i L v) : wS (sSeq (sIf (cB qne (eCallV 11 mX11_about [(eV 1), (eA 14 (eV 0) (e2 iA (eV 3) (eI 1)))]) (eCallV 12 mX12_about [(eV 2), (eA 14 (eV 0) (e2 iA (eV 3) (eI 1)))])) (sRet (eI 0)) sSkip) sBrk) L S v (fun k _ L' w => k = 1 ∧ L' = L ∧ Inv S b sc x w) := by
  obtain ⟨⟨l0, l1, l2, l3⟩, ⟨hs, hn⟩, ⟨i0, i1, i2⟩, hb, hI⟩ := h
  obtain ⟨k11, k12, -⟩ := hI.1.kk
  have o1 : 0 ≤ i + 1 ∧ i + 1 < len := by omega
  have y1 := hI.2.2 (i + 1)
  obtain ⟨r, w, u, e1, e2, e3, e4⟩ := law_case hI hs kX11_about knX12_about (zs := [x (i + 1)]) (g_about hI.1)
  have z1 := e2 (i + 1)
  have w1 : w32 (i + 1) = i + 1 := by clear hI; exact w32_e (by omega)
  simp only [wE_I, wE_V, wE_F, wE_A, wE_N, wE_1, wE_2, wE_D, wE_B, wE_If, wE_C, wE_CV, wE_SL, wE_SA, wA_0, wA_1, wC_B, wC_E, wC_And, wC_Or, wC_Not, wS_Skip, wS_Brk, wS_Cnt, wS_RetV, wS_Ret, wS_Seq, wS_Set, wS_Inc, wS_Do, wS_Put, wS_PutC, wS_Arr, wS_ArrC, wS_If, wS_Sw, wS_F0, wS_F1, wM_q, lu_ap, aL_ap, ct_0, ct_1, ct_2, ct_3, ct_4, ct_5, headD_1, List.mem_cons, List.not_mem_nil, or_false, false_or, or_true, true_or, true_and, and_true, false_and, and_false, not_true_eq_false, not_false_eq_true, if_true, if_false, nr_20, nr_24, nr_40, nr_41, nr_44, pt_lt, pt_ge, pt_eq, pt_ne, pt_gt, pt_le, pt_E, pt_N, pt_F, ite_10, ite_11, ne_eq, and_self, or_self, decide_true, decide_false, Bool.not_true, Bool.not_false, Bool.false_eq_true, Nat.reduceEqDiff, Nat.reduceAdd, Int.reduceEq, Int.reduceLT, Int.reduceLE, Int.reduceNeg, Int.reduceAdd, Int.reduceSub, Int.reduceMul, reduceCtorEq, iA, iS, iM, iD, iR, iN, lA, lS, lM, lD, lR, l0, l1, l2, l3, hs, hn, k11, k12, wM_of e1, wM_of e3, w1, o1, y1, z1]
  exact e4
end LW
