/-! STORE: all lines of a text, the class's -/
def Tr (S : QS) (v : QV) (T x P : Int) : Nat → QV → Int → QV → Int × Int → Prop
  | 0, u, i, w, o => Cl S v T x P u i ∧ kdT v T i = 1 ∧ w = u ∧ o = (0, i)
  | k + 1, u, i, w, o => kdT v T i ≠ 1 ∧ Cl S v T x P u i ∧ ((∃ w1 i1, Ls S v T x P u i w1 (0, i1) ∧ i < i1 ∧ Tr S v T x P k w1 i1 w o) ∨ (Ls S v T x P u i w o ∧ ¬ o.1 = 0))
def LE (v : QV) (T x : Int) (w : QV) (o : Int × Int) (r : Int) : Prop := (o.1 = 0 ∧ r = 1 ∧ w x 3 = 0 ∧ w x 4 = -1) ∨ (0 < o.1 ∧ r = 0 ∧ w x 3 = o.1 ∧ w x 4 = stT v T o.2)
theorem FrP.tr {x P : Int} {u v w : QV} (h : FrP x P u v) (h' : FrP x P v w) : FrP x P u w := fun a k q1 q2 => (h' a k q1 q2).trans (h a k q1 q2)
theorem FrP.rf {x P : Int} {u : QV} : FrP x P u u := fun _ _ _ _ => rfl
section PA
variable {S : QS} {u v w : QV} {T x P i : Int} {o : Int × Int}
theorem Cl.kd (h : Cl S v T x P u i) : mX5_kind [x] S u = some (kdT v T i, u) := by
  have hk := q_kind h.1.1
  rw [kd_q h.1.2.2.1] at hk
  exact hk
theorem c_lines {u0 : QV} {i0 : Int} (h : Cl S v T x P u0 i0) (h3 : u0 x 3 = 0) (h4 : u0 x 4 = -1) (hi3 : 3 ≤ i0) {L : QL} (m0 : L 0 = x) (m3 : L 3 = 1) (m4 : L 4 = 0) : wS (sWhile cX5_parse_1 bX5_parse_1 uX5_parse_1) L S u0 (fun k _ L' w => k = 0 ∧ (Kc S u0 w ∧ FrP x P u0 w) ∧ ∃ N o, Tr S v T x P N u0 i0 w o ∧ LE v T x w o (L' 3)) := by
  obtain ⟨e1, e2, e3⟩ := h.1.end
  have t1 := e3.1
  refine wS_While (fun n L u => (L 0 = x ∧ 0 ≤ L 4 ∧ L 4 < 1000) ∧ (Kc S u0 u ∧ FrP x P u0 u) ∧ ((∃ i, (L 3 = 1 ∧ L 4 + 3 ≤ i ∧ (n : Int) = nTk v T - i) ∧ Cl S v T x P u i ∧ (u x 3 = 0 ∧ u x 4 = -1) ∧ ∃ d, ∀ N w o, Tr S v T x P N u i w o → Tr S v T x P (N + d) u0 i0 w o) ∨ (L 3 = 0 ∧ ∃ N o, Tr S v T x P N u0 i0 u o ∧ 0 < o.1 ∧ u x 3 = o.1 ∧ u x 4 = stT v T o.2))) (nTk v T - i0).toNat (by omega) ?_ ?_
  · exact ⟨⟨m0, by omega, by omega⟩, ⟨Kc.rf, FrP.rf⟩, Or.inl ⟨i0, ⟨m3, by omega, by omega⟩, h, ⟨h3, h4⟩, 0, fun N w o q => q⟩⟩
  · clear m0 m3 m4 h h3 h4
    rintro n L u ⟨⟨m0, m4, m5⟩, ⟨hk, hfp⟩, ⟨i, ⟨m3, mi, hn⟩, hC, ⟨y3, y4⟩, d, hd⟩ | ⟨m3, N, o, hT, ho, y3, y4⟩⟩
    · obtain ⟨-, hi, -⟩ := hC.1.end
      have hkx := hC.1.1.2.1.k
      have hkd := hC.kd
      by_cases c1 : kdT v T i = 1
      · have hfin : ∃ N o, Tr S v T x P N u0 i0 u o ∧ LE v T x u o 1 := ⟨0 + d, (0, i), hd 0 u (0, i) ⟨hC, c1, rfl, rfl⟩, Or.inl ⟨rfl, rfl, y3, y4⟩⟩
        rw [c1] at hkd
        simp only [cX5_parse_1, wE_I, wE_V, wE_F, wE_A, wE_N, wE_1, wE_2, wE_D, wE_B, wE_If, wE_C, wE_CV, wE_SL, wE_SA, wA_0, wA_1, wC_B, wC_E, wC_And, wC_Or, wC_Not, wS_Skip, wS_Brk, wS_Cnt, wS_RetV, wS_Ret, wS_Seq, wS_Set, wS_Inc, wS_Do, wS_Put, wS_PutC, wS_Arr, wS_ArrC, wS_If, wS_Sw, wS_F0, wS_F1, wM_q, lu_ap, aL_ap, ct_0, ct_1, ct_2, ct_3, ct_4, ct_5, headD_1, List.mem_cons, List.not_mem_nil, or_false, false_or, or_true, true_or, true_and, and_true, false_and, and_false, not_true_eq_false, not_false_eq_true, if_true, if_false, nr_20, nr_24, nr_40, nr_41, nr_44, pt_lt, pt_ge, pt_eq, pt_ne, pt_gt, pt_le, pt_E, pt_N, pt_F, ite_10, ite_11, ne_eq, and_self, or_self, decide_true, decide_false, Bool.not_true, Bool.not_false, Bool.false_eq_true, Nat.reduceEqDiff, Nat.reduceAdd, Int.reduceEq, Int.reduceLT, Int.reduceLE, Int.reduceNeg, Int.reduceAdd, Int.reduceSub, Int.reduceMul, reduceCtorEq, iA, iS, iM, iD, iR, iN, lA, lS, lM, lD, lR, m0, m3, m5, hkx, wM_of hkd]
        exact ⟨⟨hk, hfp⟩, hfin⟩
      · have ew : w32 (L 4 + 1) = L 4 + 1 := w32_e (by omega)
        have hfin : ∀ (r : Int) (w : QV) (o : Int × Int), LnC u w T x v o r → Ls S v T x P u i w o → (Kc S u w ∧ FrP x P u w) → (o.1 = 0 → Cl S v T x P w o.2 ∧ i < o.2) → ∃ n', n' < n ∧ (lu (lu L 3 r) 4 (L 4 + 1) 0 = x ∧ 0 ≤ lu (lu L 3 r) 4 (L 4 + 1) 4 ∧ lu (lu L 3 r) 4 (L 4 + 1) 4 < 1000) ∧ (Kc S u0 w ∧ FrP x P u0 w) ∧ ((∃ i, (lu (lu L 3 r) 4 (L 4 + 1) 3 = 1 ∧ lu (lu L 3 r) 4 (L 4 + 1) 4 + 3 ≤ i ∧ (n' : Int) = nTk v T - i) ∧ Cl S v T x P w i ∧ (w x 3 = 0 ∧ w x 4 = -1) ∧ ∃ d, ∀ N w' o, Tr S v T x P N w i w' o → Tr S v T x P (N + d) u0 i0 w' o) ∨ (lu (lu L 3 r) 4 (L 4 + 1) 3 = 0 ∧ ∃ N o, Tr S v T x P N u0 i0 w o ∧ 0 < o.1 ∧ w x 3 = o.1 ∧ w x 4 = stT v T o.2)) := fun r w o hL hs hkk hcl => by
          clear ew
          have l0 : lu (lu L 3 r) 4 (L 4 + 1) 0 = x := by simp [lu_ap, m0]
          have l3 : lu (lu L 3 r) 4 (L 4 + 1) 3 = r := by simp [lu_ap]
          have l4 : lu (lu L 3 r) 4 (L 4 + 1) 4 = L 4 + 1 := by simp [lu_ap]
          rw [l0, l3, l4]
          rcases hL with ⟨z, hr, a2, a3, a4⟩ | ⟨z, hr, a3, a4⟩
          · obtain ⟨hC2, hlt⟩ := hcl z
            obtain ⟨-, hi2, -⟩ := hC2.1.end
            have eo : o = (0, o.2) := pair_e z rfl
            refine ⟨(nTk v T - o.2).toNat, by omega, ⟨rfl, by omega, by omega⟩, ⟨hk.tr hkk.1, hfp.tr hkk.2⟩, Or.inl ⟨o.2, ⟨hr, by omega, by omega⟩, hC2, ⟨a3.trans y3, a4.trans y4⟩, d + 1, fun N w' o' q => ?_⟩⟩
            have := hd (N + 1) w' o' ⟨c1, hC, Or.inl ⟨w, o.2, by rw [← eo]; exact hs, hlt, q⟩⟩
            rw [show N + (d + 1) = N + 1 + d by omega]
            exact this
          · refine ⟨n - 1, by omega, ⟨rfl, by omega, by omega⟩, ⟨hk.tr hkk.1, hfp.tr hkk.2⟩, Or.inr ⟨hr, 0 + 1 + d, o, hd (0 + 1) w o ⟨c1, hC, Or.inr ⟨hs, by omega⟩⟩, z, a3, a4⟩⟩
        by_cases k1 : kdT v T i = 257
        · rw [k1] at hkd
          simp only [cX5_parse_1, bX5_parse_1, wE_I, wE_V, wE_F, wE_A, wE_N, wE_1, wE_2, wE_D, wE_B, wE_If, wE_C, wE_CV, wE_SL, wE_SA, wA_0, wA_1, wC_B, wC_E, wC_And, wC_Or, wC_Not, wS_Skip, wS_Brk, wS_Cnt, wS_RetV, wS_Ret, wS_Seq, wS_Set, wS_Inc, wS_Do, wS_Put, wS_PutC, wS_Arr, wS_ArrC, wS_If, wS_Sw, wS_F0, wS_F1, wM_q, lu_ap, aL_ap, ct_0, ct_1, ct_2, ct_3, ct_4, ct_5, headD_1, List.mem_cons, List.not_mem_nil, or_false, false_or, or_true, true_or, true_and, and_true, false_and, and_false, not_true_eq_false, not_false_eq_true, if_true, if_false, nr_20, nr_24, nr_40, nr_41, nr_44, pt_lt, pt_ge, pt_eq, pt_ne, pt_gt, pt_le, pt_E, pt_N, pt_F, ite_10, ite_11, ne_eq, and_self, or_self, decide_true, decide_false, Bool.not_true, Bool.not_false, Bool.false_eq_true, Nat.reduceEqDiff, Nat.reduceAdd, Int.reduceEq, Int.reduceLT, Int.reduceLE, Int.reduceNeg, Int.reduceAdd, Int.reduceSub, Int.reduceMul, reduceCtorEq, iA, iS, iM, iD, iR, iN, lA, lS, lM, lD, lR, m0, m3, m5, hkx, wM_of hkd]
          refine wM_mono (c_lineM hC c1) ?_
          rintro r w e ⟨o, hL, hs, hkk, hcl⟩
          simp only [uX5_parse_1, wE_I, wE_V, wE_F, wE_A, wE_N, wE_1, wE_2, wE_D, wE_B, wE_If, wE_C, wE_CV, wE_SL, wE_SA, wA_0, wA_1, wC_B, wC_E, wC_And, wC_Or, wC_Not, wS_Skip, wS_Brk, wS_Cnt, wS_RetV, wS_Ret, wS_Seq, wS_Set, wS_Inc, wS_Do, wS_Put, wS_PutC, wS_Arr, wS_ArrC, wS_If, wS_Sw, wS_F0, wS_F1, wM_q, lu_ap, aL_ap, ct_0, ct_1, ct_2, ct_3, ct_4, ct_5, headD_1, List.mem_cons, List.not_mem_nil, or_false, false_or, or_true, true_or, true_and, and_true, false_and, and_false, not_true_eq_false, not_false_eq_true, if_true, if_false, nr_20, nr_24, nr_40, nr_41, nr_44, pt_lt, pt_ge, pt_eq, pt_ne, pt_gt, pt_le, pt_E, pt_N, pt_F, ite_10, ite_11, ne_eq, and_self, or_self, decide_true, decide_false, Bool.not_true, Bool.not_false, Bool.false_eq_true, Nat.reduceEqDiff, Nat.reduceAdd, Int.reduceEq, Int.reduceLT, Int.reduceLE, Int.reduceNeg, Int.reduceAdd, Int.reduceSub, Int.reduceMul, reduceCtorEq, lu_ap, ew]
          exact hfin r w o hL (Or.inl ⟨k1, hs⟩) hkk hcl
        · by_cases k2 : kdT v T i = 264
          · rw [k2] at hkd
            simp only [cX5_parse_1, bX5_parse_1, wE_I, wE_V, wE_F, wE_A, wE_N, wE_1, wE_2, wE_D, wE_B, wE_If, wE_C, wE_CV, wE_SL, wE_SA, wA_0, wA_1, wC_B, wC_E, wC_And, wC_Or, wC_Not, wS_Skip, wS_Brk, wS_Cnt, wS_RetV, wS_Ret, wS_Seq, wS_Set, wS_Inc, wS_Do, wS_Put, wS_PutC, wS_Arr, wS_ArrC, wS_If, wS_Sw, wS_F0, wS_F1, wM_q, lu_ap, aL_ap, ct_0, ct_1, ct_2, ct_3, ct_4, ct_5, headD_1, List.mem_cons, List.not_mem_nil, or_false, false_or, or_true, true_or, true_and, and_true, false_and, and_false, not_true_eq_false, not_false_eq_true, if_true, if_false, nr_20, nr_24, nr_40, nr_41, nr_44, pt_lt, pt_ge, pt_eq, pt_ne, pt_gt, pt_le, pt_E, pt_N, pt_F, ite_10, ite_11, ne_eq, and_self, or_self, decide_true, decide_false, Bool.not_true, Bool.not_false, Bool.false_eq_true, Nat.reduceEqDiff, Nat.reduceAdd, Int.reduceEq, Int.reduceLT, Int.reduceLE, Int.reduceNeg, Int.reduceAdd, Int.reduceSub, Int.reduceMul, reduceCtorEq, iA, iS, iM, iD, iR, iN, lA, lS, lM, lD, lR, m0, m3, m5, hkx, wM_of hkd]
            refine wM_mono (c_lineA hC c1) ?_
            rintro r w e ⟨o, hL, hs, hkk, hcl⟩
            simp only [uX5_parse_1, wE_I, wE_V, wE_F, wE_A, wE_N, wE_1, wE_2, wE_D, wE_B, wE_If, wE_C, wE_CV, wE_SL, wE_SA, wA_0, wA_1, wC_B, wC_E, wC_And, wC_Or, wC_Not, wS_Skip, wS_Brk, wS_Cnt, wS_RetV, wS_Ret, wS_Seq, wS_Set, wS_Inc, wS_Do, wS_Put, wS_PutC, wS_Arr, wS_ArrC, wS_If, wS_Sw, wS_F0, wS_F1, wM_q, lu_ap, aL_ap, ct_0, ct_1, ct_2, ct_3, ct_4, ct_5, headD_1, List.mem_cons, List.not_mem_nil, or_false, false_or, or_true, true_or, true_and, and_true, false_and, and_false, not_true_eq_false, not_false_eq_true, if_true, if_false, nr_20, nr_24, nr_40, nr_41, nr_44, pt_lt, pt_ge, pt_eq, pt_ne, pt_gt, pt_le, pt_E, pt_N, pt_F, ite_10, ite_11, ne_eq, and_self, or_self, decide_true, decide_false, Bool.not_true, Bool.not_false, Bool.false_eq_true, Nat.reduceEqDiff, Nat.reduceAdd, Int.reduceEq, Int.reduceLT, Int.reduceLE, Int.reduceNeg, Int.reduceAdd, Int.reduceSub, Int.reduceMul, reduceCtorEq, lu_ap, ew]
            exact hfin r w o hL (Or.inr (Or.inl ⟨k2, hs⟩)) hkk hcl
          · by_cases k3 : kdT v T i = 269
            · rw [k3] at hkd
              simp only [cX5_parse_1, bX5_parse_1, wE_I, wE_V, wE_F, wE_A, wE_N, wE_1, wE_2, wE_D, wE_B, wE_If, wE_C, wE_CV, wE_SL, wE_SA, wA_0, wA_1, wC_B, wC_E, wC_And, wC_Or, wC_Not, wS_Skip, wS_Brk, wS_Cnt, wS_RetV, wS_Ret, wS_Seq, wS_Set, wS_Inc, wS_Do, wS_Put, wS_PutC, wS_Arr, wS_ArrC, wS_If, wS_Sw, wS_F0, wS_F1, wM_q, lu_ap, aL_ap, ct_0, ct_1, ct_2, ct_3, ct_4, ct_5, headD_1, List.mem_cons, List.not_mem_nil, or_false, false_or, or_true, true_or, true_and, and_true, false_and, and_false, not_true_eq_false, not_false_eq_true, if_true, if_false, nr_20, nr_24, nr_40, nr_41, nr_44, pt_lt, pt_ge, pt_eq, pt_ne, pt_gt, pt_le, pt_E, pt_N, pt_F, ite_10, ite_11, ne_eq, and_self, or_self, decide_true, decide_false, Bool.not_true, Bool.not_false, Bool.false_eq_true, Nat.reduceEqDiff, Nat.reduceAdd, Int.reduceEq, Int.reduceLT, Int.reduceLE, Int.reduceNeg, Int.reduceAdd, Int.reduceSub, Int.reduceMul, reduceCtorEq, iA, iS, iM, iD, iR, iN, lA, lS, lM, lD, lR, m0, m3, m5, hkx, wM_of hkd]
              refine wM_mono (c_lineF hC c1) ?_
              rintro r w e ⟨o, hL, hs, hkk, hcl⟩
              simp only [uX5_parse_1, wE_I, wE_V, wE_F, wE_A, wE_N, wE_1, wE_2, wE_D, wE_B, wE_If, wE_C, wE_CV, wE_SL, wE_SA, wA_0, wA_1, wC_B, wC_E, wC_And, wC_Or, wC_Not, wS_Skip, wS_Brk, wS_Cnt, wS_RetV, wS_Ret, wS_Seq, wS_Set, wS_Inc, wS_Do, wS_Put, wS_PutC, wS_Arr, wS_ArrC, wS_If, wS_Sw, wS_F0, wS_F1, wM_q, lu_ap, aL_ap, ct_0, ct_1, ct_2, ct_3, ct_4, ct_5, headD_1, List.mem_cons, List.not_mem_nil, or_false, false_or, or_true, true_or, true_and, and_true, false_and, and_false, not_true_eq_false, not_false_eq_true, if_true, if_false, nr_20, nr_24, nr_40, nr_41, nr_44, pt_lt, pt_ge, pt_eq, pt_ne, pt_gt, pt_le, pt_E, pt_N, pt_F, ite_10, ite_11, ne_eq, and_self, or_self, decide_true, decide_false, Bool.not_true, Bool.not_false, Bool.false_eq_true, Nat.reduceEqDiff, Nat.reduceAdd, Int.reduceEq, Int.reduceLT, Int.reduceLE, Int.reduceNeg, Int.reduceAdd, Int.reduceSub, Int.reduceMul, reduceCtorEq, lu_ap, ew]
              exact hfin r w o hL (Or.inr (Or.inr (Or.inl ⟨k3, hs⟩))) hkk hcl
            · by_cases k4 : kdT v T i = 272
              · rw [k4] at hkd
                simp only [cX5_parse_1, bX5_parse_1, wE_I, wE_V, wE_F, wE_A, wE_N, wE_1, wE_2, wE_D, wE_B, wE_If, wE_C, wE_CV, wE_SL, wE_SA, wA_0, wA_1, wC_B, wC_E, wC_And, wC_Or, wC_Not, wS_Skip, wS_Brk, wS_Cnt, wS_RetV, wS_Ret, wS_Seq, wS_Set, wS_Inc, wS_Do, wS_Put, wS_PutC, wS_Arr, wS_ArrC, wS_If, wS_Sw, wS_F0, wS_F1, wM_q, lu_ap, aL_ap, ct_0, ct_1, ct_2, ct_3, ct_4, ct_5, headD_1, List.mem_cons, List.not_mem_nil, or_false, false_or, or_true, true_or, true_and, and_true, false_and, and_false, not_true_eq_false, not_false_eq_true, if_true, if_false, nr_20, nr_24, nr_40, nr_41, nr_44, pt_lt, pt_ge, pt_eq, pt_ne, pt_gt, pt_le, pt_E, pt_N, pt_F, ite_10, ite_11, ne_eq, and_self, or_self, decide_true, decide_false, Bool.not_true, Bool.not_false, Bool.false_eq_true, Nat.reduceEqDiff, Nat.reduceAdd, Int.reduceEq, Int.reduceLT, Int.reduceLE, Int.reduceNeg, Int.reduceAdd, Int.reduceSub, Int.reduceMul, reduceCtorEq, iA, iS, iM, iD, iR, iN, lA, lS, lM, lD, lR, m0, m3, m5, hkx, wM_of hkd]
                refine wM_mono (c_lineS hC c1) ?_
                rintro r w e ⟨o, hL, hs, hkk, hcl⟩
                simp only [uX5_parse_1, wE_I, wE_V, wE_F, wE_A, wE_N, wE_1, wE_2, wE_D, wE_B, wE_If, wE_C, wE_CV, wE_SL, wE_SA, wA_0, wA_1, wC_B, wC_E, wC_And, wC_Or, wC_Not, wS_Skip, wS_Brk, wS_Cnt, wS_RetV, wS_Ret, wS_Seq, wS_Set, wS_Inc, wS_Do, wS_Put, wS_PutC, wS_Arr, wS_ArrC, wS_If, wS_Sw, wS_F0, wS_F1, wM_q, lu_ap, aL_ap, ct_0, ct_1, ct_2, ct_3, ct_4, ct_5, headD_1, List.mem_cons, List.not_mem_nil, or_false, false_or, or_true, true_or, true_and, and_true, false_and, and_false, not_true_eq_false, not_false_eq_true, if_true, if_false, nr_20, nr_24, nr_40, nr_41, nr_44, pt_lt, pt_ge, pt_eq, pt_ne, pt_gt, pt_le, pt_E, pt_N, pt_F, ite_10, ite_11, ne_eq, and_self, or_self, decide_true, decide_false, Bool.not_true, Bool.not_false, Bool.false_eq_true, Nat.reduceEqDiff, Nat.reduceAdd, Int.reduceEq, Int.reduceLT, Int.reduceLE, Int.reduceNeg, Int.reduceAdd, Int.reduceSub, Int.reduceMul, reduceCtorEq, lu_ap, ew]
                exact hfin r w o hL (Or.inr (Or.inr (Or.inr (Or.inl ⟨k4, hs⟩)))) hkk hcl
              · have hf := q_fail (f := 1) hC.1.1
                have h3i := congrFun (st_q hC.1.2.2.1) i
                have h10 := hC.1.1.2.2.2.2.2.2.2.2.2
                have hkf := Kc.of kX5_fail hf
                have hh := hfin 0 _ (1, i) (Or.inr ⟨(by decide : (0 : Int) < 1), rfl, by rw [vu_ne (by simp), vu_is], by rw [vu_is]; exact h3i⟩) (Or.inr (Or.inr (Or.inr (Or.inr ⟨⟨k1, k2, k3, k4⟩, rfl, fun a k q => by rw [vu_ne (fun e => (q e.1).2 e.2), vu_ne (fun e => (q e.1).1 e.2)]⟩)))) ⟨hkf, fun a k q1 q2 => by rw [vu_ne (by omega), vu_ne (by omega)]⟩ (fun z => absurd z (by simp))
                simp only [wE_I, wE_V, wE_F, wE_A, wE_N, wE_1, wE_2, wE_D, wE_B, wE_If, wE_C, wE_CV, wE_SL, wE_SA, wA_0, wA_1, wC_B, wC_E, wC_And, wC_Or, wC_Not, wS_Skip, wS_Brk, wS_Cnt, wS_RetV, wS_Ret, wS_Seq, wS_Set, wS_Inc, wS_Do, wS_Put, wS_PutC, wS_Arr, wS_ArrC, wS_If, wS_Sw, wS_F0, wS_F1, wM_q, lu_ap, aL_ap, ct_0, ct_1, ct_2, ct_3, ct_4, ct_5, headD_1, List.mem_cons, List.not_mem_nil, or_false, false_or, or_true, true_or, true_and, and_true, false_and, and_false, not_true_eq_false, not_false_eq_true, if_true, if_false, nr_20, nr_24, nr_40, nr_41, nr_44, pt_lt, pt_ge, pt_eq, pt_ne, pt_gt, pt_le, pt_E, pt_N, pt_F, ite_10, ite_11, ne_eq, and_self, or_self, decide_true, decide_false, Bool.not_true, Bool.not_false, Bool.false_eq_true, Nat.reduceEqDiff, Nat.reduceAdd, Int.reduceEq, Int.reduceLT, Int.reduceLE, Int.reduceNeg, Int.reduceAdd, Int.reduceSub, Int.reduceMul, reduceCtorEq, iA, iS, iM, iD, iR, iN, lA, lS, lM, lD, lR, m0, m3, m5, lu_ap] at hh
                simp only [cX5_parse_1, bX5_parse_1, uX5_parse_1, wE_I, wE_V, wE_F, wE_A, wE_N, wE_1, wE_2, wE_D, wE_B, wE_If, wE_C, wE_CV, wE_SL, wE_SA, wA_0, wA_1, wC_B, wC_E, wC_And, wC_Or, wC_Not, wS_Skip, wS_Brk, wS_Cnt, wS_RetV, wS_Ret, wS_Seq, wS_Set, wS_Inc, wS_Do, wS_Put, wS_PutC, wS_Arr, wS_ArrC, wS_If, wS_Sw, wS_F0, wS_F1, wM_q, lu_ap, aL_ap, ct_0, ct_1, ct_2, ct_3, ct_4, ct_5, headD_1, List.mem_cons, List.not_mem_nil, or_false, false_or, or_true, true_or, true_and, and_true, false_and, and_false, not_true_eq_false, not_false_eq_true, if_true, if_false, nr_20, nr_24, nr_40, nr_41, nr_44, pt_lt, pt_ge, pt_eq, pt_ne, pt_gt, pt_le, pt_E, pt_N, pt_F, ite_10, ite_11, ne_eq, and_self, or_self, decide_true, decide_false, Bool.not_true, Bool.not_false, Bool.false_eq_true, Nat.reduceEqDiff, Nat.reduceAdd, Int.reduceEq, Int.reduceLT, Int.reduceLE, Int.reduceNeg, Int.reduceAdd, Int.reduceSub, Int.reduceMul, reduceCtorEq, iA, iS, iM, iD, iR, iN, lA, lS, lM, lD, lR, m0, m3, m5, hkx, wM_of hkd, c1, k1, k2, k3, k4, wM_of hf, lu_ap, ew]
                exact hh
    · have hkx : S.1 x = 6 := by
        cases N with
        | zero => exact hT.1.1.1.2.1.k
        | succ N => exact hT.2.1.1.1.2.1.k
      have hfin : ∃ N o, Tr S v T x P N u0 i0 u o ∧ LE v T x u o 0 := ⟨N, o, hT, Or.inr ⟨ho, rfl, y3, y4⟩⟩
      simp only [cX5_parse_1, wE_I, wE_V, wE_F, wE_A, wE_N, wE_1, wE_2, wE_D, wE_B, wE_If, wE_C, wE_CV, wE_SL, wE_SA, wA_0, wA_1, wC_B, wC_E, wC_And, wC_Or, wC_Not, wS_Skip, wS_Brk, wS_Cnt, wS_RetV, wS_Ret, wS_Seq, wS_Set, wS_Inc, wS_Do, wS_Put, wS_PutC, wS_Arr, wS_ArrC, wS_If, wS_Sw, wS_F0, wS_F1, wM_q, lu_ap, aL_ap, ct_0, ct_1, ct_2, ct_3, ct_4, ct_5, headD_1, List.mem_cons, List.not_mem_nil, or_false, false_or, or_true, true_or, true_and, and_true, false_and, and_false, not_true_eq_false, not_false_eq_true, if_true, if_false, nr_20, nr_24, nr_40, nr_41, nr_44, pt_lt, pt_ge, pt_eq, pt_ne, pt_gt, pt_le, pt_E, pt_N, pt_F, ite_10, ite_11, ne_eq, and_self, or_self, decide_true, decide_false, Bool.not_true, Bool.not_false, Bool.false_eq_true, Nat.reduceEqDiff, Nat.reduceAdd, Int.reduceEq, Int.reduceLT, Int.reduceLE, Int.reduceNeg, Int.reduceAdd, Int.reduceSub, Int.reduceMul, reduceCtorEq, iA, iS, iM, iD, iR, iN, lA, lS, lM, lD, lR, m0, m3, m5, hkx]
      exact ⟨⟨hk, hfp⟩, hfin⟩
end PA
