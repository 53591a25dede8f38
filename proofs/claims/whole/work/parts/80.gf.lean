/-! FITS, glued -/
section GF
variable {S : QS} {v w : QV} {b M P B s : Int}
theorem q_canPass (h : RC S v b P s) {l : Int} : mX11_canPass [b, l] S v = some (if (1 ≤ l ∧ l ≤ 1000) ∧ v s 0 + l ≤ 100000 then 1 else 0, v) := by
  have ht := h.2.2.2.2.2.2.2.2.2
  have e1 : w32 (100000 - v s 0) = 100000 - v s 0 := w32_e (by omega)
  apply wM_eq
  simp only [mX11_canPass, sX11_canPass, wE_I, wE_V, wE_F, wE_A, wE_N, wE_1, wE_2, wE_D, wE_B, wE_If, wE_C, wE_CV, wE_SL, wE_SA, wA_0, wA_1, wC_B, wC_E, wC_And, wC_Or, wC_Not, wS_Skip, wS_Brk, wS_Cnt, wS_RetV, wS_Ret, wS_Seq, wS_Set, wS_Inc, wS_Do, wS_Put, wS_PutC, wS_Arr, wS_ArrC, wS_If, wS_Sw, wS_F0, wS_F1, wM_q, lu_ap, aL_ap, ct_0, ct_1, ct_2, ct_3, ct_4, ct_5, headD_1, List.mem_cons, List.not_mem_nil, or_false, false_or, or_true, true_or, true_and, and_true, false_and, and_false, not_true_eq_false, not_false_eq_true, if_true, if_false, nr_20, nr_24, nr_40, nr_41, nr_44, pt_lt, pt_ge, pt_eq, pt_ne, pt_gt, pt_le, pt_E, pt_N, pt_F, ite_10, ite_11, ne_eq, and_self, or_self, decide_true, decide_false, Bool.not_true, Bool.not_false, Bool.false_eq_true, Nat.reduceEqDiff, Nat.reduceAdd, Int.reduceEq, Int.reduceLT, Int.reduceLE, Int.reduceNeg, Int.reduceAdd, Int.reduceSub, Int.reduceMul, reduceCtorEq, iA, iS, iM, iD, iR, iN, lA, lS, lM, lD, lR, h.1.k, wM_of (q_now h), h.st.k, e1]
  clear e1
  by_cases h1 : 1 ≤ l
  · by_cases h2 : l ≤ 1000
    · by_cases h3 : v s 0 + l ≤ 100000
      · have : l ≤ 100000 - v s 0 := by omega
        simp [h1, h2, h3, this]
      · have : ¬ l ≤ 100000 - v s 0 := by omega
        simp [h1, h2, h3, this]
    · simp [h1, h2]
  · simp [h1]
theorem m_canRead (h : RM S v M B) {l : Int} (hl : -2147483648 ≤ l ∧ l ≤ 2147483647) : mX12_canRead [M, l] S v = some (if (1 ≤ l ∧ l ≤ 1000) ∧ v (M + 1) 0 + l ≤ 100000 then 1 else 0, v) := by
  have ht := h.2.2.2.2.2.2.2.1
  have e1 : w64 (v (M + 1) 0 + l) = v (M + 1) 0 + l := w64_e (by omega)
  apply wM_eq
  simp only [mX12_canRead, sX12_canRead, wE_I, wE_V, wE_F, wE_A, wE_N, wE_1, wE_2, wE_D, wE_B, wE_If, wE_C, wE_CV, wE_SL, wE_SA, wA_0, wA_1, wC_B, wC_E, wC_And, wC_Or, wC_Not, wS_Skip, wS_Brk, wS_Cnt, wS_RetV, wS_Ret, wS_Seq, wS_Set, wS_Inc, wS_Do, wS_Put, wS_PutC, wS_Arr, wS_ArrC, wS_If, wS_Sw, wS_F0, wS_F1, wM_q, lu_ap, aL_ap, ct_0, ct_1, ct_2, ct_3, ct_4, ct_5, headD_1, List.mem_cons, List.not_mem_nil, or_false, false_or, or_true, true_or, true_and, and_true, false_and, and_false, not_true_eq_false, not_false_eq_true, if_true, if_false, nr_20, nr_24, nr_40, nr_41, nr_44, pt_lt, pt_ge, pt_eq, pt_ne, pt_gt, pt_le, pt_E, pt_N, pt_F, ite_10, ite_11, ne_eq, and_self, or_self, decide_true, decide_false, Bool.not_true, Bool.not_false, Bool.false_eq_true, Nat.reduceEqDiff, Nat.reduceAdd, Int.reduceEq, Int.reduceLT, Int.reduceLE, Int.reduceNeg, Int.reduceAdd, Int.reduceSub, Int.reduceMul, reduceCtorEq, iA, iS, iM, iD, iR, iN, lA, lS, lM, lD, lR, h.1.k, h.1.p0, h.1.a1, h.1.n1, wM_of m_isIn, e1]
  clear e1
  by_cases h1 : 1 ≤ l ∧ l ≤ 1000 <;> simp [h1]
theorem g_fits (h : RX S b v) {l m : Int} (hl : -2147483648 ≤ l ∧ l ≤ 2147483647) : EQ S b mX11_fits mX12_fits [l, m] v := by
  have hX := h
  obtain ⟨P, B, s, h⟩ := h
  have hn := h.nb
  have hC := h.1.1
  have hMo := h.1.2.1
  have hL := h.rc.pl
  have hst := h.rc.st
  have t := h.2.2.2.2.2.1
  by_cases hm : 0 ≤ m ∧ m < v P 1
  · have hm4 : m < 4 := by omega
    have hmm : 0 ≤ m ∧ m < v (b + 889 + 3) B := by rw [h.e3]; exact hm
    have hm44 : 0 ≤ m ∧ m < 4 := ⟨hm.1, hm4⟩
    by_cases hp : (1 ≤ l ∧ l ≤ 1000) ∧ v s 0 + l ≤ 100000
    · have hp' : (1 ≤ l ∧ l ≤ 1000) ∧ v (b + 889 + 1) 0 + l ≤ 100000 := by rw [← t.1.1]; exact hp
      have hok := h.rok hm hp.1
      obtain ⟨r1, r2, r3, r4, r5⟩ := h.2.2.2.2.1.2.2.2.2.1 m hm.1 hm.2
      obtain ⟨t1, t2, t3, -⟩ := t.2.2.2.1 m hm.1 hm.2
      have hokm : rOk (v (b + 889 + 1) (3 + 12 * m + 1)) (v (b + 889 + 1) (3 + 12 * m + 2)) (v (b + 889 + 8) (4 * B + m)) (v (b + 889 + 1) (3 + 12 * m + 3)) (v (b + 889 + 9) (4 * B + m)) (v (b + 889 + 10) (4 * B + m)) l := by
        rw [← t2.1, ← t2.2.1, ← t3.1, ← r1.1]
        obtain ⟨k1, k2, k3, k4, k5⟩ := hok
        refine ⟨k1, k2, k3, fun q => ?_, k5⟩
        rw [← (r2 q).1, ← (r2 q).2.1]
        exact k4 q
      have hB := h.rm.B2
      have o1 : 0 ≤ 4 * B + m ∧ 4 * B + m < 8 := by omega
      have q3 : 0 ≤ 3 + 12 * m + 3 ∧ 3 + 12 * m + 3 < 1095 := by omega
      have hcf := q_leastFit (S := S) (v := v) (hst.m _ hm.1 hm4) (hL.m _ hm.1 hm4) hok
      have a3 := m_atMeasure (S := S) (v := v) hm44 (show 0 ≤ (3 : Int) ∧ (3 : Int) < 12 by decide)
      have hown := m_own (S := S) (v := v) h.rm.2.2.1 (show 0 ≤ m ∧ m ≤ 1000 by omega)
      have hli := fun f' t' more sp a b c d => m_leastIn h.rm (m := m) (span := l) (f := f') (t := t') (more := more) (sp := sp) hm44 hokm a b c d
      have e12 : v (P + (9 + m)) 0 = 2 → v (P + (9 + m)) 1 = v (b + 889 + 9) (4 * B + m) ∧ v (P + (9 + m)) 2 = v (b + 889 + 10) (4 * B + m) := fun q => ⟨(r2 q).1, (r2 q).2.1⟩
      unfold EQ
      have hcl : ∀ r, mX3_leastFit [s + (4 + 6 * m), P + (9 + m), l] S v = some (r, v) → mX11_fits [b, l, m] S v = some (r, v) := by
        intro r hr
        apply wM_eq
        simp only [mX11_fits, sX11_fits, wE_I, wE_V, wE_F, wE_A, wE_N, wE_1, wE_2, wE_D, wE_B, wE_If, wE_C, wE_CV, wE_SL, wE_SA, wA_0, wA_1, wC_B, wC_E, wC_And, wC_Or, wC_Not, wS_Skip, wS_Brk, wS_Cnt, wS_RetV, wS_Ret, wS_Seq, wS_Set, wS_Inc, wS_Do, wS_Put, wS_PutC, wS_Arr, wS_ArrC, wS_If, wS_Sw, wS_F0, wS_F1, wM_q, lu_ap, aL_ap, ct_0, ct_1, ct_2, ct_3, ct_4, ct_5, headD_1, List.mem_cons, List.not_mem_nil, or_false, false_or, or_true, true_or, true_and, and_true, false_and, and_false, not_true_eq_false, not_false_eq_true, if_true, if_false, nr_20, nr_24, nr_40, nr_41, nr_44, pt_lt, pt_ge, pt_eq, pt_ne, pt_gt, pt_le, pt_E, pt_N, pt_F, ite_10, ite_11, ne_eq, and_self, or_self, decide_true, decide_false, Bool.not_true, Bool.not_false, Bool.false_eq_true, Nat.reduceEqDiff, Nat.reduceAdd, Int.reduceEq, Int.reduceLT, Int.reduceLE, Int.reduceNeg, Int.reduceAdd, Int.reduceSub, Int.reduceMul, reduceCtorEq, iA, iS, iM, iD, iR, iN, lA, lS, lM, lD, lR, hC.k, h.2.1.1, wM_of (q_isMeasure h.rc), wM_of (q_canPass h.rc), hm, hp, wM_of (q_now h.rc), hst.k, hst.p2, hst.a1, hst.n1, hst.em _ hm.1 hm4, hm4, hst.m _ hm.1 hm4, hL.k, hL.p3, hL.a1, hL.n1, hL.em _ hm.1 hm4, hL.m _ hm.1 hm4, wM_of hr]
      rw [wM_of (hcl _ hcf)]
      clear hcf hcl
      have fin : ∀ r r', mX12_fits [b + 889, l, m] S v = some (r', v) → r = r' → wM mX12_fits [b + 889, l, m] S v (fun r' u => r = r' ∧ RX S b u) := fun r r' q1 q2 => by
        rw [wM_of q1]
        exact ⟨q2, hX⟩
      rw [t1.1, t2.1, t2.2.1, t3.1, r1.1]
      rw [r1.1] at e12 r1
      rw [t1.1] at t1
      rw [t2.1, t2.2.1] at t2
      rw [t3.1] at t3
      have hmo := hMo
      have hrm := h.rm
      by_cases h2 : v (b + 889 + 8) (4 * B + m) = 2
      · obtain ⟨ew1, ew2⟩ := e12 h2
        rw [ew1, ew2]
        obtain ⟨k1, k2, k3, k4, k5⟩ := hokm
        have k4' := k4 h2
        have hrI : ∀ n, rI_ (v (b + 889 + 8) (4 * B + m)) (v (b + 889 + 1) (3 + 12 * m + 3)) (v (b + 889 + 9) (4 * B + m)) (v (b + 889 + 10) (4 * B + m)) l n = 1000 * wo n (v (b + 889 + 1) (3 + 12 * m + 3)) (v (b + 889 + 9) (4 * B + m)) (v (b + 889 + 10) (4 * B + m)) / l := fun n => by
          unfold rI_
          rw [h2, if_neg (by decide), if_neg (by decide)]
        have z0 : ¬ (2 : Int) = 0 := by decide
        have z1 : ¬ (2 : Int) = 1 := by decide
        have kk1 : 4 ≤ v (b + 889 + 9) (4 * B + m) ∧ v (b + 889 + 9) (4 * B + m) ≤ 20 := by omega
        have kk2 : 4 ≤ v (b + 889 + 10) (4 * B + m) ∧ v (b + 889 + 10) (4 * B + m) ≤ 20 := by omega
        have w1 := m_width (S := S) (v := v) kk1
        have w2 := m_width (S := S) (v := v) kk2
        have b1 := p2_b kk1
        have b2 := p2_b kk2
        have hlt := k4'.2.2.2
        by_cases hneg : v (b + 889 + 1) (3 + 12 * m + 3) = -1
        · have e2 : mX12_fits [b + 889, l, m] S v = some (-1, v) := by
            apply wM_eq
            simp only [mX12_fits, sX12_fits, wE_I, wE_V, wE_F, wE_A, wE_N, wE_1, wE_2, wE_D, wE_B, wE_If, wE_C, wE_CV, wE_SL, wE_SA, wA_0, wA_1, wC_B, wC_E, wC_And, wC_Or, wC_Not, wS_Skip, wS_Brk, wS_Cnt, wS_RetV, wS_Ret, wS_Seq, wS_Set, wS_Inc, wS_Do, wS_Put, wS_PutC, wS_Arr, wS_ArrC, wS_If, wS_Sw, wS_F0, wS_F1, wM_q, lu_ap, aL_ap, ct_0, ct_1, ct_2, ct_3, ct_4, ct_5, headD_1, List.mem_cons, List.not_mem_nil, or_false, false_or, or_true, true_or, true_and, and_true, false_and, and_false, not_true_eq_false, not_false_eq_true, if_true, if_false, nr_20, nr_24, nr_40, nr_41, nr_44, pt_lt, pt_ge, pt_eq, pt_ne, pt_gt, pt_le, pt_E, pt_N, pt_F, ite_10, ite_11, ne_eq, and_self, or_self, decide_true, decide_false, Bool.not_true, Bool.not_false, Bool.false_eq_true, Nat.reduceEqDiff, Nat.reduceAdd, Int.reduceEq, Int.reduceLT, Int.reduceLE, Int.reduceNeg, Int.reduceAdd, Int.reduceSub, Int.reduceMul, reduceCtorEq, iA, iS, iM, iD, iR, iN, lA, lS, lM, lD, lR, hMo.k, hMo.p0, hMo.a1, hMo.n1, hMo.p7, hMo.a8, hMo.n8, hrm.2.1, wM_of (m_canRead hrm hl), wM_of (m_isMeasure hrm), hp', hmm, wM_of hown, o1, wM_of a3, q3, h2, hneg]
          refine fin _ _ e2 ?_
          rw [h2, if_neg z0, if_neg z1, if_pos hneg]
          split <;> rfl
        · have h0 : 0 ≤ v (b + 889 + 1) (3 + 12 * m + 3) := by omega
          have h0' : ¬ v (b + 889 + 1) (3 + 12 * m + 3) < 0 := by omega
          have s1 : 0 < v (b + 889 + 1) (3 + 12 * m + 3) - p2 (v (b + 889 + 9) (4 * B + m)) → _ := fun q => hli 0 (v (b + 889 + 1) (3 + 12 * m + 3) - p2 (v (b + 889 + 9) (4 * B + m)) - 1) (p2 (v (b + 889 + 10) (4 * B + m)) - v (b + 889 + 1) (3 + 12 * m + 3)) l (by omega) k5 (fun _ => ⟨h0, by omega⟩) (fun n g0 g1 => by
            rw [hrI n]
            unfold wo
            rw [if_neg (by omega), if_neg (by omega)]
            congr 2
            omega)
          have s2 : 0 < v (b + 889 + 1) (3 + 12 * m + 3) → _ := fun q => hli (if 0 < v (b + 889 + 1) (3 + 12 * m + 3) - p2 (v (b + 889 + 9) (4 * B + m)) then v (b + 889 + 1) (3 + 12 * m + 3) - p2 (v (b + 889 + 9) (4 * B + m)) else 0) (v (b + 889 + 1) (3 + 12 * m + 3) - 1) (p2 (v (b + 889 + 9) (4 * B + m)) - v (b + 889 + 1) (3 + 12 * m + 3)) l (by split <;> omega) k5 (fun _ => ⟨h0, by omega⟩) (fun n g0 g1 => by
            rw [hrI n]
            unfold wo
            rw [if_neg (by omega), if_pos (by split at g0 <;> omega)]
            congr 2
            omega)
          have s3 := hli (v (b + 889 + 1) (3 + 12 * m + 3)) (if p2 (v (b + 889 + 10) (4 * B + m)) - 1 < 999999 then p2 (v (b + 889 + 10) (4 * B + m)) - 1 else 999999) (-(v (b + 889 + 1) (3 + 12 * m + 3))) l (by split <;> omega) k5 (fun _ => ⟨h0, by split <;> omega⟩) (fun n g0 g1 => by
            rw [hrI n]
            unfold wo
            rw [if_pos (by omega)]
            congr 2)
          have n1 : ¬ 0 < v (b + 889 + 1) (3 + 12 * m + 3) - p2 (v (b + 889 + 9) (4 * B + m)) → lw 0 (v (b + 889 + 1) (3 + 12 * m + 3) - p2 (v (b + 889 + 9) (4 * B + m)) - 1) (p2 (v (b + 889 + 10) (4 * B + m)) - v (b + 889 + 1) (3 + 12 * m + 3)) (v (b + 889 + 1) (3 + 12 * m + 1) * l) (v (b + 889 + 1) (3 + 12 * m + 2) * l) = -1 := fun q => by
            unfold lw
            rw [if_neg]
            split <;> omega
          have n2 : ¬ 0 < v (b + 889 + 1) (3 + 12 * m + 3) → lw (if 0 < v (b + 889 + 1) (3 + 12 * m + 3) - p2 (v (b + 889 + 9) (4 * B + m)) then v (b + 889 + 1) (3 + 12 * m + 3) - p2 (v (b + 889 + 9) (4 * B + m)) else 0) (v (b + 889 + 1) (3 + 12 * m + 3) - 1) (p2 (v (b + 889 + 9) (4 * B + m)) - v (b + 889 + 1) (3 + 12 * m + 3)) (v (b + 889 + 1) (3 + 12 * m + 1) * l) (v (b + 889 + 1) (3 + 12 * m + 2) * l) = -1 := fun q => by
            unfold lw
            rw [if_neg]
            split <;> split <;> omega
          have nn : ∀ a b' c d e : Int, 0 ≤ a → lw a b' c d e = -1 ∨ 0 ≤ lw a b' c d e := fun a b' c d e ha => by
            unfold lw
            generalize hN : (if a < d - c then d - c else a) = N
            have h0N : 0 ≤ N := by rw [← hN]; split <;> omega
            split
            · exact Or.inr h0N
            · exact Or.inl rfl
          have p1 := nn 0 (v (b + 889 + 1) (3 + 12 * m + 3) - p2 (v (b + 889 + 9) (4 * B + m)) - 1) (p2 (v (b + 889 + 10) (4 * B + m)) - v (b + 889 + 1) (3 + 12 * m + 3)) (v (b + 889 + 1) (3 + 12 * m + 1) * l) (v (b + 889 + 1) (3 + 12 * m + 2) * l) (by omega)
          have p3 := nn (if 0 < v (b + 889 + 1) (3 + 12 * m + 3) - p2 (v (b + 889 + 9) (4 * B + m)) then v (b + 889 + 1) (3 + 12 * m + 3) - p2 (v (b + 889 + 9) (4 * B + m)) else 0) (v (b + 889 + 1) (3 + 12 * m + 3) - 1) (p2 (v (b + 889 + 9) (4 * B + m)) - v (b + 889 + 1) (3 + 12 * m + 3)) (v (b + 889 + 1) (3 + 12 * m + 1) * l) (v (b + 889 + 1) (3 + 12 * m + 2) * l) (by split <;> omega)
          clear hli hrI nn k1 k2 k3 k4 k4'
          generalize hlas : v (b + 889 + 1) (3 + 12 * m + 3) = la at *
          generalize p2 (v (b + 889 + 9) (4 * B + m)) = W1 at *
          generalize p2 (v (b + 889 + 10) (4 * B + m)) = W2 at *
          generalize v (b + 889 + 1) (3 + 12 * m + 1) * l = lo at *
          generalize v (b + 889 + 1) (3 + 12 * m + 2) * l = hi at *
          generalize v (b + 889 + 1) (3 + 12 * m + 0) = sil at *
          generalize lw 0 (la - W1 - 1) (W2 - la) lo hi = A at *
          generalize lw (if 0 < la - W1 then la - W1 else 0) (la - 1) (W1 - la) lo hi = C at *
          generalize lw la (if W2 - 1 < 999999 then W2 - 1 else 999999) (-la) lo hi = E at *
          have eT : (if W2 - 1 < 999999 then W2 - 1 else 999999) = (if 999999 < W2 - 1 then 999999 else W2 - 1) := by split <;> split <;> omega
          rw [eT] at s3
          have i1 : w64 (la - W1) = la - W1 := w64_e (by omega)
          have i2 : w64 (la - W1 - 1) = la - W1 - 1 := by clear i1; exact w64_e (by omega)
          have i3 : w64 (la - 1) = la - 1 := by clear i1 i2; exact w64_e (by omega)
          have i4 : w64 (W2 - 1) = W2 - 1 := by clear i1 i2 i3; exact w64_e (by omega)
          have u0 : ¬ (0 : Int) ≤ -1 := by decide
          have u1 : (-1 : Int) < 0 := by decide
          have u2 : A ≠ -1 → ¬ A < 0 ∧ 0 ≤ A := by clear i1 i2 i3 i4; omega
          have u3 : C ≠ -1 → ¬ C < 0 ∧ 0 ≤ C := by clear i1 i2 i3 i4; omega
          have u4 : 0 < la - W1 → 0 < la := by clear i1 i2 i3 i4; omega
          by_cases qs : l ≤ sil
          · simp only [qs, if_true] at s1 s2 s3
            have fin3 : ∀ r', mX12_fits [b + 889, l, m] S v = some (r', v) → (if A = -1 then (if C = -1 then E else C) else A) = r' → _ := fun r' q1 q2 => fin (if l ≤ sil then (if v (b + 889 + 8) (4 * B + m) = 0 then v (b + 889 + 1) (3 + 12 * m + 1) else if v (b + 889 + 8) (4 * B + m) = 1 then (if lo ≤ 999999 then lo else -1) else if la = -1 then -1 else (if A = -1 then (if C = -1 then E else C) else A)) else -1) r' q1 (by rw [if_pos qs, h2, if_neg z0, if_neg z1, if_neg hneg]; exact q2)
            clear fin
            by_cases q4 : 999999 < W2 - 1
            · simp only [q4, if_true, if_false] at s3
              by_cases q1 : 0 < la - W1
              · have t1 := s1 q1
                have q2 := u4 q1
                have t2 := s2 q2
                simp only [q1, if_true] at t2
                by_cases qa : A = -1
                · subst qa
                  by_cases qc : C = -1
                  · subst qc
                    refine fin3 E (by
                      apply wM_eq
                      simp only [mX12_fits, sX12_fits, wE_I, wE_V, wE_F, wE_A, wE_N, wE_1, wE_2, wE_D, wE_B, wE_If, wE_C, wE_CV, wE_SL, wE_SA, wA_0, wA_1, wC_B, wC_E, wC_And, wC_Or, wC_Not, wS_Skip, wS_Brk, wS_Cnt, wS_RetV, wS_Ret, wS_Seq, wS_Set, wS_Inc, wS_Do, wS_Put, wS_PutC, wS_Arr, wS_ArrC, wS_If, wS_Sw, wS_F0, wS_F1, wM_q, lu_ap, aL_ap, ct_0, ct_1, ct_2, ct_3, ct_4, ct_5, headD_1, List.mem_cons, List.not_mem_nil, or_false, false_or, or_true, true_or, true_and, and_true, false_and, and_false, not_true_eq_false, not_false_eq_true, if_true, if_false, nr_20, nr_24, nr_40, nr_41, nr_44, pt_lt, pt_ge, pt_eq, pt_ne, pt_gt, pt_le, pt_E, pt_N, pt_F, ite_10, ite_11, ne_eq, and_self, or_self, decide_true, decide_false, Bool.not_true, Bool.not_false, Bool.false_eq_true, Nat.reduceEqDiff, Nat.reduceAdd, Int.reduceEq, Int.reduceLT, Int.reduceLE, Int.reduceNeg, Int.reduceAdd, Int.reduceSub, Int.reduceMul, reduceCtorEq, iA, iS, iM, iD, iR, iN, lA, lS, lM, lD, lR, hMo.k, hMo.p0, hMo.a1, hMo.n1, hMo.p7, hMo.a8, hMo.n8, hMo.p8, hMo.a9, hMo.n9, hMo.p9, hMo.a10, hMo.n10, hrm.2.1, wM_of (m_canRead hrm hl), wM_of (m_isMeasure hrm), hp', hmm, wM_of hown, o1, wM_of a3, q3, h2, hlas, wM_of w1, wM_of w2, h0', i1, i2, i3, i4, q1, q2, q4, wM_of t1, wM_of t2, wM_of s3, u0, u1]) ?_
                    rfl
                  · have qc2 := u3 qc
                    refine fin3 C (by
                      apply wM_eq
                      simp only [mX12_fits, sX12_fits, wE_I, wE_V, wE_F, wE_A, wE_N, wE_1, wE_2, wE_D, wE_B, wE_If, wE_C, wE_CV, wE_SL, wE_SA, wA_0, wA_1, wC_B, wC_E, wC_And, wC_Or, wC_Not, wS_Skip, wS_Brk, wS_Cnt, wS_RetV, wS_Ret, wS_Seq, wS_Set, wS_Inc, wS_Do, wS_Put, wS_PutC, wS_Arr, wS_ArrC, wS_If, wS_Sw, wS_F0, wS_F1, wM_q, lu_ap, aL_ap, ct_0, ct_1, ct_2, ct_3, ct_4, ct_5, headD_1, List.mem_cons, List.not_mem_nil, or_false, false_or, or_true, true_or, true_and, and_true, false_and, and_false, not_true_eq_false, not_false_eq_true, if_true, if_false, nr_20, nr_24, nr_40, nr_41, nr_44, pt_lt, pt_ge, pt_eq, pt_ne, pt_gt, pt_le, pt_E, pt_N, pt_F, ite_10, ite_11, ne_eq, and_self, or_self, decide_true, decide_false, Bool.not_true, Bool.not_false, Bool.false_eq_true, Nat.reduceEqDiff, Nat.reduceAdd, Int.reduceEq, Int.reduceLT, Int.reduceLE, Int.reduceNeg, Int.reduceAdd, Int.reduceSub, Int.reduceMul, reduceCtorEq, iA, iS, iM, iD, iR, iN, lA, lS, lM, lD, lR, hMo.k, hMo.p0, hMo.a1, hMo.n1, hMo.p7, hMo.a8, hMo.n8, hMo.p8, hMo.a9, hMo.n9, hMo.p9, hMo.a10, hMo.n10, hrm.2.1, wM_of (m_canRead hrm hl), wM_of (m_isMeasure hrm), hp', hmm, wM_of hown, o1, wM_of a3, q3, h2, hlas, wM_of w1, wM_of w2, h0', i1, i2, i3, i4, q1, q2, q4, wM_of t1, wM_of t2, u0, u1, qc2]) ?_
                    rw [if_pos rfl, if_neg qc]
                · have qa2 := u2 qa
                  refine fin3 A (by
                    apply wM_eq
                    simp only [mX12_fits, sX12_fits, wE_I, wE_V, wE_F, wE_A, wE_N, wE_1, wE_2, wE_D, wE_B, wE_If, wE_C, wE_CV, wE_SL, wE_SA, wA_0, wA_1, wC_B, wC_E, wC_And, wC_Or, wC_Not, wS_Skip, wS_Brk, wS_Cnt, wS_RetV, wS_Ret, wS_Seq, wS_Set, wS_Inc, wS_Do, wS_Put, wS_PutC, wS_Arr, wS_ArrC, wS_If, wS_Sw, wS_F0, wS_F1, wM_q, lu_ap, aL_ap, ct_0, ct_1, ct_2, ct_3, ct_4, ct_5, headD_1, List.mem_cons, List.not_mem_nil, or_false, false_or, or_true, true_or, true_and, and_true, false_and, and_false, not_true_eq_false, not_false_eq_true, if_true, if_false, nr_20, nr_24, nr_40, nr_41, nr_44, pt_lt, pt_ge, pt_eq, pt_ne, pt_gt, pt_le, pt_E, pt_N, pt_F, ite_10, ite_11, ne_eq, and_self, or_self, decide_true, decide_false, Bool.not_true, Bool.not_false, Bool.false_eq_true, Nat.reduceEqDiff, Nat.reduceAdd, Int.reduceEq, Int.reduceLT, Int.reduceLE, Int.reduceNeg, Int.reduceAdd, Int.reduceSub, Int.reduceMul, reduceCtorEq, iA, iS, iM, iD, iR, iN, lA, lS, lM, lD, lR, hMo.k, hMo.p0, hMo.a1, hMo.n1, hMo.p7, hMo.a8, hMo.n8, hMo.p8, hMo.a9, hMo.n9, hMo.p9, hMo.a10, hMo.n10, hrm.2.1, wM_of (m_canRead hrm hl), wM_of (m_isMeasure hrm), hp', hmm, wM_of hown, o1, wM_of a3, q3, h2, hlas, wM_of w1, wM_of w2, h0', i1, i2, i3, i4, q1, q2, q4, wM_of t1, qa2]) ?_
                  rw [if_neg qa]
              · have qa := n1 q1
                subst qa
                by_cases q2 : 0 < la
                · have t2 := s2 q2
                  simp only [q1, if_false] at t2
                  by_cases qc : C = -1
                  · subst qc
                    refine fin3 E (by
                      apply wM_eq
                      simp only [mX12_fits, sX12_fits, wE_I, wE_V, wE_F, wE_A, wE_N, wE_1, wE_2, wE_D, wE_B, wE_If, wE_C, wE_CV, wE_SL, wE_SA, wA_0, wA_1, wC_B, wC_E, wC_And, wC_Or, wC_Not, wS_Skip, wS_Brk, wS_Cnt, wS_RetV, wS_Ret, wS_Seq, wS_Set, wS_Inc, wS_Do, wS_Put, wS_PutC, wS_Arr, wS_ArrC, wS_If, wS_Sw, wS_F0, wS_F1, wM_q, lu_ap, aL_ap, ct_0, ct_1, ct_2, ct_3, ct_4, ct_5, headD_1, List.mem_cons, List.not_mem_nil, or_false, false_or, or_true, true_or, true_and, and_true, false_and, and_false, not_true_eq_false, not_false_eq_true, if_true, if_false, nr_20, nr_24, nr_40, nr_41, nr_44, pt_lt, pt_ge, pt_eq, pt_ne, pt_gt, pt_le, pt_E, pt_N, pt_F, ite_10, ite_11, ne_eq, and_self, or_self, decide_true, decide_false, Bool.not_true, Bool.not_false, Bool.false_eq_true, Nat.reduceEqDiff, Nat.reduceAdd, Int.reduceEq, Int.reduceLT, Int.reduceLE, Int.reduceNeg, Int.reduceAdd, Int.reduceSub, Int.reduceMul, reduceCtorEq, iA, iS, iM, iD, iR, iN, lA, lS, lM, lD, lR, hMo.k, hMo.p0, hMo.a1, hMo.n1, hMo.p7, hMo.a8, hMo.n8, hMo.p8, hMo.a9, hMo.n9, hMo.p9, hMo.a10, hMo.n10, hrm.2.1, wM_of (m_canRead hrm hl), wM_of (m_isMeasure hrm), hp', hmm, wM_of hown, o1, wM_of a3, q3, h2, hlas, wM_of w1, wM_of w2, h0', i1, i2, i3, i4, q1, q2, q4, wM_of t2, wM_of s3, u0, u1]) ?_
                    rfl
                  · have qc2 := u3 qc
                    refine fin3 C (by
                      apply wM_eq
                      simp only [mX12_fits, sX12_fits, wE_I, wE_V, wE_F, wE_A, wE_N, wE_1, wE_2, wE_D, wE_B, wE_If, wE_C, wE_CV, wE_SL, wE_SA, wA_0, wA_1, wC_B, wC_E, wC_And, wC_Or, wC_Not, wS_Skip, wS_Brk, wS_Cnt, wS_RetV, wS_Ret, wS_Seq, wS_Set, wS_Inc, wS_Do, wS_Put, wS_PutC, wS_Arr, wS_ArrC, wS_If, wS_Sw, wS_F0, wS_F1, wM_q, lu_ap, aL_ap, ct_0, ct_1, ct_2, ct_3, ct_4, ct_5, headD_1, List.mem_cons, List.not_mem_nil, or_false, false_or, or_true, true_or, true_and, and_true, false_and, and_false, not_true_eq_false, not_false_eq_true, if_true, if_false, nr_20, nr_24, nr_40, nr_41, nr_44, pt_lt, pt_ge, pt_eq, pt_ne, pt_gt, pt_le, pt_E, pt_N, pt_F, ite_10, ite_11, ne_eq, and_self, or_self, decide_true, decide_false, Bool.not_true, Bool.not_false, Bool.false_eq_true, Nat.reduceEqDiff, Nat.reduceAdd, Int.reduceEq, Int.reduceLT, Int.reduceLE, Int.reduceNeg, Int.reduceAdd, Int.reduceSub, Int.reduceMul, reduceCtorEq, iA, iS, iM, iD, iR, iN, lA, lS, lM, lD, lR, hMo.k, hMo.p0, hMo.a1, hMo.n1, hMo.p7, hMo.a8, hMo.n8, hMo.p8, hMo.a9, hMo.n9, hMo.p9, hMo.a10, hMo.n10, hrm.2.1, wM_of (m_canRead hrm hl), wM_of (m_isMeasure hrm), hp', hmm, wM_of hown, o1, wM_of a3, q3, h2, hlas, wM_of w1, wM_of w2, h0', i1, i2, i3, i4, q1, q2, q4, wM_of t2, u0, u1, qc2]) ?_
                    rw [if_pos rfl, if_neg qc]
                · have qc := n2 q2
                  subst qc
                  refine fin3 E (by
                    apply wM_eq
                    simp only [mX12_fits, sX12_fits, wE_I, wE_V, wE_F, wE_A, wE_N, wE_1, wE_2, wE_D, wE_B, wE_If, wE_C, wE_CV, wE_SL, wE_SA, wA_0, wA_1, wC_B, wC_E, wC_And, wC_Or, wC_Not, wS_Skip, wS_Brk, wS_Cnt, wS_RetV, wS_Ret, wS_Seq, wS_Set, wS_Inc, wS_Do, wS_Put, wS_PutC, wS_Arr, wS_ArrC, wS_If, wS_Sw, wS_F0, wS_F1, wM_q, lu_ap, aL_ap, ct_0, ct_1, ct_2, ct_3, ct_4, ct_5, headD_1, List.mem_cons, List.not_mem_nil, or_false, false_or, or_true, true_or, true_and, and_true, false_and, and_false, not_true_eq_false, not_false_eq_true, if_true, if_false, nr_20, nr_24, nr_40, nr_41, nr_44, pt_lt, pt_ge, pt_eq, pt_ne, pt_gt, pt_le, pt_E, pt_N, pt_F, ite_10, ite_11, ne_eq, and_self, or_self, decide_true, decide_false, Bool.not_true, Bool.not_false, Bool.false_eq_true, Nat.reduceEqDiff, Nat.reduceAdd, Int.reduceEq, Int.reduceLT, Int.reduceLE, Int.reduceNeg, Int.reduceAdd, Int.reduceSub, Int.reduceMul, reduceCtorEq, iA, iS, iM, iD, iR, iN, lA, lS, lM, lD, lR, hMo.k, hMo.p0, hMo.a1, hMo.n1, hMo.p7, hMo.a8, hMo.n8, hMo.p8, hMo.a9, hMo.n9, hMo.p9, hMo.a10, hMo.n10, hrm.2.1, wM_of (m_canRead hrm hl), wM_of (m_isMeasure hrm), hp', hmm, wM_of hown, o1, wM_of a3, q3, h2, hlas, wM_of w1, wM_of w2, h0', i1, i2, i3, i4, q1, q2, q4, wM_of s3, u0, u1]) ?_
                  rfl
            · simp only [q4, if_true, if_false] at s3
              by_cases q1 : 0 < la - W1
              · have t1 := s1 q1
                have q2 := u4 q1
                have t2 := s2 q2
                simp only [q1, if_true] at t2
                by_cases qa : A = -1
                · subst qa
                  by_cases qc : C = -1
                  · subst qc
                    refine fin3 E (by
                      apply wM_eq
                      simp only [mX12_fits, sX12_fits, wE_I, wE_V, wE_F, wE_A, wE_N, wE_1, wE_2, wE_D, wE_B, wE_If, wE_C, wE_CV, wE_SL, wE_SA, wA_0, wA_1, wC_B, wC_E, wC_And, wC_Or, wC_Not, wS_Skip, wS_Brk, wS_Cnt, wS_RetV, wS_Ret, wS_Seq, wS_Set, wS_Inc, wS_Do, wS_Put, wS_PutC, wS_Arr, wS_ArrC, wS_If, wS_Sw, wS_F0, wS_F1, wM_q, lu_ap, aL_ap, ct_0, ct_1, ct_2, ct_3, ct_4, ct_5, headD_1, List.mem_cons, List.not_mem_nil, or_false, false_or, or_true, true_or, true_and, and_true, false_and, and_false, not_true_eq_false, not_false_eq_true, if_true, if_false, nr_20, nr_24, nr_40, nr_41, nr_44, pt_lt, pt_ge, pt_eq, pt_ne, pt_gt, pt_le, pt_E, pt_N, pt_F, ite_10, ite_11, ne_eq, and_self, or_self, decide_true, decide_false, Bool.not_true, Bool.not_false, Bool.false_eq_true, Nat.reduceEqDiff, Nat.reduceAdd, Int.reduceEq, Int.reduceLT, Int.reduceLE, Int.reduceNeg, Int.reduceAdd, Int.reduceSub, Int.reduceMul, reduceCtorEq, iA, iS, iM, iD, iR, iN, lA, lS, lM, lD, lR, hMo.k, hMo.p0, hMo.a1, hMo.n1, hMo.p7, hMo.a8, hMo.n8, hMo.p8, hMo.a9, hMo.n9, hMo.p9, hMo.a10, hMo.n10, hrm.2.1, wM_of (m_canRead hrm hl), wM_of (m_isMeasure hrm), hp', hmm, wM_of hown, o1, wM_of a3, q3, h2, hlas, wM_of w1, wM_of w2, h0', i1, i2, i3, i4, q1, q2, q4, wM_of t1, wM_of t2, wM_of s3, u0, u1]) ?_
                    rfl
                  · have qc2 := u3 qc
                    refine fin3 C (by
                      apply wM_eq
                      simp only [mX12_fits, sX12_fits, wE_I, wE_V, wE_F, wE_A, wE_N, wE_1, wE_2, wE_D, wE_B, wE_If, wE_C, wE_CV, wE_SL, wE_SA, wA_0, wA_1, wC_B, wC_E, wC_And, wC_Or, wC_Not, wS_Skip, wS_Brk, wS_Cnt, wS_RetV, wS_Ret, wS_Seq, wS_Set, wS_Inc, wS_Do, wS_Put, wS_PutC, wS_Arr, wS_ArrC, wS_If, wS_Sw, wS_F0, wS_F1, wM_q, lu_ap, aL_ap, ct_0, ct_1, ct_2, ct_3, ct_4, ct_5, headD_1, List.mem_cons, List.not_mem_nil, or_false, false_or, or_true, true_or, true_and, and_true, false_and, and_false, not_true_eq_false, not_false_eq_true, if_true, if_false, nr_20, nr_24, nr_40, nr_41, nr_44, pt_lt, pt_ge, pt_eq, pt_ne, pt_gt, pt_le, pt_E, pt_N, pt_F, ite_10, ite_11, ne_eq, and_self, or_self, decide_true, decide_false, Bool.not_true, Bool.not_false, Bool.false_eq_true, Nat.reduceEqDiff, Nat.reduceAdd, Int.reduceEq, Int.reduceLT, Int.reduceLE, Int.reduceNeg, Int.reduceAdd, Int.reduceSub, Int.reduceMul, reduceCtorEq, iA, iS, iM, iD, iR, iN, lA, lS, lM, lD, lR, hMo.k, hMo.p0, hMo.a1, hMo.n1, hMo.p7, hMo.a8, hMo.n8, hMo.p8, hMo.a9, hMo.n9, hMo.p9, hMo.a10, hMo.n10, hrm.2.1, wM_of (m_canRead hrm hl), wM_of (m_isMeasure hrm), hp', hmm, wM_of hown, o1, wM_of a3, q3, h2, hlas, wM_of w1, wM_of w2, h0', i1, i2, i3, i4, q1, q2, q4, wM_of t1, wM_of t2, u0, u1, qc2]) ?_
                    rw [if_pos rfl, if_neg qc]
                · have qa2 := u2 qa
                  refine fin3 A (by
                    apply wM_eq
                    simp only [mX12_fits, sX12_fits, wE_I, wE_V, wE_F, wE_A, wE_N, wE_1, wE_2, wE_D, wE_B, wE_If, wE_C, wE_CV, wE_SL, wE_SA, wA_0, wA_1, wC_B, wC_E, wC_And, wC_Or, wC_Not, wS_Skip, wS_Brk, wS_Cnt, wS_RetV, wS_Ret, wS_Seq, wS_Set, wS_Inc, wS_Do, wS_Put, wS_PutC, wS_Arr, wS_ArrC, wS_If, wS_Sw, wS_F0, wS_F1, wM_q, lu_ap, aL_ap, ct_0, ct_1, ct_2, ct_3, ct_4, ct_5, headD_1, List.mem_cons, List.not_mem_nil, or_false, false_or, or_true, true_or, true_and, and_true, false_and, and_false, not_true_eq_false, not_false_eq_true, if_true, if_false, nr_20, nr_24, nr_40, nr_41, nr_44, pt_lt, pt_ge, pt_eq, pt_ne, pt_gt, pt_le, pt_E, pt_N, pt_F, ite_10, ite_11, ne_eq, and_self, or_self, decide_true, decide_false, Bool.not_true, Bool.not_false, Bool.false_eq_true, Nat.reduceEqDiff, Nat.reduceAdd, Int.reduceEq, Int.reduceLT, Int.reduceLE, Int.reduceNeg, Int.reduceAdd, Int.reduceSub, Int.reduceMul, reduceCtorEq, iA, iS, iM, iD, iR, iN, lA, lS, lM, lD, lR, hMo.k, hMo.p0, hMo.a1, hMo.n1, hMo.p7, hMo.a8, hMo.n8, hMo.p8, hMo.a9, hMo.n9, hMo.p9, hMo.a10, hMo.n10, hrm.2.1, wM_of (m_canRead hrm hl), wM_of (m_isMeasure hrm), hp', hmm, wM_of hown, o1, wM_of a3, q3, h2, hlas, wM_of w1, wM_of w2, h0', i1, i2, i3, i4, q1, q2, q4, wM_of t1, qa2]) ?_
                  rw [if_neg qa]
              · have qa := n1 q1
                subst qa
                by_cases q2 : 0 < la
                · have t2 := s2 q2
                  simp only [q1, if_false] at t2
                  by_cases qc : C = -1
                  · subst qc
                    refine fin3 E (by
                      apply wM_eq
                      simp only [mX12_fits, sX12_fits, wE_I, wE_V, wE_F, wE_A, wE_N, wE_1, wE_2, wE_D, wE_B, wE_If, wE_C, wE_CV, wE_SL, wE_SA, wA_0, wA_1, wC_B, wC_E, wC_And, wC_Or, wC_Not, wS_Skip, wS_Brk, wS_Cnt, wS_RetV, wS_Ret, wS_Seq, wS_Set, wS_Inc, wS_Do, wS_Put, wS_PutC, wS_Arr, wS_ArrC, wS_If, wS_Sw, wS_F0, wS_F1, wM_q, lu_ap, aL_ap, ct_0, ct_1, ct_2, ct_3, ct_4, ct_5, headD_1, List.mem_cons, List.not_mem_nil, or_false, false_or, or_true, true_or, true_and, and_true, false_and, and_false, not_true_eq_false, not_false_eq_true, if_true, if_false, nr_20, nr_24, nr_40, nr_41, nr_44, pt_lt, pt_ge, pt_eq, pt_ne, pt_gt, pt_le, pt_E, pt_N, pt_F, ite_10, ite_11, ne_eq, and_self, or_self, decide_true, decide_false, Bool.not_true, Bool.not_false, Bool.false_eq_true, Nat.reduceEqDiff, Nat.reduceAdd, Int.reduceEq, Int.reduceLT, Int.reduceLE, Int.reduceNeg, Int.reduceAdd, Int.reduceSub, Int.reduceMul, reduceCtorEq, iA, iS, iM, iD, iR, iN, lA, lS, lM, lD, lR, hMo.k, hMo.p0, hMo.a1, hMo.n1, hMo.p7, hMo.a8, hMo.n8, hMo.p8, hMo.a9, hMo.n9, hMo.p9, hMo.a10, hMo.n10, hrm.2.1, wM_of (m_canRead hrm hl), wM_of (m_isMeasure hrm), hp', hmm, wM_of hown, o1, wM_of a3, q3, h2, hlas, wM_of w1, wM_of w2, h0', i1, i2, i3, i4, q1, q2, q4, wM_of t2, wM_of s3, u0, u1]) ?_
                    rfl
                  · have qc2 := u3 qc
                    refine fin3 C (by
                      apply wM_eq
                      simp only [mX12_fits, sX12_fits, wE_I, wE_V, wE_F, wE_A, wE_N, wE_1, wE_2, wE_D, wE_B, wE_If, wE_C, wE_CV, wE_SL, wE_SA, wA_0, wA_1, wC_B, wC_E, wC_And, wC_Or, wC_Not, wS_Skip, wS_Brk, wS_Cnt, wS_RetV, wS_Ret, wS_Seq, wS_Set, wS_Inc, wS_Do, wS_Put, wS_PutC, wS_Arr, wS_ArrC, wS_If, wS_Sw, wS_F0, wS_F1, wM_q, lu_ap, aL_ap, ct_0, ct_1, ct_2, ct_3, ct_4, ct_5, headD_1, List.mem_cons, List.not_mem_nil, or_false, false_or, or_true, true_or, true_and, and_true, false_and, and_false, not_true_eq_false, not_false_eq_true, if_true, if_false, nr_20, nr_24, nr_40, nr_41, nr_44, pt_lt, pt_ge, pt_eq, pt_ne, pt_gt, pt_le, pt_E, pt_N, pt_F, ite_10, ite_11, ne_eq, and_self, or_self, decide_true, decide_false, Bool.not_true, Bool.not_false, Bool.false_eq_true, Nat.reduceEqDiff, Nat.reduceAdd, Int.reduceEq, Int.reduceLT, Int.reduceLE, Int.reduceNeg, Int.reduceAdd, Int.reduceSub, Int.reduceMul, reduceCtorEq, iA, iS, iM, iD, iR, iN, lA, lS, lM, lD, lR, hMo.k, hMo.p0, hMo.a1, hMo.n1, hMo.p7, hMo.a8, hMo.n8, hMo.p8, hMo.a9, hMo.n9, hMo.p9, hMo.a10, hMo.n10, hrm.2.1, wM_of (m_canRead hrm hl), wM_of (m_isMeasure hrm), hp', hmm, wM_of hown, o1, wM_of a3, q3, h2, hlas, wM_of w1, wM_of w2, h0', i1, i2, i3, i4, q1, q2, q4, wM_of t2, u0, u1, qc2]) ?_
                    rw [if_pos rfl, if_neg qc]
                · have qc := n2 q2
                  subst qc
                  refine fin3 E (by
                    apply wM_eq
                    simp only [mX12_fits, sX12_fits, wE_I, wE_V, wE_F, wE_A, wE_N, wE_1, wE_2, wE_D, wE_B, wE_If, wE_C, wE_CV, wE_SL, wE_SA, wA_0, wA_1, wC_B, wC_E, wC_And, wC_Or, wC_Not, wS_Skip, wS_Brk, wS_Cnt, wS_RetV, wS_Ret, wS_Seq, wS_Set, wS_Inc, wS_Do, wS_Put, wS_PutC, wS_Arr, wS_ArrC, wS_If, wS_Sw, wS_F0, wS_F1, wM_q, lu_ap, aL_ap, ct_0, ct_1, ct_2, ct_3, ct_4, ct_5, headD_1, List.mem_cons, List.not_mem_nil, or_false, false_or, or_true, true_or, true_and, and_true, false_and, and_false, not_true_eq_false, not_false_eq_true, if_true, if_false, nr_20, nr_24, nr_40, nr_41, nr_44, pt_lt, pt_ge, pt_eq, pt_ne, pt_gt, pt_le, pt_E, pt_N, pt_F, ite_10, ite_11, ne_eq, and_self, or_self, decide_true, decide_false, Bool.not_true, Bool.not_false, Bool.false_eq_true, Nat.reduceEqDiff, Nat.reduceAdd, Int.reduceEq, Int.reduceLT, Int.reduceLE, Int.reduceNeg, Int.reduceAdd, Int.reduceSub, Int.reduceMul, reduceCtorEq, iA, iS, iM, iD, iR, iN, lA, lS, lM, lD, lR, hMo.k, hMo.p0, hMo.a1, hMo.n1, hMo.p7, hMo.a8, hMo.n8, hMo.p8, hMo.a9, hMo.n9, hMo.p9, hMo.a10, hMo.n10, hrm.2.1, wM_of (m_canRead hrm hl), wM_of (m_isMeasure hrm), hp', hmm, wM_of hown, o1, wM_of a3, q3, h2, hlas, wM_of w1, wM_of w2, h0', i1, i2, i3, i4, q1, q2, q4, wM_of s3, u0, u1]) ?_
                  rfl
          · simp only [qs, if_false] at s1 s2 s3
            have fin3 : mX12_fits [b + 889, l, m] S v = some (-1, v) → _ := fun q1 => fin (if l ≤ sil then (if v (b + 889 + 8) (4 * B + m) = 0 then v (b + 889 + 1) (3 + 12 * m + 1) else if v (b + 889 + 8) (4 * B + m) = 1 then (if lo ≤ 999999 then lo else -1) else if la = -1 then -1 else (if A = -1 then (if C = -1 then E else C) else A)) else -1) (-1) q1 (by rw [if_neg qs])
            clear fin
            by_cases q4 : 999999 < W2 - 1
            · simp only [q4, if_true, if_false] at s3
              by_cases q1 : 0 < la - W1
              · have t1 := s1 q1
                have q2 := u4 q1
                have t2 := s2 q2
                simp only [q1, if_true] at t2
                refine fin3 (by
                  apply wM_eq
                  simp only [mX12_fits, sX12_fits, wE_I, wE_V, wE_F, wE_A, wE_N, wE_1, wE_2, wE_D, wE_B, wE_If, wE_C, wE_CV, wE_SL, wE_SA, wA_0, wA_1, wC_B, wC_E, wC_And, wC_Or, wC_Not, wS_Skip, wS_Brk, wS_Cnt, wS_RetV, wS_Ret, wS_Seq, wS_Set, wS_Inc, wS_Do, wS_Put, wS_PutC, wS_Arr, wS_ArrC, wS_If, wS_Sw, wS_F0, wS_F1, wM_q, lu_ap, aL_ap, ct_0, ct_1, ct_2, ct_3, ct_4, ct_5, headD_1, List.mem_cons, List.not_mem_nil, or_false, false_or, or_true, true_or, true_and, and_true, false_and, and_false, not_true_eq_false, not_false_eq_true, if_true, if_false, nr_20, nr_24, nr_40, nr_41, nr_44, pt_lt, pt_ge, pt_eq, pt_ne, pt_gt, pt_le, pt_E, pt_N, pt_F, ite_10, ite_11, ne_eq, and_self, or_self, decide_true, decide_false, Bool.not_true, Bool.not_false, Bool.false_eq_true, Nat.reduceEqDiff, Nat.reduceAdd, Int.reduceEq, Int.reduceLT, Int.reduceLE, Int.reduceNeg, Int.reduceAdd, Int.reduceSub, Int.reduceMul, reduceCtorEq, iA, iS, iM, iD, iR, iN, lA, lS, lM, lD, lR, hMo.k, hMo.p0, hMo.a1, hMo.n1, hMo.p7, hMo.a8, hMo.n8, hMo.p8, hMo.a9, hMo.n9, hMo.p9, hMo.a10, hMo.n10, hrm.2.1, wM_of (m_canRead hrm hl), wM_of (m_isMeasure hrm), hp', hmm, wM_of hown, o1, wM_of a3, q3, h2, hlas, wM_of w1, wM_of w2, h0', i1, i2, i3, i4, q1, q2, q4, wM_of t1, wM_of t2, wM_of s3, u0, u1])
              · by_cases q2 : 0 < la
                · have t2 := s2 q2
                  simp only [q1, if_false] at t2
                  refine fin3 (by
                    apply wM_eq
                    simp only [mX12_fits, sX12_fits, wE_I, wE_V, wE_F, wE_A, wE_N, wE_1, wE_2, wE_D, wE_B, wE_If, wE_C, wE_CV, wE_SL, wE_SA, wA_0, wA_1, wC_B, wC_E, wC_And, wC_Or, wC_Not, wS_Skip, wS_Brk, wS_Cnt, wS_RetV, wS_Ret, wS_Seq, wS_Set, wS_Inc, wS_Do, wS_Put, wS_PutC, wS_Arr, wS_ArrC, wS_If, wS_Sw, wS_F0, wS_F1, wM_q, lu_ap, aL_ap, ct_0, ct_1, ct_2, ct_3, ct_4, ct_5, headD_1, List.mem_cons, List.not_mem_nil, or_false, false_or, or_true, true_or, true_and, and_true, false_and, and_false, not_true_eq_false, not_false_eq_true, if_true, if_false, nr_20, nr_24, nr_40, nr_41, nr_44, pt_lt, pt_ge, pt_eq, pt_ne, pt_gt, pt_le, pt_E, pt_N, pt_F, ite_10, ite_11, ne_eq, and_self, or_self, decide_true, decide_false, Bool.not_true, Bool.not_false, Bool.false_eq_true, Nat.reduceEqDiff, Nat.reduceAdd, Int.reduceEq, Int.reduceLT, Int.reduceLE, Int.reduceNeg, Int.reduceAdd, Int.reduceSub, Int.reduceMul, reduceCtorEq, iA, iS, iM, iD, iR, iN, lA, lS, lM, lD, lR, hMo.k, hMo.p0, hMo.a1, hMo.n1, hMo.p7, hMo.a8, hMo.n8, hMo.p8, hMo.a9, hMo.n9, hMo.p9, hMo.a10, hMo.n10, hrm.2.1, wM_of (m_canRead hrm hl), wM_of (m_isMeasure hrm), hp', hmm, wM_of hown, o1, wM_of a3, q3, h2, hlas, wM_of w1, wM_of w2, h0', i1, i2, i3, i4, q1, q2, q4, wM_of t2, wM_of s3, u0, u1])
                · refine fin3 (by
                    apply wM_eq
                    simp only [mX12_fits, sX12_fits, wE_I, wE_V, wE_F, wE_A, wE_N, wE_1, wE_2, wE_D, wE_B, wE_If, wE_C, wE_CV, wE_SL, wE_SA, wA_0, wA_1, wC_B, wC_E, wC_And, wC_Or, wC_Not, wS_Skip, wS_Brk, wS_Cnt, wS_RetV, wS_Ret, wS_Seq, wS_Set, wS_Inc, wS_Do, wS_Put, wS_PutC, wS_Arr, wS_ArrC, wS_If, wS_Sw, wS_F0, wS_F1, wM_q, lu_ap, aL_ap, ct_0, ct_1, ct_2, ct_3, ct_4, ct_5, headD_1, List.mem_cons, List.not_mem_nil, or_false, false_or, or_true, true_or, true_and, and_true, false_and, and_false, not_true_eq_false, not_false_eq_true, if_true, if_false, nr_20, nr_24, nr_40, nr_41, nr_44, pt_lt, pt_ge, pt_eq, pt_ne, pt_gt, pt_le, pt_E, pt_N, pt_F, ite_10, ite_11, ne_eq, and_self, or_self, decide_true, decide_false, Bool.not_true, Bool.not_false, Bool.false_eq_true, Nat.reduceEqDiff, Nat.reduceAdd, Int.reduceEq, Int.reduceLT, Int.reduceLE, Int.reduceNeg, Int.reduceAdd, Int.reduceSub, Int.reduceMul, reduceCtorEq, iA, iS, iM, iD, iR, iN, lA, lS, lM, lD, lR, hMo.k, hMo.p0, hMo.a1, hMo.n1, hMo.p7, hMo.a8, hMo.n8, hMo.p8, hMo.a9, hMo.n9, hMo.p9, hMo.a10, hMo.n10, hrm.2.1, wM_of (m_canRead hrm hl), wM_of (m_isMeasure hrm), hp', hmm, wM_of hown, o1, wM_of a3, q3, h2, hlas, wM_of w1, wM_of w2, h0', i1, i2, i3, i4, q1, q2, q4, wM_of s3, u0, u1])
            · simp only [q4, if_true, if_false] at s3
              by_cases q1 : 0 < la - W1
              · have t1 := s1 q1
                have q2 := u4 q1
                have t2 := s2 q2
                simp only [q1, if_true] at t2
                refine fin3 (by
                  apply wM_eq
                  simp only [mX12_fits, sX12_fits, wE_I, wE_V, wE_F, wE_A, wE_N, wE_1, wE_2, wE_D, wE_B, wE_If, wE_C, wE_CV, wE_SL, wE_SA, wA_0, wA_1, wC_B, wC_E, wC_And, wC_Or, wC_Not, wS_Skip, wS_Brk, wS_Cnt, wS_RetV, wS_Ret, wS_Seq, wS_Set, wS_Inc, wS_Do, wS_Put, wS_PutC, wS_Arr, wS_ArrC, wS_If, wS_Sw, wS_F0, wS_F1, wM_q, lu_ap, aL_ap, ct_0, ct_1, ct_2, ct_3, ct_4, ct_5, headD_1, List.mem_cons, List.not_mem_nil, or_false, false_or, or_true, true_or, true_and, and_true, false_and, and_false, not_true_eq_false, not_false_eq_true, if_true, if_false, nr_20, nr_24, nr_40, nr_41, nr_44, pt_lt, pt_ge, pt_eq, pt_ne, pt_gt, pt_le, pt_E, pt_N, pt_F, ite_10, ite_11, ne_eq, and_self, or_self, decide_true, decide_false, Bool.not_true, Bool.not_false, Bool.false_eq_true, Nat.reduceEqDiff, Nat.reduceAdd, Int.reduceEq, Int.reduceLT, Int.reduceLE, Int.reduceNeg, Int.reduceAdd, Int.reduceSub, Int.reduceMul, reduceCtorEq, iA, iS, iM, iD, iR, iN, lA, lS, lM, lD, lR, hMo.k, hMo.p0, hMo.a1, hMo.n1, hMo.p7, hMo.a8, hMo.n8, hMo.p8, hMo.a9, hMo.n9, hMo.p9, hMo.a10, hMo.n10, hrm.2.1, wM_of (m_canRead hrm hl), wM_of (m_isMeasure hrm), hp', hmm, wM_of hown, o1, wM_of a3, q3, h2, hlas, wM_of w1, wM_of w2, h0', i1, i2, i3, i4, q1, q2, q4, wM_of t1, wM_of t2, wM_of s3, u0, u1])
              · by_cases q2 : 0 < la
                · have t2 := s2 q2
                  simp only [q1, if_false] at t2
                  refine fin3 (by
                    apply wM_eq
                    simp only [mX12_fits, sX12_fits, wE_I, wE_V, wE_F, wE_A, wE_N, wE_1, wE_2, wE_D, wE_B, wE_If, wE_C, wE_CV, wE_SL, wE_SA, wA_0, wA_1, wC_B, wC_E, wC_And, wC_Or, wC_Not, wS_Skip, wS_Brk, wS_Cnt, wS_RetV, wS_Ret, wS_Seq, wS_Set, wS_Inc, wS_Do, wS_Put, wS_PutC, wS_Arr, wS_ArrC, wS_If, wS_Sw, wS_F0, wS_F1, wM_q, lu_ap, aL_ap, ct_0, ct_1, ct_2, ct_3, ct_4, ct_5, headD_1, List.mem_cons, List.not_mem_nil, or_false, false_or, or_true, true_or, true_and, and_true, false_and, and_false, not_true_eq_false, not_false_eq_true, if_true, if_false, nr_20, nr_24, nr_40, nr_41, nr_44, pt_lt, pt_ge, pt_eq, pt_ne, pt_gt, pt_le, pt_E, pt_N, pt_F, ite_10, ite_11, ne_eq, and_self, or_self, decide_true, decide_false, Bool.not_true, Bool.not_false, Bool.false_eq_true, Nat.reduceEqDiff, Nat.reduceAdd, Int.reduceEq, Int.reduceLT, Int.reduceLE, Int.reduceNeg, Int.reduceAdd, Int.reduceSub, Int.reduceMul, reduceCtorEq, iA, iS, iM, iD, iR, iN, lA, lS, lM, lD, lR, hMo.k, hMo.p0, hMo.a1, hMo.n1, hMo.p7, hMo.a8, hMo.n8, hMo.p8, hMo.a9, hMo.n9, hMo.p9, hMo.a10, hMo.n10, hrm.2.1, wM_of (m_canRead hrm hl), wM_of (m_isMeasure hrm), hp', hmm, wM_of hown, o1, wM_of a3, q3, h2, hlas, wM_of w1, wM_of w2, h0', i1, i2, i3, i4, q1, q2, q4, wM_of t2, wM_of s3, u0, u1])
                · refine fin3 (by
                    apply wM_eq
                    simp only [mX12_fits, sX12_fits, wE_I, wE_V, wE_F, wE_A, wE_N, wE_1, wE_2, wE_D, wE_B, wE_If, wE_C, wE_CV, wE_SL, wE_SA, wA_0, wA_1, wC_B, wC_E, wC_And, wC_Or, wC_Not, wS_Skip, wS_Brk, wS_Cnt, wS_RetV, wS_Ret, wS_Seq, wS_Set, wS_Inc, wS_Do, wS_Put, wS_PutC, wS_Arr, wS_ArrC, wS_If, wS_Sw, wS_F0, wS_F1, wM_q, lu_ap, aL_ap, ct_0, ct_1, ct_2, ct_3, ct_4, ct_5, headD_1, List.mem_cons, List.not_mem_nil, or_false, false_or, or_true, true_or, true_and, and_true, false_and, and_false, not_true_eq_false, not_false_eq_true, if_true, if_false, nr_20, nr_24, nr_40, nr_41, nr_44, pt_lt, pt_ge, pt_eq, pt_ne, pt_gt, pt_le, pt_E, pt_N, pt_F, ite_10, ite_11, ne_eq, and_self, or_self, decide_true, decide_false, Bool.not_true, Bool.not_false, Bool.false_eq_true, Nat.reduceEqDiff, Nat.reduceAdd, Int.reduceEq, Int.reduceLT, Int.reduceLE, Int.reduceNeg, Int.reduceAdd, Int.reduceSub, Int.reduceMul, reduceCtorEq, iA, iS, iM, iD, iR, iN, lA, lS, lM, lD, lR, hMo.k, hMo.p0, hMo.a1, hMo.n1, hMo.p7, hMo.a8, hMo.n8, hMo.p8, hMo.a9, hMo.n9, hMo.p9, hMo.a10, hMo.n10, hrm.2.1, wM_of (m_canRead hrm hl), wM_of (m_isMeasure hrm), hp', hmm, wM_of hown, o1, wM_of a3, q3, h2, hlas, wM_of w1, wM_of w2, h0', i1, i2, i3, i4, q1, q2, q4, wM_of s3, u0, u1])
      · obtain ⟨k1, k2, k3, k4, k5⟩ := hokm
        have hle := Int.mul_le_mul_of_nonneg_right (k2.2.1) (show (0 : Int) ≤ l by omega)
        have hl0 : 0 ≤ v (b + 889 + 1) (3 + 12 * m + 1) * l := Int.mul_nonneg k2.1 (by omega)
        have e2 : ∀ r, mX12_leastIn [b + 889, m, l, 0, 999999] S v = some (r, v) → mX12_fits [b + 889, l, m] S v = some (r, v) := by
          intro r hr
          apply wM_eq
          simp only [mX12_fits, sX12_fits, wE_I, wE_V, wE_F, wE_A, wE_N, wE_1, wE_2, wE_D, wE_B, wE_If, wE_C, wE_CV, wE_SL, wE_SA, wA_0, wA_1, wC_B, wC_E, wC_And, wC_Or, wC_Not, wS_Skip, wS_Brk, wS_Cnt, wS_RetV, wS_Ret, wS_Seq, wS_Set, wS_Inc, wS_Do, wS_Put, wS_PutC, wS_Arr, wS_ArrC, wS_If, wS_Sw, wS_F0, wS_F1, wM_q, lu_ap, aL_ap, ct_0, ct_1, ct_2, ct_3, ct_4, ct_5, headD_1, List.mem_cons, List.not_mem_nil, or_false, false_or, or_true, true_or, true_and, and_true, false_and, and_false, not_true_eq_false, not_false_eq_true, if_true, if_false, nr_20, nr_24, nr_40, nr_41, nr_44, pt_lt, pt_ge, pt_eq, pt_ne, pt_gt, pt_le, pt_E, pt_N, pt_F, ite_10, ite_11, ne_eq, and_self, or_self, decide_true, decide_false, Bool.not_true, Bool.not_false, Bool.false_eq_true, Nat.reduceEqDiff, Nat.reduceAdd, Int.reduceEq, Int.reduceLT, Int.reduceLE, Int.reduceNeg, Int.reduceAdd, Int.reduceSub, Int.reduceMul, reduceCtorEq, iA, iS, iM, iD, iR, iN, lA, lS, lM, lD, lR, hMo.k, hMo.p0, hMo.a1, hMo.n1, hMo.p7, hMo.a8, hMo.n8, hrm.2.1, wM_of (m_canRead hrm hl), wM_of (m_isMeasure hrm), hp', hmm, wM_of hown, o1, wM_of a3, q3, h2, wM_of hr]
        by_cases h0 : v (b + 889 + 8) (4 * B + m) = 0
        · have s1 := hli 0 999999 0 1 (by decide) (by decide) (fun q => absurd q h2) (fun n _ _ => by
            unfold rI_
            rw [if_pos h0, Int.add_zero, Int.ediv_one])
          refine fin _ _ (e2 _ s1) ?_
          rw [h0]
          unfold lw
          by_cases qs : l ≤ v (b + 889 + 1) (3 + 12 * m + 0)
          · rw [if_pos qs, if_pos qs, if_pos rfl]
            simp only [Int.mul_one, Int.sub_zero, Int.add_zero]
            split <;> split <;> omega
          · rw [if_neg qs, if_neg qs]
        · have h1 : v (b + 889 + 8) (4 * B + m) = 1 := by omega
          have s1 := hli 0 999999 0 l (by decide) k5 (fun q => absurd q h2) (fun n _ _ => by
            unfold rI_
            rw [if_neg h0, if_pos h1, Int.add_zero])
          refine fin _ _ (e2 _ s1) ?_
          rw [h1]
          unfold lw
          by_cases qs : l ≤ v (b + 889 + 1) (3 + 12 * m + 0)
          · rw [if_pos qs, if_pos qs, if_neg (by decide), if_pos rfl]
            simp only [Int.sub_zero, Int.add_zero]
            generalize v (b + 889 + 1) (3 + 12 * m + 1) * l = x at *
            generalize v (b + 889 + 1) (3 + 12 * m + 2) * l = y at *
            have eN : (if 0 < x then x else 0) = x := by split <;> omega
            rw [eN]
            split <;> split <;> omega
          · rw [if_neg qs, if_neg qs]
    · have hp' : ¬ ((1 ≤ l ∧ l ≤ 1000) ∧ v (b + 889 + 1) 0 + l ≤ 100000) := by rw [← t.1.1]; exact hp
      have e1 : mX11_fits [b, l, m] S v = some (-1, v) := by
        apply wM_eq
        simp only [mX11_fits, sX11_fits, wE_I, wE_V, wE_F, wE_A, wE_N, wE_1, wE_2, wE_D, wE_B, wE_If, wE_C, wE_CV, wE_SL, wE_SA, wA_0, wA_1, wC_B, wC_E, wC_And, wC_Or, wC_Not, wS_Skip, wS_Brk, wS_Cnt, wS_RetV, wS_Ret, wS_Seq, wS_Set, wS_Inc, wS_Do, wS_Put, wS_PutC, wS_Arr, wS_ArrC, wS_If, wS_Sw, wS_F0, wS_F1, wM_q, lu_ap, aL_ap, ct_0, ct_1, ct_2, ct_3, ct_4, ct_5, headD_1, List.mem_cons, List.not_mem_nil, or_false, false_or, or_true, true_or, true_and, and_true, false_and, and_false, not_true_eq_false, not_false_eq_true, if_true, if_false, nr_20, nr_24, nr_40, nr_41, nr_44, pt_lt, pt_ge, pt_eq, pt_ne, pt_gt, pt_le, pt_E, pt_N, pt_F, ite_10, ite_11, ne_eq, and_self, or_self, decide_true, decide_false, Bool.not_true, Bool.not_false, Bool.false_eq_true, Nat.reduceEqDiff, Nat.reduceAdd, Int.reduceEq, Int.reduceLT, Int.reduceLE, Int.reduceNeg, Int.reduceAdd, Int.reduceSub, Int.reduceMul, reduceCtorEq, iA, iS, iM, iD, iR, iN, lA, lS, lM, lD, lR, hC.k, wM_of (q_isMeasure h.rc), wM_of (q_canPass h.rc), hm, hp]
      have e2 : mX12_fits [b + 889, l, m] S v = some (-1, v) := by
        apply wM_eq
        simp only [mX12_fits, sX12_fits, wE_I, wE_V, wE_F, wE_A, wE_N, wE_1, wE_2, wE_D, wE_B, wE_If, wE_C, wE_CV, wE_SL, wE_SA, wA_0, wA_1, wC_B, wC_E, wC_And, wC_Or, wC_Not, wS_Skip, wS_Brk, wS_Cnt, wS_RetV, wS_Ret, wS_Seq, wS_Set, wS_Inc, wS_Do, wS_Put, wS_PutC, wS_Arr, wS_ArrC, wS_If, wS_Sw, wS_F0, wS_F1, wM_q, lu_ap, aL_ap, ct_0, ct_1, ct_2, ct_3, ct_4, ct_5, headD_1, List.mem_cons, List.not_mem_nil, or_false, false_or, or_true, true_or, true_and, and_true, false_and, and_false, not_true_eq_false, not_false_eq_true, if_true, if_false, nr_20, nr_24, nr_40, nr_41, nr_44, pt_lt, pt_ge, pt_eq, pt_ne, pt_gt, pt_le, pt_E, pt_N, pt_F, ite_10, ite_11, ne_eq, and_self, or_self, decide_true, decide_false, Bool.not_true, Bool.not_false, Bool.false_eq_true, Nat.reduceEqDiff, Nat.reduceAdd, Int.reduceEq, Int.reduceLT, Int.reduceLE, Int.reduceNeg, Int.reduceAdd, Int.reduceSub, Int.reduceMul, reduceCtorEq, iA, iS, iM, iD, iR, iN, lA, lS, lM, lD, lR, hMo.k, wM_of (m_canRead h.rm hl), hp']
      exact EQ.pp hX e1 e2 rfl
  · have e1 : mX11_fits [b, l, m] S v = some (-1, v) := by
      apply wM_eq
      simp only [mX11_fits, sX11_fits, wE_I, wE_V, wE_F, wE_A, wE_N, wE_1, wE_2, wE_D, wE_B, wE_If, wE_C, wE_CV, wE_SL, wE_SA, wA_0, wA_1, wC_B, wC_E, wC_And, wC_Or, wC_Not, wS_Skip, wS_Brk, wS_Cnt, wS_RetV, wS_Ret, wS_Seq, wS_Set, wS_Inc, wS_Do, wS_Put, wS_PutC, wS_Arr, wS_ArrC, wS_If, wS_Sw, wS_F0, wS_F1, wM_q, lu_ap, aL_ap, ct_0, ct_1, ct_2, ct_3, ct_4, ct_5, headD_1, List.mem_cons, List.not_mem_nil, or_false, false_or, or_true, true_or, true_and, and_true, false_and, and_false, not_true_eq_false, not_false_eq_true, if_true, if_false, nr_20, nr_24, nr_40, nr_41, nr_44, pt_lt, pt_ge, pt_eq, pt_ne, pt_gt, pt_le, pt_E, pt_N, pt_F, ite_10, ite_11, ne_eq, and_self, or_self, decide_true, decide_false, Bool.not_true, Bool.not_false, Bool.false_eq_true, Nat.reduceEqDiff, Nat.reduceAdd, Int.reduceEq, Int.reduceLT, Int.reduceLE, Int.reduceNeg, Int.reduceAdd, Int.reduceSub, Int.reduceMul, reduceCtorEq, iA, iS, iM, iD, iR, iN, lA, lS, lM, lD, lR, hC.k, wM_of (q_isMeasure h.rc), hm]
    have hmm : ¬ (0 ≤ m ∧ m < v (b + 889 + 3) B) := by rw [h.e3]; exact hm
    have e2 : mX12_fits [b + 889, l, m] S v = some (-1, v) := by
      apply wM_eq
      simp only [mX12_fits, sX12_fits, wE_I, wE_V, wE_F, wE_A, wE_N, wE_1, wE_2, wE_D, wE_B, wE_If, wE_C, wE_CV, wE_SL, wE_SA, wA_0, wA_1, wC_B, wC_E, wC_And, wC_Or, wC_Not, wS_Skip, wS_Brk, wS_Cnt, wS_RetV, wS_Ret, wS_Seq, wS_Set, wS_Inc, wS_Do, wS_Put, wS_PutC, wS_Arr, wS_ArrC, wS_If, wS_Sw, wS_F0, wS_F1, wM_q, lu_ap, aL_ap, ct_0, ct_1, ct_2, ct_3, ct_4, ct_5, headD_1, List.mem_cons, List.not_mem_nil, or_false, false_or, or_true, true_or, true_and, and_true, false_and, and_false, not_true_eq_false, not_false_eq_true, if_true, if_false, nr_20, nr_24, nr_40, nr_41, nr_44, pt_lt, pt_ge, pt_eq, pt_ne, pt_gt, pt_le, pt_E, pt_N, pt_F, ite_10, ite_11, ne_eq, and_self, or_self, decide_true, decide_false, Bool.not_true, Bool.not_false, Bool.false_eq_true, Nat.reduceEqDiff, Nat.reduceAdd, Int.reduceEq, Int.reduceLT, Int.reduceLE, Int.reduceNeg, Int.reduceAdd, Int.reduceSub, Int.reduceMul, reduceCtorEq, iA, iS, iM, iD, iR, iN, lA, lS, lM, lD, lR, hMo.k, wM_of (m_canRead h.rm hl), wM_of (m_isMeasure h.rm), hmm]
      split <;> simp
    exact EQ.pp hX e1 e2 rfl
end GF
