/-! STORE: the reference's scan -/
/-- only the fields of what stands here -/
def Fsc (M : Int) (v w : QV) : Prop := ∀ a k, (a = M → k < 32 ∨ 36 < k) → w a k = v a k
theorem Fsc.tr {M : Int} {u v w : QV} (h : Fsc M u v) (h' : Fsc M v w) : Fsc M u w := fun a k hk => (h' a k hk).trans (h a k hk)
theorem Fsc.vu {M i z : Int} {v w : QV} (h : Fsc M v w) (hi : 32 ≤ i ∧ i ≤ 36) : Fsc M v (vu w M i z) := fun a k hk => by
  rw [vu_ne (by omega)]; exact h a k hk
def dvV (c : Int → Int) (p : Int) : Nat → Int
  | 0 => 0
  | n + 1 => 10 * dvV c p n + (c (p + n) - 48)
/-- the number that the reference reckons -/
def nuR (y x : Int) : Prop := (x ≤ 999999 → y = x) ∧ (999999 < x → 999999 < y ∧ y ≤ 10000000)
section MT
variable {S : QS} {v w : QV} {M : Int}
theorem LtO.keep (h : LtO v M) (hf : Fsc M v w) : LtO w M := fun k hk => by rw [hf _ _ (by omega)]; exact h k hk
theorem m_scanWord (h : LMo S v M) (hl : LtO v M) {p n : Int} (hn : v M 31 = n) (hn2 : n ≤ 1000) (hp : 0 ≤ p ∧ p < n) (h33 : v M 33 = p) (hle : isLe (v (M + 28) p)) : wM mX12_scanWord [M] S v (fun _ w => ∃ q, (w M 33 = p ∧ w M 34 = 2 ∧ w M 32 = q ∧ isRn (fun x => isLe x) (v (M + 28)) n p q) ∧ ((w M 36 = -1 ∧ ∀ j : Nat, j < 18 → ¬ wmt (v (M + 28)) p q (pmN j)) ∨ ∃ j : Nat, j < 18 ∧ w M 36 = j ∧ wmt (v (M + 28)) p q (pmN j)) ∧ Fsc M v w) := by
  simp only [mX12_scanWord, sX12_scanWord, wM_q]
  generalize hL : aL 0 [2] [M] = L
  have m0 : L 0 = M := by rw [← hL]; simp [aL_ap, ct_0, ct_1, ct_2]
  clear hL
  refine ws_step (L' := L) (w := vu v M 34 2) (by simp only [wE_I, wE_V, wE_F, wE_A, wE_N, wE_1, wE_2, wE_D, wE_B, wE_If, wE_C, wE_CV, wE_SL, wE_SA, wA_0, wA_1, wC_B, wC_E, wC_And, wC_Or, wC_Not, wS_Skip, wS_Brk, wS_Cnt, wS_RetV, wS_Ret, wS_Seq, wS_Set, wS_Inc, wS_Do, wS_Put, wS_PutC, wS_Arr, wS_ArrC, wS_If, wS_Sw, wS_F0, wS_F1, wM_q, lu_ap, aL_ap, ct_0, ct_1, ct_2, ct_3, ct_4, ct_5, headD_1, List.mem_cons, List.not_mem_nil, or_false, false_or, or_true, true_or, true_and, and_true, false_and, and_false, not_true_eq_false, not_false_eq_true, if_true, if_false, nr_20, nr_24, nr_40, nr_41, nr_44, pt_lt, pt_ge, pt_eq, pt_ne, pt_gt, pt_le, pt_E, pt_N, pt_F, ite_10, ite_11, ne_eq, and_self, or_self, decide_true, decide_false, Bool.not_true, Bool.not_false, Bool.false_eq_true, Nat.reduceEqDiff, Nat.reduceAdd, Int.reduceEq, Int.reduceLT, Int.reduceLE, Int.reduceNeg, Int.reduceAdd, Int.reduceSub, Int.reduceMul, reduceCtorEq, iA, iS, iM, iD, iR, iN, lA, lS, lM, lD, lR, m0, h.k]) ?_
  refine ws_step (L' := L) (w := vu (vu v M 34 2) M 32 p) (by
    have : vu v M 34 2 M 33 = p := by rw [vu_ne (by simp)]; exact h33
    simp only [wE_I, wE_V, wE_F, wE_A, wE_N, wE_1, wE_2, wE_D, wE_B, wE_If, wE_C, wE_CV, wE_SL, wE_SA, wA_0, wA_1, wC_B, wC_E, wC_And, wC_Or, wC_Not, wS_Skip, wS_Brk, wS_Cnt, wS_RetV, wS_Ret, wS_Seq, wS_Set, wS_Inc, wS_Do, wS_Put, wS_PutC, wS_Arr, wS_ArrC, wS_If, wS_Sw, wS_F0, wS_F1, wM_q, lu_ap, aL_ap, ct_0, ct_1, ct_2, ct_3, ct_4, ct_5, headD_1, List.mem_cons, List.not_mem_nil, or_false, false_or, or_true, true_or, true_and, and_true, false_and, and_false, not_true_eq_false, not_false_eq_true, if_true, if_false, nr_20, nr_24, nr_40, nr_41, nr_44, pt_lt, pt_ge, pt_eq, pt_ne, pt_gt, pt_le, pt_E, pt_N, pt_F, ite_10, ite_11, ne_eq, and_self, or_self, decide_true, decide_false, Bool.not_true, Bool.not_false, Bool.false_eq_true, Nat.reduceEqDiff, Nat.reduceAdd, Int.reduceEq, Int.reduceLT, Int.reduceLE, Int.reduceNeg, Int.reduceAdd, Int.reduceSub, Int.reduceMul, reduceCtorEq, iA, iS, iM, iD, iR, iN, lA, lS, lM, lD, lR, m0, h.k, this]) ?_
  have f0 : Fsc M v (vu (vu v M 34 2) M 32 p) := Fsc.vu (Fsc.vu (fun _ _ _ => rfl) (by decide)) (by decide)
  have k0 : Km S v (vu (vu v M 34 2) M 32 p) := Km.vu (Km.vu Km.rf (by rw [h.k]; rfl)) (by rw [h.k]; rfl)
  have z33 : vu (vu v M 34 2) M 32 p M 33 = p := by rw [vu_ne (by simp), vu_ne (by simp)]; exact h33
  have z34 : vu (vu v M 34 2) M 32 p M 34 = 2 := by rw [vu_ne (by simp), vu_is]
  have z32 : vu (vu v M 34 2) M 32 p M 32 = p := vu_is
  generalize vu (vu v M 34 2) M 32 p = v1 at *
  rw [wS_Seq]
  refine wS_mono (Q' := fun k _ L' w => k = 0 ∧ L' 0 = M ∧ ∃ q, (w M 33 = p ∧ w M 34 = 2 ∧ w M 32 = q ∧ isRn (fun x => isLe x) (v (M + 28)) n p q) ∧ Km S v w ∧ Fsc M v w) ?_ ?_
  · refine wS_While (fun k L w => ∃ q, L 0 = M ∧ (w M 33 = p ∧ w M 34 = 2 ∧ w M 32 = q) ∧ (p ≤ q ∧ q ≤ n ∧ (k : Int) = n - q ∧ ∀ k, p < k → k < q → isLe (v (M + 28) k)) ∧ Km S v w ∧ Fsc M v w) (n - p).toNat (by omega) ?_ ?_
    · exact ⟨p, m0, ⟨z33, z34, z32⟩, ⟨Int.le_refl _, by omega, by omega, fun k k0 k1 => by omega⟩, k0, f0⟩
    · rintro k L w ⟨q, l0, ⟨w33, w34, w32'⟩, ⟨hq1, hq2, hk, hall⟩, hkm, hf⟩
      have hw := h.keep hkm.p
      have w31 : w M 31 = n := by rw [hf _ _ (by omega)]; exact hn
      have wb : ∀ k, w (M + 28) k = v (M + 28) k := fun k => hf _ _ (by omega)
      have hsg := m_signAt hw (p := q) (by omega) (by omega)
      rw [w31] at hsg
      by_cases c : q < n
      · rw [if_pos c, wb] at hsg
        by_cases cl : isLe (v (M + 28) q)
        · have hbig : isLe (v (M + 28) q) := cl
          have e1 : Iff True True := Iff.rfl
          have e2 : Fsc M v (vu w M 32 (q + 1)) := hf.vu (by decide)
          have e3 : Km S v (vu w M 32 (q + 1)) := hkm.vu (by rw [h.k]; rfl)
          have y33 : vu w M 32 (q + 1) M 33 = p := by rw [vu_ne (by simp)]; exact w33
          have y34 : vu w M 32 (q + 1) M 34 = 2 := by rw [vu_ne (by simp)]; exact w34
          have fin : p ≤ q + 1 ∧ q + 1 ≤ n ∧ (((n - (q + 1)).toNat : Nat) : Int) = n - (q + 1) ∧ ∀ k, p < k → k < q + 1 → isLe (v (M + 28) k) := ⟨by omega, by omega, by omega, fun k k0 k1 => by
            by_cases e : k = q
            · rw [e]; exact cl
            · exact hall k k0 (by omega)⟩
          have lt : (n - (q + 1)).toNat < k := by omega
          have ew : w32 (q + 1) = q + 1 := w32_e (by omega)
          simp only [cX12_scanWord_1, bX12_scanWord_1, uX12_scanWord_1, wE_I, wE_V, wE_F, wE_A, wE_N, wE_1, wE_2, wE_D, wE_B, wE_If, wE_C, wE_CV, wE_SL, wE_SA, wA_0, wA_1, wC_B, wC_E, wC_And, wC_Or, wC_Not, wS_Skip, wS_Brk, wS_Cnt, wS_RetV, wS_Ret, wS_Seq, wS_Set, wS_Inc, wS_Do, wS_Put, wS_PutC, wS_Arr, wS_ArrC, wS_If, wS_Sw, wS_F0, wS_F1, wM_q, lu_ap, aL_ap, ct_0, ct_1, ct_2, ct_3, ct_4, ct_5, headD_1, List.mem_cons, List.not_mem_nil, or_false, false_or, or_true, true_or, true_and, and_true, false_and, and_false, not_true_eq_false, not_false_eq_true, if_true, if_false, nr_20, nr_24, nr_40, nr_41, nr_44, pt_lt, pt_ge, pt_eq, pt_ne, pt_gt, pt_le, pt_E, pt_N, pt_F, ite_10, ite_11, ne_eq, and_self, or_self, decide_true, decide_false, Bool.not_true, Bool.not_false, Bool.false_eq_true, Nat.reduceEqDiff, Nat.reduceAdd, Int.reduceEq, Int.reduceLT, Int.reduceLE, Int.reduceNeg, Int.reduceAdd, Int.reduceSub, Int.reduceMul, reduceCtorEq, iA, iS, iM, iD, iR, iN, lA, lS, lM, lD, lR, l0, hw.k, w32', wM_of hsg, wM_of (m_isLe1 cl), ew]
          clear ew
          exact ⟨_, lt, q + 1, ⟨y33, y34, vu_is⟩, fin, e3, e2⟩
        · have pq : p < q := by
            by_cases e : p = q
            · rw [e] at hle; exact absurd hle cl
            · omega
          simp only [cX12_scanWord_1, wE_I, wE_V, wE_F, wE_A, wE_N, wE_1, wE_2, wE_D, wE_B, wE_If, wE_C, wE_CV, wE_SL, wE_SA, wA_0, wA_1, wC_B, wC_E, wC_And, wC_Or, wC_Not, wS_Skip, wS_Brk, wS_Cnt, wS_RetV, wS_Ret, wS_Seq, wS_Set, wS_Inc, wS_Do, wS_Put, wS_PutC, wS_Arr, wS_ArrC, wS_If, wS_Sw, wS_F0, wS_F1, wM_q, lu_ap, aL_ap, ct_0, ct_1, ct_2, ct_3, ct_4, ct_5, headD_1, List.mem_cons, List.not_mem_nil, or_false, false_or, or_true, true_or, true_and, and_true, false_and, and_false, not_true_eq_false, not_false_eq_true, if_true, if_false, nr_20, nr_24, nr_40, nr_41, nr_44, pt_lt, pt_ge, pt_eq, pt_ne, pt_gt, pt_le, pt_E, pt_N, pt_F, ite_10, ite_11, ne_eq, and_self, or_self, decide_true, decide_false, Bool.not_true, Bool.not_false, Bool.false_eq_true, Nat.reduceEqDiff, Nat.reduceAdd, Int.reduceEq, Int.reduceLT, Int.reduceLE, Int.reduceNeg, Int.reduceAdd, Int.reduceSub, Int.reduceMul, reduceCtorEq, iA, iS, iM, iD, iR, iN, lA, lS, lM, lD, lR, l0, hw.k, w32', wM_of hsg, wM_of (m_isLe0 cl)]
          exact ⟨q, ⟨w33, w34, rfl, ⟨⟨pq, hq2⟩, hall, fun _ => cl⟩⟩, hkm, hf⟩
      · rw [if_neg c] at hsg
        have c0 : ¬ isLe 0 := by decide
        simp only [cX12_scanWord_1, wE_I, wE_V, wE_F, wE_A, wE_N, wE_1, wE_2, wE_D, wE_B, wE_If, wE_C, wE_CV, wE_SL, wE_SA, wA_0, wA_1, wC_B, wC_E, wC_And, wC_Or, wC_Not, wS_Skip, wS_Brk, wS_Cnt, wS_RetV, wS_Ret, wS_Seq, wS_Set, wS_Inc, wS_Do, wS_Put, wS_PutC, wS_Arr, wS_ArrC, wS_If, wS_Sw, wS_F0, wS_F1, wM_q, lu_ap, aL_ap, ct_0, ct_1, ct_2, ct_3, ct_4, ct_5, headD_1, List.mem_cons, List.not_mem_nil, or_false, false_or, or_true, true_or, true_and, and_true, false_and, and_false, not_true_eq_false, not_false_eq_true, if_true, if_false, nr_20, nr_24, nr_40, nr_41, nr_44, pt_lt, pt_ge, pt_eq, pt_ne, pt_gt, pt_le, pt_E, pt_N, pt_F, ite_10, ite_11, ne_eq, and_self, or_self, decide_true, decide_false, Bool.not_true, Bool.not_false, Bool.false_eq_true, Nat.reduceEqDiff, Nat.reduceAdd, Int.reduceEq, Int.reduceLT, Int.reduceLE, Int.reduceNeg, Int.reduceAdd, Int.reduceSub, Int.reduceMul, reduceCtorEq, iA, iS, iM, iD, iR, iN, lA, lS, lM, lD, lR, l0, hw.k, w32', wM_of hsg, wM_of (m_isLe0 c0)]
        exact ⟨q, ⟨w33, w34, rfl, ⟨⟨by omega, hq2⟩, hall, fun z => absurd z c⟩⟩, hkm, hf⟩
  · rintro k z L1 w1 ⟨rfl, l0, q, ⟨w33, w34, w32', hrn⟩, hkm, hf⟩
    rw [if_pos rfl]
    have hw := h.keep hkm.p
    refine ws_step (L' := L1) (w := vu w1 M 36 (-1)) (by simp only [wE_I, wE_V, wE_F, wE_A, wE_N, wE_1, wE_2, wE_D, wE_B, wE_If, wE_C, wE_CV, wE_SL, wE_SA, wA_0, wA_1, wC_B, wC_E, wC_And, wC_Or, wC_Not, wS_Skip, wS_Brk, wS_Cnt, wS_RetV, wS_Ret, wS_Seq, wS_Set, wS_Inc, wS_Do, wS_Put, wS_PutC, wS_Arr, wS_ArrC, wS_If, wS_Sw, wS_F0, wS_F1, wM_q, lu_ap, aL_ap, ct_0, ct_1, ct_2, ct_3, ct_4, ct_5, headD_1, List.mem_cons, List.not_mem_nil, or_false, false_or, or_true, true_or, true_and, and_true, false_and, and_false, not_true_eq_false, not_false_eq_true, if_true, if_false, nr_20, nr_24, nr_40, nr_41, nr_44, pt_lt, pt_ge, pt_eq, pt_ne, pt_gt, pt_le, pt_E, pt_N, pt_F, ite_10, ite_11, ne_eq, and_self, or_self, decide_true, decide_false, Bool.not_true, Bool.not_false, Bool.false_eq_true, Nat.reduceEqDiff, Nat.reduceAdd, Int.reduceEq, Int.reduceLT, Int.reduceLE, Int.reduceNeg, Int.reduceAdd, Int.reduceSub, Int.reduceMul, reduceCtorEq, iA, iS, iM, iD, iR, iN, lA, lS, lM, lD, lR, l0, h.k]) ?_
    refine ws_step (L' := lu L1 1 0) (w := vu w1 M 36 (-1)) (by simp only [wE_I, wE_V, wE_F, wE_A, wE_N, wE_1, wE_2, wE_D, wE_B, wE_If, wE_C, wE_CV, wE_SL, wE_SA, wA_0, wA_1, wC_B, wC_E, wC_And, wC_Or, wC_Not, wS_Skip, wS_Brk, wS_Cnt, wS_RetV, wS_Ret, wS_Seq, wS_Set, wS_Inc, wS_Do, wS_Put, wS_PutC, wS_Arr, wS_ArrC, wS_If, wS_Sw, wS_F0, wS_F1, wM_q, lu_ap, aL_ap, ct_0, ct_1, ct_2, ct_3, ct_4, ct_5, headD_1, List.mem_cons, List.not_mem_nil, or_false, false_or, or_true, true_or, true_and, and_true, false_and, and_false, not_true_eq_false, not_false_eq_true, if_true, if_false, nr_20, nr_24, nr_40, nr_41, nr_44, pt_lt, pt_ge, pt_eq, pt_ne, pt_gt, pt_le, pt_E, pt_N, pt_F, ite_10, ite_11, ne_eq, and_self, or_self, decide_true, decide_false, Bool.not_true, Bool.not_false, Bool.false_eq_true, Nat.reduceEqDiff, Nat.reduceAdd, Int.reduceEq, Int.reduceLT, Int.reduceLE, Int.reduceNeg, Int.reduceAdd, Int.reduceSub, Int.reduceMul, reduceCtorEq, iA, iS, iM, iD, iR, iN, lA, lS, lM, lD, lR]) ?_
    have f1 : Fsc M v (vu w1 M 36 (-1)) := hf.vu (by decide)
    have k1 : Km S v (vu w1 M 36 (-1)) := hkm.vu (by rw [h.k]; rfl)
    have y33 : vu w1 M 36 (-1) M 33 = p := by rw [vu_ne (by simp)]; exact w33
    have y34 : vu w1 M 36 (-1) M 34 = 2 := by rw [vu_ne (by simp)]; exact w34
    have y32 : vu w1 M 36 (-1) M 32 = q := by rw [vu_ne (by simp)]; exact w32'
    have y36 : vu w1 M 36 (-1) M 36 = -1 := vu_is
    generalize vu w1 M 36 (-1) = v2 at *
    simp only [wE_I, wE_V, wE_F, wE_A, wE_N, wE_1, wE_2, wE_D, wE_B, wE_If, wE_C, wE_CV, wE_SL, wE_SA, wA_0, wA_1, wC_B, wC_E, wC_And, wC_Or, wC_Not, wS_Skip, wS_Brk, wS_Cnt, wS_RetV, wS_Ret, wS_Seq, wS_Set, wS_Inc, wS_Do, wS_Put, wS_PutC, wS_Arr, wS_ArrC, wS_If, wS_Sw, wS_F0, wS_F1, wM_q, lu_ap, aL_ap, ct_0, ct_1, ct_2, ct_3, ct_4, ct_5, headD_1, List.mem_cons, List.not_mem_nil, or_false, false_or, or_true, true_or, true_and, and_true, false_and, and_false, not_true_eq_false, not_false_eq_true, if_true, if_false, nr_20, nr_24, nr_40, nr_41, nr_44, pt_lt, pt_ge, pt_eq, pt_ne, pt_gt, pt_le, pt_E, pt_N, pt_F, ite_10, ite_11, ne_eq, and_self, or_self, decide_true, decide_false, Bool.not_true, Bool.not_false, Bool.false_eq_true, Nat.reduceEqDiff, Nat.reduceAdd, Int.reduceEq, Int.reduceLT, Int.reduceLE, Int.reduceNeg, Int.reduceAdd, Int.reduceSub, Int.reduceMul, reduceCtorEq, iA, iS, iM, iD, iR, iN, lA, lS, lM, lD, lR]
    refine wS_For 18 (fun j L w => (L 0 = M ∧ L 1 = moN j ∧ L 2 = j) ∧ (w M 33 = p ∧ w M 34 = 2 ∧ w M 32 = q) ∧ ((w M 36 = -1 ∧ ∀ i : Nat, i < j → ¬ wmt (v (M + 28)) p q (pmN i)) ∨ ∃ i : Nat, i < j ∧ w M 36 = i ∧ wmt (v (M + 28)) p q (pmN i)) ∧ Km S v w ∧ Fsc M v w) (by decide) ?_ ?_ ?_
    · exact ⟨⟨by simp [lu_ap, l0], by simp [lu_ap, moN], by simp [lu_ap]⟩, ⟨y33, y34, y32⟩, Or.inl ⟨y36, fun i hi => absurd hi (Nat.not_lt_zero _)⟩, k1, f1⟩
    · rintro j L w hj ⟨⟨l0, l1, l2⟩, ⟨w33, w34, w32''⟩, h36, hkm, hf⟩
      have hw := h.keep hkm.p
      have hlw := hl.keep hf
      obtain ⟨g1, g2, g3, g4⟩ := mo_f j hj
      have w31 : w M 31 = n := by rw [hf _ _ (by omega)]; exact hn
      have wbf : w (M + 28) = v (M + 28) := funext fun k => hf _ _ (by omega)
      have hj18 : (j : Int) < 18 := by omega
      have hsm := m_isSame hw hlw hj (p := p) (q := q) (by omega) (by rw [w31]; have := hrn.1; omega) w33 w32''
      rw [wbf] at hsm
      simp only [cX12_scanWord_2, wE_I, wE_V, wE_F, wE_A, wE_N, wE_1, wE_2, wE_D, wE_B, wE_If, wE_C, wE_CV, wE_SL, wE_SA, wA_0, wA_1, wC_B, wC_E, wC_And, wC_Or, wC_Not, wS_Skip, wS_Brk, wS_Cnt, wS_RetV, wS_Ret, wS_Seq, wS_Set, wS_Inc, wS_Do, wS_Put, wS_PutC, wS_Arr, wS_ArrC, wS_If, wS_Sw, wS_F0, wS_F1, wM_q, lu_ap, aL_ap, ct_0, ct_1, ct_2, ct_3, ct_4, ct_5, headD_1, List.mem_cons, List.not_mem_nil, or_false, false_or, or_true, true_or, true_and, and_true, false_and, and_false, not_true_eq_false, not_false_eq_true, if_true, if_false, nr_20, nr_24, nr_40, nr_41, nr_44, pt_lt, pt_ge, pt_eq, pt_ne, pt_gt, pt_le, pt_E, pt_N, pt_F, ite_10, ite_11, ne_eq, and_self, or_self, decide_true, decide_false, Bool.not_true, Bool.not_false, Bool.false_eq_true, Nat.reduceEqDiff, Nat.reduceAdd, Int.reduceEq, Int.reduceLT, Int.reduceLE, Int.reduceNeg, Int.reduceAdd, Int.reduceSub, Int.reduceMul, reduceCtorEq, iA, iS, iM, iD, iR, iN, lA, lS, lM, lD, lR, l2, hj18]
      unfold bX12_scanWord_2
      refine ws_step (L' := lu L 3 (moN j)) (w := w) (by simp only [wE_I, wE_V, wE_F, wE_A, wE_N, wE_1, wE_2, wE_D, wE_B, wE_If, wE_C, wE_CV, wE_SL, wE_SA, wA_0, wA_1, wC_B, wC_E, wC_And, wC_Or, wC_Not, wS_Skip, wS_Brk, wS_Cnt, wS_RetV, wS_Ret, wS_Seq, wS_Set, wS_Inc, wS_Do, wS_Put, wS_PutC, wS_Arr, wS_ArrC, wS_If, wS_Sw, wS_F0, wS_F1, wM_q, lu_ap, aL_ap, ct_0, ct_1, ct_2, ct_3, ct_4, ct_5, headD_1, List.mem_cons, List.not_mem_nil, or_false, false_or, or_true, true_or, true_and, and_true, false_and, and_false, not_true_eq_false, not_false_eq_true, if_true, if_false, nr_20, nr_24, nr_40, nr_41, nr_44, pt_lt, pt_ge, pt_eq, pt_ne, pt_gt, pt_le, pt_E, pt_N, pt_F, ite_10, ite_11, ne_eq, and_self, or_self, decide_true, decide_false, Bool.not_true, Bool.not_false, Bool.false_eq_true, Nat.reduceEqDiff, Nat.reduceAdd, Int.reduceEq, Int.reduceLT, Int.reduceLE, Int.reduceNeg, Int.reduceAdd, Int.reduceSub, Int.reduceMul, reduceCtorEq, iA, iS, iM, iD, iR, iN, lA, lS, lM, lD, lR, l1]) ?_
      rw [wS_Seq]
      refine wS_mono (Q' := fun k _ L' u => k = 0 ∧ (L' 0 = M ∧ L' 1 = moN j ∧ L' 2 = j ∧ L' 3 = (moN j + lnN j : Nat)) ∧ u = w) ?_ ?_
      · refine wS_While (fun k L' u => ∃ i : Nat, (L' 0 = M ∧ L' 1 = moN j ∧ L' 2 = j ∧ L' 3 = (moN j + i : Nat)) ∧ (i ≤ lnN j ∧ k + i = lnN j) ∧ u = w) (lnN j) (by omega) ?_ ?_
        · exact ⟨0, ⟨by simp [lu_ap, l0], by simp [lu_ap, l1], by simp [lu_ap, l2], by simp [lu_ap]⟩, by omega, rfl⟩
        · rintro k L' u ⟨i, ⟨n0, n1, n2, n3⟩, ⟨hi, hk⟩, rfl⟩
          have o1 : 0 ≤ ((moN j + i : Nat) : Int) ∧ ((moN j + i : Nat) : Int) < 111 := by omega
          have gl := hlw (moN j + i) (by omega)
          by_cases hlt : i < lnN j
          · have g5 := (mo_c j hj i hlt).2
            rw [← gl] at g5
            have nk : k - 1 < k := by omega
            have nj : i + 1 ≤ lnN j ∧ k - 1 + (i + 1) = lnN j := by omega
            have ec : ((moN j + i : Nat) : Int) + 1 = ((moN j + (i + 1) : Nat) : Int) := by omega
            have ew : w32 (((moN j + i : Nat) : Int) + 1) = ((moN j + i : Nat) : Int) + 1 := w32_e (by omega)
            simp only [cX12_scanWord_3, bX12_scanWord_3, uX12_scanWord_3, wE_I, wE_V, wE_F, wE_A, wE_N, wE_1, wE_2, wE_D, wE_B, wE_If, wE_C, wE_CV, wE_SL, wE_SA, wA_0, wA_1, wC_B, wC_E, wC_And, wC_Or, wC_Not, wS_Skip, wS_Brk, wS_Cnt, wS_RetV, wS_Ret, wS_Seq, wS_Set, wS_Inc, wS_Do, wS_Put, wS_PutC, wS_Arr, wS_ArrC, wS_If, wS_Sw, wS_F0, wS_F1, wM_q, lu_ap, aL_ap, ct_0, ct_1, ct_2, ct_3, ct_4, ct_5, headD_1, List.mem_cons, List.not_mem_nil, or_false, false_or, or_true, true_or, true_and, and_true, false_and, and_false, not_true_eq_false, not_false_eq_true, if_true, if_false, nr_20, nr_24, nr_40, nr_41, nr_44, pt_lt, pt_ge, pt_eq, pt_ne, pt_gt, pt_le, pt_E, pt_N, pt_F, ite_10, ite_11, ne_eq, and_self, or_self, decide_true, decide_false, Bool.not_true, Bool.not_false, Bool.false_eq_true, Nat.reduceEqDiff, Nat.reduceAdd, Int.reduceEq, Int.reduceLT, Int.reduceLE, Int.reduceNeg, Int.reduceAdd, Int.reduceSub, Int.reduceMul, reduceCtorEq, iA, iS, iM, iD, iR, iN, lA, lS, lM, lD, lR, n0, n1, n2, n3, h.k, hw.p41, h.a29, h.n29, o1, g5, ew]
            exact ⟨k - 1, nk, i + 1, ec, nj⟩
          · have hie : i = lnN j := by omega
            subst hie
            rw [g4] at gl
            simp only [cX12_scanWord_3, wE_I, wE_V, wE_F, wE_A, wE_N, wE_1, wE_2, wE_D, wE_B, wE_If, wE_C, wE_CV, wE_SL, wE_SA, wA_0, wA_1, wC_B, wC_E, wC_And, wC_Or, wC_Not, wS_Skip, wS_Brk, wS_Cnt, wS_RetV, wS_Ret, wS_Seq, wS_Set, wS_Inc, wS_Do, wS_Put, wS_PutC, wS_Arr, wS_ArrC, wS_If, wS_Sw, wS_F0, wS_F1, wM_q, lu_ap, aL_ap, ct_0, ct_1, ct_2, ct_3, ct_4, ct_5, headD_1, List.mem_cons, List.not_mem_nil, or_false, false_or, or_true, true_or, true_and, and_true, false_and, and_false, not_true_eq_false, not_false_eq_true, if_true, if_false, nr_20, nr_24, nr_40, nr_41, nr_44, pt_lt, pt_ge, pt_eq, pt_ne, pt_gt, pt_le, pt_E, pt_N, pt_F, ite_10, ite_11, ne_eq, and_self, or_self, decide_true, decide_false, Bool.not_true, Bool.not_false, Bool.false_eq_true, Nat.reduceEqDiff, Nat.reduceAdd, Int.reduceEq, Int.reduceLT, Int.reduceLE, Int.reduceNeg, Int.reduceAdd, Int.reduceSub, Int.reduceMul, reduceCtorEq, iA, iS, iM, iD, iR, iN, lA, lS, lM, lD, lR, n0, n1, n2, n3, h.k, hw.p41, h.a29, h.n29, o1, gl]
      · rintro k z L' u ⟨rfl, ⟨n0, n1, n2, n3⟩, rfl⟩
        rw [if_pos rfl]
        have ec : ((moN j + lnN j : Nat) : Int) + 1 = (moN (j + 1) : Nat) := by omega
        have ej : (j : Int) + 1 = ((j + 1 : Nat) : Int) := by omega
        have p33 : vu u M 36 (j : Int) M 33 = p := by rw [vu_ne (by simp)]; exact w33
        have p34 : vu u M 36 (j : Int) M 34 = 2 := by rw [vu_ne (by simp)]; exact w34
        have p32 : vu u M 36 (j : Int) M 32 = q := by rw [vu_ne (by simp)]; exact w32''
        have pk : Km S v (vu u M 36 (j : Int)) := hkm.vu (by rw [h.k]; rfl)
        have pf : Fsc M v (vu u M 36 (j : Int)) := hf.vu (by decide)
        have h36n : ¬ wmt (v (M + 28)) p q (pmN j) → ((u M 36 = -1 ∧ ∀ i : Nat, i < j + 1 → ¬ wmt (v (M + 28)) p q (pmN i)) ∨ ∃ i : Nat, i < j + 1 ∧ u M 36 = i ∧ wmt (v (M + 28)) p q (pmN i)) := fun hm => by
          rcases h36 with ⟨e1, e2⟩ | ⟨i, i1, i2, i3⟩
          · refine Or.inl ⟨e1, fun i hi => ?_⟩
            by_cases e : i = j
            · rw [e]; exact hm
            · exact e2 i (by omega)
          · exact Or.inr ⟨i, by omega, i2, i3⟩
        have ew : w32 (((moN j + lnN j : Nat) : Int) + 1) = ((moN j + lnN j : Nat) : Int) + 1 := w32_e (by omega)
        have ew2 : w32 ((j : Int) + 1) = j + 1 := by clear ew; exact w32_e (by omega)
        simp only [uX12_scanWord_2, wE_I, wE_V, wE_F, wE_A, wE_N, wE_1, wE_2, wE_D, wE_B, wE_If, wE_C, wE_CV, wE_SL, wE_SA, wA_0, wA_1, wC_B, wC_E, wC_And, wC_Or, wC_Not, wS_Skip, wS_Brk, wS_Cnt, wS_RetV, wS_Ret, wS_Seq, wS_Set, wS_Inc, wS_Do, wS_Put, wS_PutC, wS_Arr, wS_ArrC, wS_If, wS_Sw, wS_F0, wS_F1, wM_q, lu_ap, aL_ap, ct_0, ct_1, ct_2, ct_3, ct_4, ct_5, headD_1, List.mem_cons, List.not_mem_nil, or_false, false_or, or_true, true_or, true_and, and_true, false_and, and_false, not_true_eq_false, not_false_eq_true, if_true, if_false, nr_20, nr_24, nr_40, nr_41, nr_44, pt_lt, pt_ge, pt_eq, pt_ne, pt_gt, pt_le, pt_E, pt_N, pt_F, ite_10, ite_11, ne_eq, and_self, or_self, decide_true, decide_false, Bool.not_true, Bool.not_false, Bool.false_eq_true, Nat.reduceEqDiff, Nat.reduceAdd, Int.reduceEq, Int.reduceLT, Int.reduceLE, Int.reduceNeg, Int.reduceAdd, Int.reduceSub, Int.reduceMul, reduceCtorEq, iA, iS, iM, iD, iR, iN, lA, lS, lM, lD, lR, n0, n1, n2, n3, h.k]
        refine wM_mono hsm ?_
        rintro r u2 e ⟨rfl, ⟨rfl, hm⟩ | ⟨rfl, hm⟩⟩
        · simp only [wE_I, wE_V, wE_F, wE_A, wE_N, wE_1, wE_2, wE_D, wE_B, wE_If, wE_C, wE_CV, wE_SL, wE_SA, wA_0, wA_1, wC_B, wC_E, wC_And, wC_Or, wC_Not, wS_Skip, wS_Brk, wS_Cnt, wS_RetV, wS_Ret, wS_Seq, wS_Set, wS_Inc, wS_Do, wS_Put, wS_PutC, wS_Arr, wS_ArrC, wS_If, wS_Sw, wS_F0, wS_F1, wM_q, lu_ap, aL_ap, ct_0, ct_1, ct_2, ct_3, ct_4, ct_5, headD_1, List.mem_cons, List.not_mem_nil, or_false, false_or, or_true, true_or, true_and, and_true, false_and, and_false, not_true_eq_false, not_false_eq_true, if_true, if_false, nr_20, nr_24, nr_40, nr_41, nr_44, pt_lt, pt_ge, pt_eq, pt_ne, pt_gt, pt_le, pt_E, pt_N, pt_F, ite_10, ite_11, ne_eq, and_self, or_self, decide_true, decide_false, Bool.not_true, Bool.not_false, Bool.false_eq_true, Nat.reduceEqDiff, Nat.reduceAdd, Int.reduceEq, Int.reduceLT, Int.reduceLE, Int.reduceNeg, Int.reduceAdd, Int.reduceSub, Int.reduceMul, reduceCtorEq, iA, iS, iM, iD, iR, iN, lA, lS, lM, lD, lR, n0, n1, n2, n3, h.k, ew, ew2]
          clear ew ew2
          exact ⟨⟨ec, ej⟩, ⟨p33, p34, p32⟩, Or.inr ⟨j, Nat.lt_succ_self j, vu_is, hm⟩, pk, pf⟩
        · simp only [wE_I, wE_V, wE_F, wE_A, wE_N, wE_1, wE_2, wE_D, wE_B, wE_If, wE_C, wE_CV, wE_SL, wE_SA, wA_0, wA_1, wC_B, wC_E, wC_And, wC_Or, wC_Not, wS_Skip, wS_Brk, wS_Cnt, wS_RetV, wS_Ret, wS_Seq, wS_Set, wS_Inc, wS_Do, wS_Put, wS_PutC, wS_Arr, wS_ArrC, wS_If, wS_Sw, wS_F0, wS_F1, wM_q, lu_ap, aL_ap, ct_0, ct_1, ct_2, ct_3, ct_4, ct_5, headD_1, List.mem_cons, List.not_mem_nil, or_false, false_or, or_true, true_or, true_and, and_true, false_and, and_false, not_true_eq_false, not_false_eq_true, if_true, if_false, nr_20, nr_24, nr_40, nr_41, nr_44, pt_lt, pt_ge, pt_eq, pt_ne, pt_gt, pt_le, pt_E, pt_N, pt_F, ite_10, ite_11, ne_eq, and_self, or_self, decide_true, decide_false, Bool.not_true, Bool.not_false, Bool.false_eq_true, Nat.reduceEqDiff, Nat.reduceAdd, Int.reduceEq, Int.reduceLT, Int.reduceLE, Int.reduceNeg, Int.reduceAdd, Int.reduceSub, Int.reduceMul, reduceCtorEq, iA, iS, iM, iD, iR, iN, lA, lS, lM, lD, lR, n0, n1, n2, n3, h.k, ew, ew2]
          clear ew ew2
          exact ⟨⟨ec, ej⟩, ⟨w33, w34, w32''⟩, h36n hm, hkm, hf⟩
    · rintro L w ⟨⟨l0, l1, l2⟩, ⟨w33, w34, w32''⟩, h36, hkm, hf⟩
      have l2' : L 2 = 18 := l2
      simp only [cX12_scanWord_2, wE_I, wE_V, wE_F, wE_A, wE_N, wE_1, wE_2, wE_D, wE_B, wE_If, wE_C, wE_CV, wE_SL, wE_SA, wA_0, wA_1, wC_B, wC_E, wC_And, wC_Or, wC_Not, wS_Skip, wS_Brk, wS_Cnt, wS_RetV, wS_Ret, wS_Seq, wS_Set, wS_Inc, wS_Do, wS_Put, wS_PutC, wS_Arr, wS_ArrC, wS_If, wS_Sw, wS_F0, wS_F1, wM_q, lu_ap, aL_ap, ct_0, ct_1, ct_2, ct_3, ct_4, ct_5, headD_1, List.mem_cons, List.not_mem_nil, or_false, false_or, or_true, true_or, true_and, and_true, false_and, and_false, not_true_eq_false, not_false_eq_true, if_true, if_false, nr_20, nr_24, nr_40, nr_41, nr_44, pt_lt, pt_ge, pt_eq, pt_ne, pt_gt, pt_le, pt_E, pt_N, pt_F, ite_10, ite_11, ne_eq, and_self, or_self, decide_true, decide_false, Bool.not_true, Bool.not_false, Bool.false_eq_true, Nat.reduceEqDiff, Nat.reduceAdd, Int.reduceEq, Int.reduceLT, Int.reduceLE, Int.reduceNeg, Int.reduceAdd, Int.reduceSub, Int.reduceMul, reduceCtorEq, iA, iS, iM, iD, iR, iN, lA, lS, lM, lD, lR, l2']
      exact ⟨q, ⟨w33, w34, w32'', hrn⟩, h36, hf⟩
end MT
