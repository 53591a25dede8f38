/-! STORE: the reference's scan, whole; numbers -/
theorem dvV_n {c : Int → Int} {p : Int} : ∀ n : Nat, (∀ k : Nat, k < n → isDg (c (p + k))) → 0 ≤ dvV c p n
  | 0, _ => Int.le_refl _
  | n + 1, h => by
    have := dvV_n n (fun k hk => h k (by omega))
    have := h n (by omega)
    show 0 ≤ 10 * dvV c p n + (c (p + n) - 48)
    omega
theorem dvV_c {c m : Int → Int} {p : Int} : ∀ n : Nat, (∀ k : Nat, k < n → c (p + k) = m (p + k)) → dvV c p n = dvV m p n
  | 0, _ => rfl
  | n + 1, h => by
    show 10 * dvV c p n + (c (p + n) - 48) = 10 * dvV m p n + (m (p + n) - 48)
    rw [dvV_c n (fun k hk => h k (by omega)), h n (by omega)]
def wRl (w : QV) (M : Int) (m : Int → Int) (q r : Int) : Prop := (w M 36 = -1 ∧ ∀ j : Nat, j < 18 → ¬ wmt m q r (pmN j)) ∨ ∃ j : Nat, j < 18 ∧ w M 36 = j ∧ wmt m q r (pmN j)
/-- what stands at q up to r -/
def Std (w : QV) (M : Int) (m : Int → Int) (n q r : Int) : Prop := (w M 33 = q ∧ w M 32 = r) ∧ (q = n → w M 34 = 0 ∧ r = n) ∧ (q < n → isSp m n q r ∧ (isLe (m q) → w M 34 = 2 ∧ wRl w M m q r) ∧ (isDg (m q) → w M 34 = 3 ∧ nuR (w M 35) (dvV m q (r - q).toNat)) ∧ (¬ isLe (m q) → ¬ isDg (m q) → (isSg (m q) → w M 34 = 4) ∧ (¬ isSg (m q) → w M 34 = 1)))
section MN
variable {S : QS} {v w : QV} {M T : Int}
theorem m_scanNumber (h : LMo S v M) {p n : Int} (hn : v M 31 = n) (hn2 : n ≤ 1000) (hp : 0 ≤ p ∧ p < n) (h33 : v M 33 = p) (hle : isDg (v (M + 28) p)) : wM mX12_scanNumber [M] S v (fun _ w => ∃ q, (w M 33 = p ∧ w M 34 = 3 ∧ w M 32 = q ∧ isRn (fun x => isDg x) (v (M + 28)) n p q) ∧ nuR (w M 35) (dvV (v (M + 28)) p (q - p).toNat) ∧ Fsc M v w) := by
  simp only [mX12_scanNumber, sX12_scanNumber, wM_q]
  generalize hL : aL 0 [2] [M] = L
  have m0 : L 0 = M := by rw [← hL]; simp [aL_ap, ct_0, ct_1, ct_2]
  clear hL
  refine ws_step (L' := L) (w := vu v M 34 3) (by simp only [wE_I, wE_V, wE_F, wE_A, wE_N, wE_1, wE_2, wE_D, wE_B, wE_If, wE_C, wE_CV, wE_SL, wE_SA, wA_0, wA_1, wC_B, wC_E, wC_And, wC_Or, wC_Not, wS_Skip, wS_Brk, wS_Cnt, wS_RetV, wS_Ret, wS_Seq, wS_Set, wS_Inc, wS_Do, wS_Put, wS_PutC, wS_Arr, wS_ArrC, wS_If, wS_Sw, wS_F0, wS_F1, wM_q, lu_ap, aL_ap, ct_0, ct_1, ct_2, ct_3, ct_4, ct_5, headD_1, List.mem_cons, List.not_mem_nil, or_false, false_or, or_true, true_or, true_and, and_true, false_and, and_false, not_true_eq_false, not_false_eq_true, if_true, if_false, nr_20, nr_24, nr_40, nr_41, nr_44, pt_lt, pt_ge, pt_eq, pt_ne, pt_gt, pt_le, pt_E, pt_N, pt_F, ite_10, ite_11, ne_eq, and_self, or_self, decide_true, decide_false, Bool.not_true, Bool.not_false, Bool.false_eq_true, Nat.reduceEqDiff, Nat.reduceAdd, Int.reduceEq, Int.reduceLT, Int.reduceLE, Int.reduceNeg, Int.reduceAdd, Int.reduceSub, Int.reduceMul, reduceCtorEq, iA, iS, iM, iD, iR, iN, lA, lS, lM, lD, lR, m0, h.k]) ?_
  refine ws_step (L' := L) (w := vu (vu v M 34 3) M 35 0) (by simp only [wE_I, wE_V, wE_F, wE_A, wE_N, wE_1, wE_2, wE_D, wE_B, wE_If, wE_C, wE_CV, wE_SL, wE_SA, wA_0, wA_1, wC_B, wC_E, wC_And, wC_Or, wC_Not, wS_Skip, wS_Brk, wS_Cnt, wS_RetV, wS_Ret, wS_Seq, wS_Set, wS_Inc, wS_Do, wS_Put, wS_PutC, wS_Arr, wS_ArrC, wS_If, wS_Sw, wS_F0, wS_F1, wM_q, lu_ap, aL_ap, ct_0, ct_1, ct_2, ct_3, ct_4, ct_5, headD_1, List.mem_cons, List.not_mem_nil, or_false, false_or, or_true, true_or, true_and, and_true, false_and, and_false, not_true_eq_false, not_false_eq_true, if_true, if_false, nr_20, nr_24, nr_40, nr_41, nr_44, pt_lt, pt_ge, pt_eq, pt_ne, pt_gt, pt_le, pt_E, pt_N, pt_F, ite_10, ite_11, ne_eq, and_self, or_self, decide_true, decide_false, Bool.not_true, Bool.not_false, Bool.false_eq_true, Nat.reduceEqDiff, Nat.reduceAdd, Int.reduceEq, Int.reduceLT, Int.reduceLE, Int.reduceNeg, Int.reduceAdd, Int.reduceSub, Int.reduceMul, reduceCtorEq, iA, iS, iM, iD, iR, iN, lA, lS, lM, lD, lR, m0, h.k]) ?_
  refine ws_step (L' := L) (w := vu (vu (vu v M 34 3) M 35 0) M 32 p) (by
    have : vu (vu v M 34 3) M 35 0 M 33 = p := by rw [vu_ne (by simp), vu_ne (by simp)]; exact h33
    simp only [wE_I, wE_V, wE_F, wE_A, wE_N, wE_1, wE_2, wE_D, wE_B, wE_If, wE_C, wE_CV, wE_SL, wE_SA, wA_0, wA_1, wC_B, wC_E, wC_And, wC_Or, wC_Not, wS_Skip, wS_Brk, wS_Cnt, wS_RetV, wS_Ret, wS_Seq, wS_Set, wS_Inc, wS_Do, wS_Put, wS_PutC, wS_Arr, wS_ArrC, wS_If, wS_Sw, wS_F0, wS_F1, wM_q, lu_ap, aL_ap, ct_0, ct_1, ct_2, ct_3, ct_4, ct_5, headD_1, List.mem_cons, List.not_mem_nil, or_false, false_or, or_true, true_or, true_and, and_true, false_and, and_false, not_true_eq_false, not_false_eq_true, if_true, if_false, nr_20, nr_24, nr_40, nr_41, nr_44, pt_lt, pt_ge, pt_eq, pt_ne, pt_gt, pt_le, pt_E, pt_N, pt_F, ite_10, ite_11, ne_eq, and_self, or_self, decide_true, decide_false, Bool.not_true, Bool.not_false, Bool.false_eq_true, Nat.reduceEqDiff, Nat.reduceAdd, Int.reduceEq, Int.reduceLT, Int.reduceLE, Int.reduceNeg, Int.reduceAdd, Int.reduceSub, Int.reduceMul, reduceCtorEq, iA, iS, iM, iD, iR, iN, lA, lS, lM, lD, lR, m0, h.k, this]) ?_
  have f0 : Fsc M v (vu (vu (vu v M 34 3) M 35 0) M 32 p) := Fsc.vu (Fsc.vu (Fsc.vu (fun _ _ _ => rfl) (by decide)) (by decide)) (by decide)
  have k0 : Km S v (vu (vu (vu v M 34 3) M 35 0) M 32 p) := Km.vu (Km.vu (Km.vu Km.rf (by rw [h.k]; rfl)) (by rw [h.k]; rfl)) (by rw [h.k]; rfl)
  have z33 : vu (vu (vu v M 34 3) M 35 0) M 32 p M 33 = p := by rw [vu_ne (by simp), vu_ne (by simp), vu_ne (by simp)]; exact h33
  have z34 : vu (vu (vu v M 34 3) M 35 0) M 32 p M 34 = 3 := by rw [vu_ne (by simp), vu_ne (by simp), vu_is]
  have z35 : vu (vu (vu v M 34 3) M 35 0) M 32 p M 35 = 0 := by rw [vu_ne (by simp), vu_is]
  have z32 : vu (vu (vu v M 34 3) M 35 0) M 32 p M 32 = p := vu_is
  generalize vu (vu (vu v M 34 3) M 35 0) M 32 p = v1 at *
  simp only [wE_I, wE_V, wE_F, wE_A, wE_N, wE_1, wE_2, wE_D, wE_B, wE_If, wE_C, wE_CV, wE_SL, wE_SA, wA_0, wA_1, wC_B, wC_E, wC_And, wC_Or, wC_Not, wS_Skip, wS_Brk, wS_Cnt, wS_RetV, wS_Ret, wS_Seq, wS_Set, wS_Inc, wS_Do, wS_Put, wS_PutC, wS_Arr, wS_ArrC, wS_If, wS_Sw, wS_F0, wS_F1, wM_q, lu_ap, aL_ap, ct_0, ct_1, ct_2, ct_3, ct_4, ct_5, headD_1, List.mem_cons, List.not_mem_nil, or_false, false_or, or_true, true_or, true_and, and_true, false_and, and_false, not_true_eq_false, not_false_eq_true, if_true, if_false, nr_20, nr_24, nr_40, nr_41, nr_44, pt_lt, pt_ge, pt_eq, pt_ne, pt_gt, pt_le, pt_E, pt_N, pt_F, ite_10, ite_11, ne_eq, and_self, or_self, decide_true, decide_false, Bool.not_true, Bool.not_false, Bool.false_eq_true, Nat.reduceEqDiff, Nat.reduceAdd, Int.reduceEq, Int.reduceLT, Int.reduceLE, Int.reduceNeg, Int.reduceAdd, Int.reduceSub, Int.reduceMul, reduceCtorEq, iA, iS, iM, iD, iR, iN, lA, lS, lM, lD, lR]
  refine wS_While (fun k L w => ∃ i : Nat, ∃ q, L 0 = M ∧ (w M 33 = p ∧ w M 34 = 3 ∧ w M 32 = q ∧ q = p + i) ∧ (q ≤ n ∧ (k : Int) = n - q) ∧ (∀ k : Nat, k < i → isDg (v (M + 28) (p + k))) ∧ nuR (w M 35) (dvV (v (M + 28)) p i) ∧ Km S v w ∧ Fsc M v w) (n - p).toNat (by omega) ?_ ?_
  · refine ⟨0, p, m0, ⟨z33, z34, z32, by omega⟩, by omega, fun k hk => absurd hk (Nat.not_lt_zero _), ?_, k0, f0⟩
    rw [z35]
    exact ⟨fun _ => rfl, fun z => by simp only [dvV] at z; omega⟩
  · rintro k L w ⟨i, q, l0, ⟨w33, w34, w32', hqi⟩, ⟨hq2, hk⟩, hall, hnu, hkm, hf⟩
    have hw := h.keep hkm.p
    have w31 : w M 31 = n := by rw [hf _ _ (by omega)]; exact hn
    have wb : ∀ k, w (M + 28) k = v (M + 28) k := fun k => hf _ _ (by omega)
    have hsg := m_signAt hw (p := q) (by omega) (by omega)
    rw [w31] at hsg
    have hd0 := dvV_n i hall
    have hrn : ∀ r, r = q → p < r → (r < n → ¬ isDg (v (M + 28) r)) → isRn (fun x => isDg x) (v (M + 28)) n p r := fun r e hpr hst => ⟨⟨hpr, by omega⟩, fun k k0 k1 => by
      have := hall (k - p).toNat (by omega)
      rw [show p + (((k - p).toNat : Nat) : Int) = k by omega] at this
      exact this, hst⟩
    have hin : (q - p).toNat = i := by omega
    by_cases c : q < n
    · rw [if_pos c, wb] at hsg
      by_cases cl : isDg (v (M + 28) q)
      · have d1 : dvV (v (M + 28)) p (i + 1) = 10 * dvV (v (M + 28)) p i + (v (M + 28) q - 48) := by
          show 10 * dvV (v (M + 28)) p i + (v (M + 28) (p + i) - 48) = _
          rw [hqi]
        have hall' : ∀ k : Nat, k < i + 1 → isDg (v (M + 28) (p + k)) := fun k hk => by
          by_cases e : k = i
          · rw [e, ← hqi]; exact cl
          · exact hall k (by omega)
        have lt : (n - (q + 1)).toNat < k := by omega
        have lt2 : (((n - (q + 1)).toNat : Nat) : Int) = n - (q + 1) := by omega
        have q1 : q + 1 = p + ((i + 1 : Nat) : Int) := by omega
        have q2 : q + 1 ≤ n := by omega
        have fin : ∀ y, nuR y (dvV (v (M + 28)) p (i + 1)) → ∃ n', n' < k ∧ ∃ i' : Nat, ∃ q', ((vu (vu w M 35 y) M 32 (q + 1)) M 33 = p ∧ (vu (vu w M 35 y) M 32 (q + 1)) M 34 = 3 ∧ (vu (vu w M 35 y) M 32 (q + 1)) M 32 = q' ∧ q' = p + i') ∧ (q' ≤ n ∧ (n' : Int) = n - q') ∧ (∀ k : Nat, k < i' → isDg (v (M + 28) (p + k))) ∧ nuR ((vu (vu w M 35 y) M 32 (q + 1)) M 35) (dvV (v (M + 28)) p i') ∧ Km S v (vu (vu w M 35 y) M 32 (q + 1)) ∧ Fsc M v (vu (vu w M 35 y) M 32 (q + 1)) := fun y hy => ⟨_, lt, i + 1, q + 1, ⟨by rw [vu_ne (by simp), vu_ne (by simp)]; exact w33, by rw [vu_ne (by simp), vu_ne (by simp)]; exact w34, vu_is, q1⟩, ⟨q2, lt2⟩, hall', by rw [vu_ne (by simp), vu_is]; exact hy, (hkm.vu (by rw [h.k]; rfl)).vu (by rw [h.k]; rfl), (hf.vu (by decide)).vu (by decide)⟩
        have y32 : ∀ y, vu w M 35 y M 32 = q := fun y => by rw [vu_ne (by simp)]; exact w32'
        obtain ⟨hn1, hn3⟩ := hnu
        generalize hD : dvV (v (M + 28)) p i = D at *
        by_cases cy : 999999 < w M 35
        · have hD2 : 999999 < D := by
            by_cases z : D ≤ 999999
            · have := hn1 z; omega
            · omega
          have fy := fin (w M 35) ⟨fun z => by rw [d1] at z; omega, fun _ => hn3 hD2⟩
          have ew : w32 (q + 1) = q + 1 := w32_e (by omega)
          simp only [cX12_scanNumber_1, bX12_scanNumber_1, uX12_scanNumber_1, wE_I, wE_V, wE_F, wE_A, wE_N, wE_1, wE_2, wE_D, wE_B, wE_If, wE_C, wE_CV, wE_SL, wE_SA, wA_0, wA_1, wC_B, wC_E, wC_And, wC_Or, wC_Not, wS_Skip, wS_Brk, wS_Cnt, wS_RetV, wS_Ret, wS_Seq, wS_Set, wS_Inc, wS_Do, wS_Put, wS_PutC, wS_Arr, wS_ArrC, wS_If, wS_Sw, wS_F0, wS_F1, wM_q, lu_ap, aL_ap, ct_0, ct_1, ct_2, ct_3, ct_4, ct_5, headD_1, List.mem_cons, List.not_mem_nil, or_false, false_or, or_true, true_or, true_and, and_true, false_and, and_false, not_true_eq_false, not_false_eq_true, if_true, if_false, nr_20, nr_24, nr_40, nr_41, nr_44, pt_lt, pt_ge, pt_eq, pt_ne, pt_gt, pt_le, pt_E, pt_N, pt_F, ite_10, ite_11, ne_eq, and_self, or_self, decide_true, decide_false, Bool.not_true, Bool.not_false, Bool.false_eq_true, Nat.reduceEqDiff, Nat.reduceAdd, Int.reduceEq, Int.reduceLT, Int.reduceLE, Int.reduceNeg, Int.reduceAdd, Int.reduceSub, Int.reduceMul, reduceCtorEq, iA, iS, iM, iD, iR, iN, lA, lS, lM, lD, lR, l0, hw.k, w32', wM_of hsg, wM_of (m_isDg1 cl), cy, y32, ew]
          exact fy
        · have hD2 : D ≤ 999999 := by
            by_cases z : D ≤ 999999
            · exact z
            · have := hn3 (by omega); omega
          have wy := hn1 hD2
          have fy := fin (10 * D + (v (M + 28) q - 48)) ⟨fun z => d1.symm, fun z => by rw [d1] at z; omega⟩
          have ex : 10 * D + v (M + 28) q - 48 = 10 * D + (v (M + 28) q - 48) := by omega
          rw [wy] at cy
          have e1 : w32 (10 * D) = 10 * D := w32_e (by omega)
          have e2 : w32 (10 * D + v (M + 28) q) = 10 * D + v (M + 28) q := by clear e1; exact w32_e (by omega)
          have e3 : w32 (10 * D + (v (M + 28) q - 48)) = 10 * D + (v (M + 28) q - 48) := by clear e1 e2; exact w32_e (by omega)
          have ew : w32 (q + 1) = q + 1 := by clear e1 e2 e3; exact w32_e (by omega)
          simp only [cX12_scanNumber_1, bX12_scanNumber_1, uX12_scanNumber_1, wE_I, wE_V, wE_F, wE_A, wE_N, wE_1, wE_2, wE_D, wE_B, wE_If, wE_C, wE_CV, wE_SL, wE_SA, wA_0, wA_1, wC_B, wC_E, wC_And, wC_Or, wC_Not, wS_Skip, wS_Brk, wS_Cnt, wS_RetV, wS_Ret, wS_Seq, wS_Set, wS_Inc, wS_Do, wS_Put, wS_PutC, wS_Arr, wS_ArrC, wS_If, wS_Sw, wS_F0, wS_F1, wM_q, lu_ap, aL_ap, ct_0, ct_1, ct_2, ct_3, ct_4, ct_5, headD_1, List.mem_cons, List.not_mem_nil, or_false, false_or, or_true, true_or, true_and, and_true, false_and, and_false, not_true_eq_false, not_false_eq_true, if_true, if_false, nr_20, nr_24, nr_40, nr_41, nr_44, pt_lt, pt_ge, pt_eq, pt_ne, pt_gt, pt_le, pt_E, pt_N, pt_F, ite_10, ite_11, ne_eq, and_self, or_self, decide_true, decide_false, Bool.not_true, Bool.not_false, Bool.false_eq_true, Nat.reduceEqDiff, Nat.reduceAdd, Int.reduceEq, Int.reduceLT, Int.reduceLE, Int.reduceNeg, Int.reduceAdd, Int.reduceSub, Int.reduceMul, reduceCtorEq, iA, iS, iM, iD, iR, iN, lA, lS, lM, lD, lR, l0, hw.k, w32', wM_of hsg, wM_of (m_isDg1 cl), wy, cy, y32, e1, e2, e3, ex, ew]
          exact fy
      · have pq : p < q := by
          by_cases e : p = q
          · rw [e] at hle; exact absurd hle cl
          · omega
        simp only [cX12_scanNumber_1, wE_I, wE_V, wE_F, wE_A, wE_N, wE_1, wE_2, wE_D, wE_B, wE_If, wE_C, wE_CV, wE_SL, wE_SA, wA_0, wA_1, wC_B, wC_E, wC_And, wC_Or, wC_Not, wS_Skip, wS_Brk, wS_Cnt, wS_RetV, wS_Ret, wS_Seq, wS_Set, wS_Inc, wS_Do, wS_Put, wS_PutC, wS_Arr, wS_ArrC, wS_If, wS_Sw, wS_F0, wS_F1, wM_q, lu_ap, aL_ap, ct_0, ct_1, ct_2, ct_3, ct_4, ct_5, headD_1, List.mem_cons, List.not_mem_nil, or_false, false_or, or_true, true_or, true_and, and_true, false_and, and_false, not_true_eq_false, not_false_eq_true, if_true, if_false, nr_20, nr_24, nr_40, nr_41, nr_44, pt_lt, pt_ge, pt_eq, pt_ne, pt_gt, pt_le, pt_E, pt_N, pt_F, ite_10, ite_11, ne_eq, and_self, or_self, decide_true, decide_false, Bool.not_true, Bool.not_false, Bool.false_eq_true, Nat.reduceEqDiff, Nat.reduceAdd, Int.reduceEq, Int.reduceLT, Int.reduceLE, Int.reduceNeg, Int.reduceAdd, Int.reduceSub, Int.reduceMul, reduceCtorEq, iA, iS, iM, iD, iR, iN, lA, lS, lM, lD, lR, l0, hw.k, w32', wM_of hsg, wM_of (m_isDg0 cl)]
        exact ⟨q, ⟨w33, w34, rfl, hrn q rfl pq (fun _ => cl)⟩, by rw [hin]; exact hnu, hf⟩
    · rw [if_neg c] at hsg
      have c0 : ¬ isDg 0 := by decide
      simp only [cX12_scanNumber_1, wE_I, wE_V, wE_F, wE_A, wE_N, wE_1, wE_2, wE_D, wE_B, wE_If, wE_C, wE_CV, wE_SL, wE_SA, wA_0, wA_1, wC_B, wC_E, wC_And, wC_Or, wC_Not, wS_Skip, wS_Brk, wS_Cnt, wS_RetV, wS_Ret, wS_Seq, wS_Set, wS_Inc, wS_Do, wS_Put, wS_PutC, wS_Arr, wS_ArrC, wS_If, wS_Sw, wS_F0, wS_F1, wM_q, lu_ap, aL_ap, ct_0, ct_1, ct_2, ct_3, ct_4, ct_5, headD_1, List.mem_cons, List.not_mem_nil, or_false, false_or, or_true, true_or, true_and, and_true, false_and, and_false, not_true_eq_false, not_false_eq_true, if_true, if_false, nr_20, nr_24, nr_40, nr_41, nr_44, pt_lt, pt_ge, pt_eq, pt_ne, pt_gt, pt_le, pt_E, pt_N, pt_F, ite_10, ite_11, ne_eq, and_self, or_self, decide_true, decide_false, Bool.not_true, Bool.not_false, Bool.false_eq_true, Nat.reduceEqDiff, Nat.reduceAdd, Int.reduceEq, Int.reduceLT, Int.reduceLE, Int.reduceNeg, Int.reduceAdd, Int.reduceSub, Int.reduceMul, reduceCtorEq, iA, iS, iM, iD, iR, iN, lA, lS, lM, lD, lR, l0, hw.k, w32', wM_of hsg, wM_of (m_isDg0 c0)]
      exact ⟨q, ⟨w33, w34, rfl, hrn q rfl (by omega) (fun z => absurd z c)⟩, by rw [hin]; exact hnu, hf⟩
theorem m_scan (h : LMo S v M) (hl : LtO v M) {p n : Int} (hn : v M 31 = n) (hn2 : n ≤ 1000) (h32 : v M 32 = p) (hp : 0 ≤ p ∧ p ≤ n) : wM mX12_scan [M] S v (fun _ w => (∃ q r, isNb (v (M + 28)) n p q ∧ Std w M (v (M + 28)) n q r) ∧ Fsc M v w) := by
  simp only [mX12_scan, sX12_scan, wM_q]
  generalize hL : aL 0 [2] [M] = L
  have m0 : L 0 = M := by rw [← hL]; simp [aL_ap, ct_0, ct_1, ct_2]
  clear hL
  refine ws_step (L' := L) (w := vu v M 33 p) (by simp only [wE_I, wE_V, wE_F, wE_A, wE_N, wE_1, wE_2, wE_D, wE_B, wE_If, wE_C, wE_CV, wE_SL, wE_SA, wA_0, wA_1, wC_B, wC_E, wC_And, wC_Or, wC_Not, wS_Skip, wS_Brk, wS_Cnt, wS_RetV, wS_Ret, wS_Seq, wS_Set, wS_Inc, wS_Do, wS_Put, wS_PutC, wS_Arr, wS_ArrC, wS_If, wS_Sw, wS_F0, wS_F1, wM_q, lu_ap, aL_ap, ct_0, ct_1, ct_2, ct_3, ct_4, ct_5, headD_1, List.mem_cons, List.not_mem_nil, or_false, false_or, or_true, true_or, true_and, and_true, false_and, and_false, not_true_eq_false, not_false_eq_true, if_true, if_false, nr_20, nr_24, nr_40, nr_41, nr_44, pt_lt, pt_ge, pt_eq, pt_ne, pt_gt, pt_le, pt_E, pt_N, pt_F, ite_10, ite_11, ne_eq, and_self, or_self, decide_true, decide_false, Bool.not_true, Bool.not_false, Bool.false_eq_true, Nat.reduceEqDiff, Nat.reduceAdd, Int.reduceEq, Int.reduceLT, Int.reduceLE, Int.reduceNeg, Int.reduceAdd, Int.reduceSub, Int.reduceMul, reduceCtorEq, iA, iS, iM, iD, iR, iN, lA, lS, lM, lD, lR, m0, h.k, h32]) ?_
  have f0 : Fsc M v (vu v M 33 p) := Fsc.vu (fun _ _ _ => rfl) (by decide)
  have k0 : Km S v (vu v M 33 p) := Km.vu Km.rf (by rw [h.k]; rfl)
  have z33 : vu v M 33 p M 33 = p := vu_is
  generalize vu v M 33 p = v1 at *
  rw [wS_Seq]
  refine wS_mono (Q' := fun k _ L' w => k = 0 ∧ L' = L ∧ ∃ q, w M 33 = q ∧ isNb (v (M + 28)) n p q ∧ Km S v w ∧ Fsc M v w) ?_ ?_
  · refine wS_While (fun k L' w => ∃ q, L' = L ∧ w M 33 = q ∧ (p ≤ q ∧ q ≤ n ∧ (k : Int) = n - q ∧ ∀ k, p ≤ k → k < q → isBl (v (M + 28) k)) ∧ Km S v w ∧ Fsc M v w) (n - p).toNat (by omega) ?_ ?_
    · exact ⟨p, rfl, z33, ⟨Int.le_refl _, by omega, by omega, fun k k0 k1 => by omega⟩, k0, f0⟩
    · rintro k L' w ⟨q, rfl, w33, ⟨hq1, hq2, hk, hall⟩, hkm, hf⟩
      have hw := h.keep hkm.p
      have w31 : w M 31 = n := by rw [hf _ _ (by omega)]; exact hn
      have wb : ∀ k, w (M + 28) k = v (M + 28) k := fun k => hf _ _ (by omega)
      by_cases c : q < n ∧ isBl (v (M + 28) q)
      · have hb := m_isBl1 hw (p := q) (by omega) (by omega) (by rw [wb]; exact c.2)
        have e2 : Fsc M v (vu w M 33 (q + 1)) := hf.vu (by decide)
        have e3 : Km S v (vu w M 33 (q + 1)) := hkm.vu (by rw [h.k]; rfl)
        have fin : p ≤ q + 1 ∧ q + 1 ≤ n ∧ (((n - (q + 1)).toNat : Nat) : Int) = n - (q + 1) ∧ ∀ k, p ≤ k → k < q + 1 → isBl (v (M + 28) k) := ⟨by omega, by omega, by omega, fun k k0 k1 => by
          by_cases e : k = q
          · rw [e]; exact c.2
          · exact hall k k0 (by omega)⟩
        have lt : (n - (q + 1)).toNat < k := by omega
        have ew : w32 (q + 1) = q + 1 := w32_e (by omega)
        simp only [cX12_scan_1, bX12_scan_1, uX12_scan_1, wE_I, wE_V, wE_F, wE_A, wE_N, wE_1, wE_2, wE_D, wE_B, wE_If, wE_C, wE_CV, wE_SL, wE_SA, wA_0, wA_1, wC_B, wC_E, wC_And, wC_Or, wC_Not, wS_Skip, wS_Brk, wS_Cnt, wS_RetV, wS_Ret, wS_Seq, wS_Set, wS_Inc, wS_Do, wS_Put, wS_PutC, wS_Arr, wS_ArrC, wS_If, wS_Sw, wS_F0, wS_F1, wM_q, lu_ap, aL_ap, ct_0, ct_1, ct_2, ct_3, ct_4, ct_5, headD_1, List.mem_cons, List.not_mem_nil, or_false, false_or, or_true, true_or, true_and, and_true, false_and, and_false, not_true_eq_false, not_false_eq_true, if_true, if_false, nr_20, nr_24, nr_40, nr_41, nr_44, pt_lt, pt_ge, pt_eq, pt_ne, pt_gt, pt_le, pt_E, pt_N, pt_F, ite_10, ite_11, ne_eq, and_self, or_self, decide_true, decide_false, Bool.not_true, Bool.not_false, Bool.false_eq_true, Nat.reduceEqDiff, Nat.reduceAdd, Int.reduceEq, Int.reduceLT, Int.reduceLE, Int.reduceNeg, Int.reduceAdd, Int.reduceSub, Int.reduceMul, reduceCtorEq, iA, iS, iM, iD, iR, iN, lA, lS, lM, lD, lR, m0, hw.k, w33, wM_of hb, ew]
        clear ew
        exact ⟨_, lt, q + 1, vu_is, fin, e3, e2⟩
      · have hb := m_isBl0 hw (p := q) (by omega) (by omega) (fun z => by rw [wb]; exact fun y => c ⟨by omega, y⟩)
        simp only [cX12_scan_1, wE_I, wE_V, wE_F, wE_A, wE_N, wE_1, wE_2, wE_D, wE_B, wE_If, wE_C, wE_CV, wE_SL, wE_SA, wA_0, wA_1, wC_B, wC_E, wC_And, wC_Or, wC_Not, wS_Skip, wS_Brk, wS_Cnt, wS_RetV, wS_Ret, wS_Seq, wS_Set, wS_Inc, wS_Do, wS_Put, wS_PutC, wS_Arr, wS_ArrC, wS_If, wS_Sw, wS_F0, wS_F1, wM_q, lu_ap, aL_ap, ct_0, ct_1, ct_2, ct_3, ct_4, ct_5, headD_1, List.mem_cons, List.not_mem_nil, or_false, false_or, or_true, true_or, true_and, and_true, false_and, and_false, not_true_eq_false, not_false_eq_true, if_true, if_false, nr_20, nr_24, nr_40, nr_41, nr_44, pt_lt, pt_ge, pt_eq, pt_ne, pt_gt, pt_le, pt_E, pt_N, pt_F, ite_10, ite_11, ne_eq, and_self, or_self, decide_true, decide_false, Bool.not_true, Bool.not_false, Bool.false_eq_true, Nat.reduceEqDiff, Nat.reduceAdd, Int.reduceEq, Int.reduceLT, Int.reduceLE, Int.reduceNeg, Int.reduceAdd, Int.reduceSub, Int.reduceMul, reduceCtorEq, iA, iS, iM, iD, iR, iN, lA, lS, lM, lD, lR, m0, hw.k, w33, wM_of hb]
        exact ⟨q, rfl, ⟨⟨hq1, hq2⟩, hall, fun z y => c ⟨z, y⟩⟩, hkm, hf⟩
  · rintro k z L' w ⟨rfl, rfl, q, w33, hnb, hkm, hf⟩
    rw [if_pos rfl]
    have hw := h.keep hkm.p
    have ew : w32 (q + 1) = q + 1 := by have := hnb.1; exact w32_e (by omega)
    refine ws_step (L' := L') (w := vu w M 32 (q + 1)) (by simp only [wE_I, wE_V, wE_F, wE_A, wE_N, wE_1, wE_2, wE_D, wE_B, wE_If, wE_C, wE_CV, wE_SL, wE_SA, wA_0, wA_1, wC_B, wC_E, wC_And, wC_Or, wC_Not, wS_Skip, wS_Brk, wS_Cnt, wS_RetV, wS_Ret, wS_Seq, wS_Set, wS_Inc, wS_Do, wS_Put, wS_PutC, wS_Arr, wS_ArrC, wS_If, wS_Sw, wS_F0, wS_F1, wM_q, lu_ap, aL_ap, ct_0, ct_1, ct_2, ct_3, ct_4, ct_5, headD_1, List.mem_cons, List.not_mem_nil, or_false, false_or, or_true, true_or, true_and, and_true, false_and, and_false, not_true_eq_false, not_false_eq_true, if_true, if_false, nr_20, nr_24, nr_40, nr_41, nr_44, pt_lt, pt_ge, pt_eq, pt_ne, pt_gt, pt_le, pt_E, pt_N, pt_F, ite_10, ite_11, ne_eq, and_self, or_self, decide_true, decide_false, Bool.not_true, Bool.not_false, Bool.false_eq_true, Nat.reduceEqDiff, Nat.reduceAdd, Int.reduceEq, Int.reduceLT, Int.reduceLE, Int.reduceNeg, Int.reduceAdd, Int.reduceSub, Int.reduceMul, reduceCtorEq, iA, iS, iM, iD, iR, iN, lA, lS, lM, lD, lR, m0, hw.k, w33, ew]) ?_
    clear ew
    have f1 : Fsc M v (vu w M 32 (q + 1)) := hf.vu (by decide)
    have k1 : Km S v (vu w M 32 (q + 1)) := hkm.vu (by rw [h.k]; rfl)
    have y33 : vu w M 32 (q + 1) M 33 = q := by rw [vu_ne (by simp)]; exact w33
    have y32 : vu w M 32 (q + 1) M 32 = q + 1 := vu_is
    generalize vu w M 32 (q + 1) = w1 at *
    have hw1 := h.keep k1.p
    have w31 : w1 M 31 = n := by rw [f1 _ _ (by omega)]; exact hn
    have wbf : w1 (M + 28) = v (M + 28) := funext fun k => f1 _ _ (by omega)
    have hsg := m_signAt hw1 (p := q) (by have := hnb.1; omega) (by omega)
    rw [w31, wbf] at hsg
    have hnb1 := hnb.1
    by_cases c : q < n
    · rw [if_pos c] at hsg
      have cn : ¬ n ≤ q := by omega
      generalize hx : v (M + 28) q = x at *
      refine ws_step (L' := lu L' 1 x) (w := w1) (by simp only [wE_I, wE_V, wE_F, wE_A, wE_N, wE_1, wE_2, wE_D, wE_B, wE_If, wE_C, wE_CV, wE_SL, wE_SA, wA_0, wA_1, wC_B, wC_E, wC_And, wC_Or, wC_Not, wS_Skip, wS_Brk, wS_Cnt, wS_RetV, wS_Ret, wS_Seq, wS_Set, wS_Inc, wS_Do, wS_Put, wS_PutC, wS_Arr, wS_ArrC, wS_If, wS_Sw, wS_F0, wS_F1, wM_q, lu_ap, aL_ap, ct_0, ct_1, ct_2, ct_3, ct_4, ct_5, headD_1, List.mem_cons, List.not_mem_nil, or_false, false_or, or_true, true_or, true_and, and_true, false_and, and_false, not_true_eq_false, not_false_eq_true, if_true, if_false, nr_20, nr_24, nr_40, nr_41, nr_44, pt_lt, pt_ge, pt_eq, pt_ne, pt_gt, pt_le, pt_E, pt_N, pt_F, ite_10, ite_11, ne_eq, and_self, or_self, decide_true, decide_false, Bool.not_true, Bool.not_false, Bool.false_eq_true, Nat.reduceEqDiff, Nat.reduceAdd, Int.reduceEq, Int.reduceLT, Int.reduceLE, Int.reduceNeg, Int.reduceAdd, Int.reduceSub, Int.reduceMul, reduceCtorEq, iA, iS, iM, iD, iR, iN, lA, lS, lM, lD, lR, m0, hw1.k, y33, wM_of hsg]) ?_
      have l0 : lu L' 1 x 0 = M := by simp [lu_ap, m0]
      have l1 : lu L' 1 x 1 = x := by simp [lu_ap]
      generalize lu L' 1 x = L1 at *
      by_cases cl : isLe x
      · have nd : ¬ isDg x := by omega
        have hsw := m_scanWord hw1 (hl.keep f1) (p := q) (n := n) w31 hn2 (by omega) y33 (by rw [wbf, hx]; exact cl)
        rw [wbf] at hsw
        simp only [wE_I, wE_V, wE_F, wE_A, wE_N, wE_1, wE_2, wE_D, wE_B, wE_If, wE_C, wE_CV, wE_SL, wE_SA, wA_0, wA_1, wC_B, wC_E, wC_And, wC_Or, wC_Not, wS_Skip, wS_Brk, wS_Cnt, wS_RetV, wS_Ret, wS_Seq, wS_Set, wS_Inc, wS_Do, wS_Put, wS_PutC, wS_Arr, wS_ArrC, wS_If, wS_Sw, wS_F0, wS_F1, wM_q, lu_ap, aL_ap, ct_0, ct_1, ct_2, ct_3, ct_4, ct_5, headD_1, List.mem_cons, List.not_mem_nil, or_false, false_or, or_true, true_or, true_and, and_true, false_and, and_false, not_true_eq_false, not_false_eq_true, if_true, if_false, nr_20, nr_24, nr_40, nr_41, nr_44, pt_lt, pt_ge, pt_eq, pt_ne, pt_gt, pt_le, pt_E, pt_N, pt_F, ite_10, ite_11, ne_eq, and_self, or_self, decide_true, decide_false, Bool.not_true, Bool.not_false, Bool.false_eq_true, Nat.reduceEqDiff, Nat.reduceAdd, Int.reduceEq, Int.reduceLT, Int.reduceLE, Int.reduceNeg, Int.reduceAdd, Int.reduceSub, Int.reduceMul, reduceCtorEq, iA, iS, iM, iD, iR, iN, lA, lS, lM, lD, lR, l0, l1, hw1.k, y33, w31, cn, wM_of (m_isLe1 cl)]
        refine wM_mono hsw ?_
        rintro r' u e ⟨r, ⟨u33, u34, u32, hrn⟩, hwr, hfu⟩
        refine ⟨⟨q, r, hnb, ⟨u33, u32⟩, fun z => by omega, fun _ => ?_⟩, f1.tr hfu⟩
        rw [hx]
        unfold isSp
        rw [hx]
        exact ⟨⟨fun _ => hrn, fun z => absurd z nd, fun z => absurd cl z⟩, fun _ => ⟨u34, hwr⟩, fun z => absurd z nd, fun z => absurd cl z⟩
      · by_cases cd : isDg x
        · have hsn := m_scanNumber hw1 (p := q) (n := n) w31 hn2 (by omega) y33 (by rw [wbf, hx]; exact cd)
          rw [wbf] at hsn
          simp only [wE_I, wE_V, wE_F, wE_A, wE_N, wE_1, wE_2, wE_D, wE_B, wE_If, wE_C, wE_CV, wE_SL, wE_SA, wA_0, wA_1, wC_B, wC_E, wC_And, wC_Or, wC_Not, wS_Skip, wS_Brk, wS_Cnt, wS_RetV, wS_Ret, wS_Seq, wS_Set, wS_Inc, wS_Do, wS_Put, wS_PutC, wS_Arr, wS_ArrC, wS_If, wS_Sw, wS_F0, wS_F1, wM_q, lu_ap, aL_ap, ct_0, ct_1, ct_2, ct_3, ct_4, ct_5, headD_1, List.mem_cons, List.not_mem_nil, or_false, false_or, or_true, true_or, true_and, and_true, false_and, and_false, not_true_eq_false, not_false_eq_true, if_true, if_false, nr_20, nr_24, nr_40, nr_41, nr_44, pt_lt, pt_ge, pt_eq, pt_ne, pt_gt, pt_le, pt_E, pt_N, pt_F, ite_10, ite_11, ne_eq, and_self, or_self, decide_true, decide_false, Bool.not_true, Bool.not_false, Bool.false_eq_true, Nat.reduceEqDiff, Nat.reduceAdd, Int.reduceEq, Int.reduceLT, Int.reduceLE, Int.reduceNeg, Int.reduceAdd, Int.reduceSub, Int.reduceMul, reduceCtorEq, iA, iS, iM, iD, iR, iN, lA, lS, lM, lD, lR, l0, l1, hw1.k, y33, w31, cn, wM_of (m_isLe0 cl), wM_of (m_isDg1 cd)]
          refine wM_mono hsn ?_
          rintro r' u e ⟨r, ⟨u33, u34, u32, hrn⟩, hnu, hfu⟩
          refine ⟨⟨q, r, hnb, ⟨u33, u32⟩, fun z => by omega, fun _ => ?_⟩, f1.tr hfu⟩
          rw [hx]
          unfold isSp
          rw [hx]
          exact ⟨⟨fun z => absurd z cl, fun _ => hrn, fun _ z => absurd cd z⟩, fun z => absurd z cl, fun _ => ⟨u34, hnu⟩, fun _ z => absurd cd z⟩
        · have fin : ∀ y, (isSg x → y = 4) → (¬ isSg x → y = 1) → (∃ q r, isNb (v (M + 28)) n p q ∧ Std (vu w1 M 34 y) M (v (M + 28)) n q r) ∧ Fsc M v (vu w1 M 34 y) := fun y h1 h2 => by
            refine ⟨⟨q, q + 1, hnb, ⟨by rw [vu_ne (by simp)]; exact y33, by rw [vu_ne (by simp)]; exact y32⟩, fun z => by omega, fun _ => ?_⟩, f1.vu (by decide)⟩
            rw [hx]
            unfold isSp
            rw [hx, vu_is]
            exact ⟨⟨fun z => absurd z cl, fun z => absurd z cd, fun _ _ => rfl⟩, fun z => absurd z cl, fun z => absurd z cd, fun _ _ => ⟨h1, h2⟩⟩
          by_cases cs : isSg x
          · have := fin 4 (fun _ => rfl) (fun z => absurd cs z)
            simp only [wE_I, wE_V, wE_F, wE_A, wE_N, wE_1, wE_2, wE_D, wE_B, wE_If, wE_C, wE_CV, wE_SL, wE_SA, wA_0, wA_1, wC_B, wC_E, wC_And, wC_Or, wC_Not, wS_Skip, wS_Brk, wS_Cnt, wS_RetV, wS_Ret, wS_Seq, wS_Set, wS_Inc, wS_Do, wS_Put, wS_PutC, wS_Arr, wS_ArrC, wS_If, wS_Sw, wS_F0, wS_F1, wM_q, lu_ap, aL_ap, ct_0, ct_1, ct_2, ct_3, ct_4, ct_5, headD_1, List.mem_cons, List.not_mem_nil, or_false, false_or, or_true, true_or, true_and, and_true, false_and, and_false, not_true_eq_false, not_false_eq_true, if_true, if_false, nr_20, nr_24, nr_40, nr_41, nr_44, pt_lt, pt_ge, pt_eq, pt_ne, pt_gt, pt_le, pt_E, pt_N, pt_F, ite_10, ite_11, ne_eq, and_self, or_self, decide_true, decide_false, Bool.not_true, Bool.not_false, Bool.false_eq_true, Nat.reduceEqDiff, Nat.reduceAdd, Int.reduceEq, Int.reduceLT, Int.reduceLE, Int.reduceNeg, Int.reduceAdd, Int.reduceSub, Int.reduceMul, reduceCtorEq, iA, iS, iM, iD, iR, iN, lA, lS, lM, lD, lR, l0, l1, hw1.k, y33, w31, cn, wM_of (m_isLe0 cl), wM_of (m_isDg0 cd), wM_of (m_isSg1 cs)]
            exact this
          · have := fin 1 (fun z => absurd z cs) (fun _ => rfl)
            simp only [wE_I, wE_V, wE_F, wE_A, wE_N, wE_1, wE_2, wE_D, wE_B, wE_If, wE_C, wE_CV, wE_SL, wE_SA, wA_0, wA_1, wC_B, wC_E, wC_And, wC_Or, wC_Not, wS_Skip, wS_Brk, wS_Cnt, wS_RetV, wS_Ret, wS_Seq, wS_Set, wS_Inc, wS_Do, wS_Put, wS_PutC, wS_Arr, wS_ArrC, wS_If, wS_Sw, wS_F0, wS_F1, wM_q, lu_ap, aL_ap, ct_0, ct_1, ct_2, ct_3, ct_4, ct_5, headD_1, List.mem_cons, List.not_mem_nil, or_false, false_or, or_true, true_or, true_and, and_true, false_and, and_false, not_true_eq_false, not_false_eq_true, if_true, if_false, nr_20, nr_24, nr_40, nr_41, nr_44, pt_lt, pt_ge, pt_eq, pt_ne, pt_gt, pt_le, pt_E, pt_N, pt_F, ite_10, ite_11, ne_eq, and_self, or_self, decide_true, decide_false, Bool.not_true, Bool.not_false, Bool.false_eq_true, Nat.reduceEqDiff, Nat.reduceAdd, Int.reduceEq, Int.reduceLT, Int.reduceLE, Int.reduceNeg, Int.reduceAdd, Int.reduceSub, Int.reduceMul, reduceCtorEq, iA, iS, iM, iD, iR, iN, lA, lS, lM, lD, lR, l0, l1, hw1.k, y33, w31, cn, wM_of (m_isLe0 cl), wM_of (m_isDg0 cd), wM_of (m_isSg0 cs)]
            exact this
    · rw [if_neg c] at hsg
      have cn : n ≤ q := by omega
      have hqe : q = n := by omega
      refine ws_step (L' := lu L' 1 0) (w := w1) (by simp only [wE_I, wE_V, wE_F, wE_A, wE_N, wE_1, wE_2, wE_D, wE_B, wE_If, wE_C, wE_CV, wE_SL, wE_SA, wA_0, wA_1, wC_B, wC_E, wC_And, wC_Or, wC_Not, wS_Skip, wS_Brk, wS_Cnt, wS_RetV, wS_Ret, wS_Seq, wS_Set, wS_Inc, wS_Do, wS_Put, wS_PutC, wS_Arr, wS_ArrC, wS_If, wS_Sw, wS_F0, wS_F1, wM_q, lu_ap, aL_ap, ct_0, ct_1, ct_2, ct_3, ct_4, ct_5, headD_1, List.mem_cons, List.not_mem_nil, or_false, false_or, or_true, true_or, true_and, and_true, false_and, and_false, not_true_eq_false, not_false_eq_true, if_true, if_false, nr_20, nr_24, nr_40, nr_41, nr_44, pt_lt, pt_ge, pt_eq, pt_ne, pt_gt, pt_le, pt_E, pt_N, pt_F, ite_10, ite_11, ne_eq, and_self, or_self, decide_true, decide_false, Bool.not_true, Bool.not_false, Bool.false_eq_true, Nat.reduceEqDiff, Nat.reduceAdd, Int.reduceEq, Int.reduceLT, Int.reduceLE, Int.reduceNeg, Int.reduceAdd, Int.reduceSub, Int.reduceMul, reduceCtorEq, iA, iS, iM, iD, iR, iN, lA, lS, lM, lD, lR, m0, hw1.k, y33, wM_of hsg]) ?_
      have l0 : lu L' 1 0 0 = M := by simp [lu_ap, m0]
      generalize lu L' 1 0 = L1 at *
      have n31 : ∀ z, vu w1 M 32 z M 33 = q := fun z => by rw [vu_ne (by simp)]; exact y33
      simp only [wE_I, wE_V, wE_F, wE_A, wE_N, wE_1, wE_2, wE_D, wE_B, wE_If, wE_C, wE_CV, wE_SL, wE_SA, wA_0, wA_1, wC_B, wC_E, wC_And, wC_Or, wC_Not, wS_Skip, wS_Brk, wS_Cnt, wS_RetV, wS_Ret, wS_Seq, wS_Set, wS_Inc, wS_Do, wS_Put, wS_PutC, wS_Arr, wS_ArrC, wS_If, wS_Sw, wS_F0, wS_F1, wM_q, lu_ap, aL_ap, ct_0, ct_1, ct_2, ct_3, ct_4, ct_5, headD_1, List.mem_cons, List.not_mem_nil, or_false, false_or, or_true, true_or, true_and, and_true, false_and, and_false, not_true_eq_false, not_false_eq_true, if_true, if_false, nr_20, nr_24, nr_40, nr_41, nr_44, pt_lt, pt_ge, pt_eq, pt_ne, pt_gt, pt_le, pt_E, pt_N, pt_F, ite_10, ite_11, ne_eq, and_self, or_self, decide_true, decide_false, Bool.not_true, Bool.not_false, Bool.false_eq_true, Nat.reduceEqDiff, Nat.reduceAdd, Int.reduceEq, Int.reduceLT, Int.reduceLE, Int.reduceNeg, Int.reduceAdd, Int.reduceSub, Int.reduceMul, reduceCtorEq, iA, iS, iM, iD, iR, iN, lA, lS, lM, lD, lR, l0, hw1.k, y33, w31, cn]
      refine ⟨⟨q, q, hnb, ⟨by rw [vu_ne (by simp), vu_ne (by simp)]; exact y33, by rw [vu_ne (by simp), vu_is]⟩, fun _ => ⟨vu_is, hqe⟩, fun z => absurd z c⟩, (f1.vu (by decide)).vu (by decide)⟩
end MN
