/-! A READING: the class's measures hear and gather -/
theorem rtF_c {v w : QV} {M B later x m : Int} {f : Int → Int} {p t : Int} (hp : PRm v p M (4 * B + m)) (hw : ∀ k, w p k = v p k) (h0 : w t 0 = f (3 + 12 * m + 0)) (h1 : w t 1 = f (3 + 12 * m + 1)) (h2 : w t 2 = f (3 + 12 * m + 2)) (h3 : w t 3 = f (3 + 12 * m + 3)) : @ite Int (rK (w t 0) (w t 1) (w t 2) (w p 0) (w t 3) (w p 1) (w p 2) later x) (Classical.propDecidable _) (rI_ (w p 0) (w t 3) (w p 1) (w p 2) later x) (-2147483648) = rtF v M B later x m f := by
  obtain ⟨p0, p1, -⟩ := hp
  unfold rtF
  rw [hw, hw, hw, h0, h1, h2, h3, p0.1]
  by_cases c : v p 0 = 2
  · obtain ⟨q1, q2, -⟩ := p1 c
    rw [q1, q2]
  · have c' : ¬ v (M + 8) (4 * B + m) = 2 := by rw [← p0.1]; exact c
    have eI : rI_ (v (M + 8) (4 * B + m)) (f (3 + 12 * m + 3)) (v p 1) (v p 2) later x = rI_ (v (M + 8) (4 * B + m)) (f (3 + 12 * m + 3)) (v (M + 9) (4 * B + m)) (v (M + 10) (4 * B + m)) later x := by
      unfold rI_
      split
      · rfl
      · split
        · rfl
        · omega
    have eN : isN (v (M + 8) (4 * B + m)) (v p 2) x ↔ isN (v (M + 8) (4 * B + m)) (v (M + 10) (4 * B + m)) x := by
      unfold isN
      exact ⟨fun q => ⟨q.1, fun z => absurd z c'⟩, fun q => ⟨q.1, fun z => absurd z c'⟩⟩
    have eK : rK (f (3 + 12 * m + 0)) (f (3 + 12 * m + 1)) (f (3 + 12 * m + 2)) (v (M + 8) (4 * B + m)) (f (3 + 12 * m + 3)) (v p 1) (v p 2) later x ↔ rK (f (3 + 12 * m + 0)) (f (3 + 12 * m + 1)) (f (3 + 12 * m + 2)) (v (M + 8) (4 * B + m)) (f (3 + 12 * m + 3)) (v (M + 9) (4 * B + m)) (v (M + 10) (4 * B + m)) later x := by
      unfold rK
      rw [eI, eN]
    rw [eI]
    by_cases d : rK (f (3 + 12 * m + 0)) (f (3 + 12 * m + 1)) (f (3 + 12 * m + 2)) (v (M + 8) (4 * B + m)) (f (3 + 12 * m + 3)) (v (M + 9) (4 * B + m)) (v (M + 10) (4 * B + m)) later x
    · rw [if_pos d, if_pos (eK.mpr d)]
    · rw [if_neg d, if_neg (fun q => d (eK.mp q))]
theorem HMm.rok {v w : QV} {p t M k K later : Int} {f : Int → Int} {g : Int} (hp : PRm v p M k) (hw : ∀ k, w p k = v p k) (h : HMm w p t f g K) (hl : 1 ≤ later ∧ later ≤ 1000) : rOk (w t 1) (w t 2) (w p 0) (w t 3) (w p 1) (w p 2) later := by
  obtain ⟨r1, r2, -⟩ := hp
  obtain ⟨t1, t2, t3, -⟩ := h
  rw [hw, hw] at t3
  rw [hw, hw, hw]
  refine ⟨r1.2, by omega, by omega, fun q => ?_, hl⟩
  have := r2 q
  exact ⟨this.2.2.1, this.2.2.2.1, this.2.2.2.2, t3.2.2.2 q⟩
theorem HMm.fih {v w : QV} {p t M B m K later : Int} {f : Int → Int} (hp : PRm v p M (4 * B + m)) (hw : ∀ k, w p k = v p k) (h : HMm w p t f (3 + 12 * m) K) (hl : 1 ≤ later ∧ later ≤ 1000) : FIh v M B later m f := by
  have hr := h.rok hp hw hl
  obtain ⟨r1, r2, -⟩ := hp
  obtain ⟨t1, t2, t3, -⟩ := h
  obtain ⟨q1, q2, q3, q4, q5⟩ := hr
  unfold FIh
  rw [← t2.1, ← t2.2.1, ← t3.1, ← r1.1]
  rw [hw] at q1 q4
  refine ⟨q1, q2, q3, fun q => ?_, q5⟩
  have := q4 q
  rw [hw, hw, (r2 q).1, (r2 q).2.1] at this
  exact this
section CH
variable {S : QS} {v w : QV} {b M P B s : Int} {f F : Int → Int}
theorem c_hear {p t m x K later : Int} (ht : S.1 t = 4) (hp : S.1 p = 3) (hpt : p ≠ t) (hR : PRm v p M (4 * B + m)) (hwp : ∀ k, w p k = v p k) (hl : 1 ≤ later ∧ later ≤ 1000) (h : HMm w p t f (3 + 12 * m) K) (hF4 : F (3 + 12 * m + 4) = rtF v M B later x m f) (hF3 : F (3 + 12 * m + 3) = if v (M + 8) (4 * B + m) = 2 then @ite Int (isN (v (M + 8) (4 * B + m)) (v (M + 10) (4 * B + m)) x) (Classical.propDecidable _) x (-1) else f (3 + 12 * m + 3)) (hF : ∀ i, 0 ≤ i → i < 12 → i ≠ 3 → i ≠ 4 → F (3 + 12 * m + i) = f (3 + 12 * m + i)) : wM mX3_hear [t, p, later, x] S w (fun _ w' => HMm w' p t F (3 + 12 * m) K ∧ ∀ q k, q ≠ t → w' q k = w q k) := by
  have hr := h.rok hR hwp hl
  have hfih := h.fih hR hwp hl
  have htv := rtF_tv (x := x) hfih
  have hrb := @q_rateBy S w t p x later ht hp hr (Classical.propDecidable _)
  obtain ⟨q0, q1, q3, q4, q5, q6, q7, q8⟩ := h
  rw [rtF_c hR hwp q0.1 q1.1 q1.2.1 q3.1] at hrb
  obtain ⟨r1, r2, -⟩ := hR
  generalize rtF v M B later x m f = r at *
  have wr : ∀ k, vu w t 4 r p k = v p k := fun k => by rw [vu_ne (fun e => hpt e.1)]; exact hwp k
  have hnm := q_numberMost (S := S) (v := vu w t 4 r) hp (fun q => by rw [wr] at q ⊢; have := r2 q; omega)
  rw [wr, wr] at hnm
  have fin : ∀ y, F (3 + 12 * m + 3) = y → (-1 ≤ y ∧ y ≤ 999999 ∧ (v p 0 = 2 → y < 2 ^ (v p 2).toNat)) → ∀ w', (∀ k, w' t k = if k = 3 then y else if k = 4 then r else w t k) → (∀ q k, q ≠ t → w' q k = w q k) → HMm w' p t F (3 + 12 * m) K := by
    intro y hy hyb w' hw' hwf
    unfold HMm
    rw [hw' 0, hw' 1, hw' 2, hw' 3, hw' 4, hw' 5, hw' 6, hw' 7, hw' 8, hw' 9, hF 0 (by decide) (by decide) (by decide) (by decide), hF 1 (by decide) (by decide) (by decide) (by decide), hF 2 (by decide) (by decide) (by decide) (by decide), hy, hF4, hF 5 (by decide) (by decide) (by decide) (by decide), hF 6 (by decide) (by decide) (by decide) (by decide), hF 7 (by decide) (by decide) (by decide) (by decide), hF 8 (by decide) (by decide) (by decide) (by decide), hF 9 (by decide) (by decide) (by decide) (by decide), hwf p 0 hpt, hwf p 2 hpt, hwp, hwp]
    simp only [Int.reduceEq, if_true, if_false]
    exact ⟨q0, q1, ⟨trivial, hyb⟩, ⟨trivial, htv⟩, q5, q6, q7, q8⟩
  have wF : ∀ y, (∀ k, vu (vu w t 4 r) t 3 y t k = if k = 3 then y else if k = 4 then r else w t k) ∧ ∀ q k, q ≠ t → vu (vu w t 4 r) t 3 y q k = w q k := fun y => ⟨fun k => by simp only [vu_ap, true_and], fun q k hq => by rw [vu_ne (fun e => hq e.1), vu_ne (fun e => hq e.1)]⟩
  by_cases c : v p 0 = 2
  · have c8 : v (M + 8) (4 * B + m) = 2 := by rw [← r1.1]; exact c
    obtain ⟨s1, s2, s3, s4, s5⟩ := r2 c
    have hb := p2_b (k := v p 2) (by omega)
    rw [if_pos c8, c8] at hF3
    rw [if_pos c] at hnm
    by_cases ci : isN 2 (v (M + 10) (4 * B + m)) x
    · rw [if_pos ci] at hF3
      obtain ⟨ci1, ci2⟩ := ci
      have ci3 := ci2 rfl
      rw [← s2] at ci3
      have n1 : ¬ x < 0 := by omega
      have n2 : ¬ (if p2 (v p 2) - 1 < 999999 then p2 (v p 2) - 1 else 999999) < x := by split <;> omega
      simp only [mX3_hear, sX3_hear, wE_I, wE_V, wE_F, wE_A, wE_N, wE_1, wE_2, wE_D, wE_B, wE_If, wE_C, wE_CV, wE_SL, wE_SA, wA_0, wA_1, wC_B, wC_E, wC_And, wC_Or, wC_Not, wS_Skip, wS_Brk, wS_Cnt, wS_RetV, wS_Ret, wS_Seq, wS_Set, wS_Inc, wS_Do, wS_Put, wS_PutC, wS_Arr, wS_ArrC, wS_If, wS_Sw, wS_F0, wS_F1, wM_q, lu_ap, aL_ap, ct_0, ct_1, ct_2, ct_3, ct_4, ct_5, headD_1, List.mem_cons, List.not_mem_nil, or_false, false_or, or_true, true_or, true_and, and_true, false_and, and_false, not_true_eq_false, not_false_eq_true, if_true, if_false, nr_20, nr_24, nr_40, nr_41, nr_44, pt_lt, pt_ge, pt_eq, pt_ne, pt_gt, pt_le, pt_E, pt_N, pt_F, ite_10, ite_11, ne_eq, and_self, or_self, decide_true, decide_false, Bool.not_true, Bool.not_false, Bool.false_eq_true, Nat.reduceEqDiff, Nat.reduceAdd, Int.reduceEq, Int.reduceLT, Int.reduceLE, Int.reduceNeg, Int.reduceAdd, Int.reduceSub, Int.reduceMul, reduceCtorEq, iA, iS, iM, iD, iR, iN, lA, lS, lM, lD, lR, ht, hp, wM_of hrb, wr, c, n1, n2, wM_of hnm]
      exact ⟨fin x hF3 ⟨by omega, by omega, fun _ => ci3⟩ _ (wF x).1 (wF x).2, (wF x).2⟩
    · rw [if_neg ci] at hF3
      have hpos : 0 < (2 : Int) ^ (v p 2).toNat := Int.pow_pos (by decide)
      by_cases n1 : x < 0
      · simp only [mX3_hear, sX3_hear, wE_I, wE_V, wE_F, wE_A, wE_N, wE_1, wE_2, wE_D, wE_B, wE_If, wE_C, wE_CV, wE_SL, wE_SA, wA_0, wA_1, wC_B, wC_E, wC_And, wC_Or, wC_Not, wS_Skip, wS_Brk, wS_Cnt, wS_RetV, wS_Ret, wS_Seq, wS_Set, wS_Inc, wS_Do, wS_Put, wS_PutC, wS_Arr, wS_ArrC, wS_If, wS_Sw, wS_F0, wS_F1, wM_q, lu_ap, aL_ap, ct_0, ct_1, ct_2, ct_3, ct_4, ct_5, headD_1, List.mem_cons, List.not_mem_nil, or_false, false_or, or_true, true_or, true_and, and_true, false_and, and_false, not_true_eq_false, not_false_eq_true, if_true, if_false, nr_20, nr_24, nr_40, nr_41, nr_44, pt_lt, pt_ge, pt_eq, pt_ne, pt_gt, pt_le, pt_E, pt_N, pt_F, ite_10, ite_11, ne_eq, and_self, or_self, decide_true, decide_false, Bool.not_true, Bool.not_false, Bool.false_eq_true, Nat.reduceEqDiff, Nat.reduceAdd, Int.reduceEq, Int.reduceLT, Int.reduceLE, Int.reduceNeg, Int.reduceAdd, Int.reduceSub, Int.reduceMul, reduceCtorEq, iA, iS, iM, iD, iR, iN, lA, lS, lM, lD, lR, ht, hp, wM_of hrb, wr, c, n1]
        exact ⟨fin (-1) hF3 ⟨by omega, by omega, fun _ => by omega⟩ _ (wF (-1)).1 (wF (-1)).2, (wF (-1)).2⟩
      · have n2 : (if p2 (v p 2) - 1 < 999999 then p2 (v p 2) - 1 else 999999) < x := by
          by_cases z : x ≤ 999999
          · have : ¬ x < p2 (v p 2) := fun q => ci ⟨⟨by omega, z⟩, fun _ => by rw [← s2]; exact q⟩
            split <;> omega
          · split <;> omega
        simp only [mX3_hear, sX3_hear, wE_I, wE_V, wE_F, wE_A, wE_N, wE_1, wE_2, wE_D, wE_B, wE_If, wE_C, wE_CV, wE_SL, wE_SA, wA_0, wA_1, wC_B, wC_E, wC_And, wC_Or, wC_Not, wS_Skip, wS_Brk, wS_Cnt, wS_RetV, wS_Ret, wS_Seq, wS_Set, wS_Inc, wS_Do, wS_Put, wS_PutC, wS_Arr, wS_ArrC, wS_If, wS_Sw, wS_F0, wS_F1, wM_q, lu_ap, aL_ap, ct_0, ct_1, ct_2, ct_3, ct_4, ct_5, headD_1, List.mem_cons, List.not_mem_nil, or_false, false_or, or_true, true_or, true_and, and_true, false_and, and_false, not_true_eq_false, not_false_eq_true, if_true, if_false, nr_20, nr_24, nr_40, nr_41, nr_44, pt_lt, pt_ge, pt_eq, pt_ne, pt_gt, pt_le, pt_E, pt_N, pt_F, ite_10, ite_11, ne_eq, and_self, or_self, decide_true, decide_false, Bool.not_true, Bool.not_false, Bool.false_eq_true, Nat.reduceEqDiff, Nat.reduceAdd, Int.reduceEq, Int.reduceLT, Int.reduceLE, Int.reduceNeg, Int.reduceAdd, Int.reduceSub, Int.reduceMul, reduceCtorEq, iA, iS, iM, iD, iR, iN, lA, lS, lM, lD, lR, ht, hp, wM_of hrb, wr, c, n1, n2, wM_of hnm]
        exact ⟨fin (-1) hF3 ⟨by omega, by omega, fun _ => by omega⟩ _ (wF (-1)).1 (wF (-1)).2, (wF (-1)).2⟩
  · have c8 : ¬ v (M + 8) (4 * B + m) = 2 := by rw [← r1.1]; exact c
    rw [if_neg c8] at hF3
    simp only [mX3_hear, sX3_hear, wE_I, wE_V, wE_F, wE_A, wE_N, wE_1, wE_2, wE_D, wE_B, wE_If, wE_C, wE_CV, wE_SL, wE_SA, wA_0, wA_1, wC_B, wC_E, wC_And, wC_Or, wC_Not, wS_Skip, wS_Brk, wS_Cnt, wS_RetV, wS_Ret, wS_Seq, wS_Set, wS_Inc, wS_Do, wS_Put, wS_PutC, wS_Arr, wS_ArrC, wS_If, wS_Sw, wS_F0, wS_F1, wM_q, lu_ap, aL_ap, ct_0, ct_1, ct_2, ct_3, ct_4, ct_5, headD_1, List.mem_cons, List.not_mem_nil, or_false, false_or, or_true, true_or, true_and, and_true, false_and, and_false, not_true_eq_false, not_false_eq_true, if_true, if_false, nr_20, nr_24, nr_40, nr_41, nr_44, pt_lt, pt_ge, pt_eq, pt_ne, pt_gt, pt_le, pt_E, pt_N, pt_F, ite_10, ite_11, ne_eq, and_self, or_self, decide_true, decide_false, Bool.not_true, Bool.not_false, Bool.false_eq_true, Nat.reduceEqDiff, Nat.reduceAdd, Int.reduceEq, Int.reduceLT, Int.reduceLE, Int.reduceNeg, Int.reduceAdd, Int.reduceSub, Int.reduceMul, reduceCtorEq, iA, iS, iM, iD, iR, iN, lA, lS, lM, lD, lR, ht, hp, wM_of hrb, wr, c]
    have e3 : w t 3 = f (3 + 12 * m + 3) := q3.1
    have q3' := q3.2
    rw [hwp, hwp] at q3'
    refine ⟨fin (w t 3) (by rw [hF3, e3]) q3' _ (fun k => ?_) (fun q k hq => by rw [vu_ne (fun e => hq e.1)]), fun q k hq => by rw [vu_ne (fun e => hq e.1)]⟩
    simp only [vu_ap, true_and]
    by_cases k3 : k = 3
    · rw [if_pos k3, if_neg (by omega), k3]
    · rw [if_neg k3]
theorem c_gather {p t A K u : Int} (ht : S.1 t = 4) (hpt : p ≠ t) (hu : 0 ≤ u ∧ u ≤ 60) (hK : K ≤ 60) (h : HMm w p t f A K) (h6 : F (A + 6) = if f (A + 4) = -2147483648 then f (A + 6) else f (A + 6) + f (A + 4) * u) (h7 : F (A + 7) = if f (A + 4) = -2147483648 then f (A + 7) else f (A + 7) + u) (hF : ∀ i, 0 ≤ i → i < 12 → i ≠ 6 → i ≠ 7 → F (A + i) = f (A + i)) : wM mX3_gather [t, u] S w (fun _ w' => HMm w' p t F A (K + u) ∧ ∀ q k, q ≠ t → w' q k = w q k) := by
  obtain ⟨q0, q1, q3, q4, q5, q6, q7, q8⟩ := h
  by_cases c : f (A + 4) = -2147483648
  · have c4 : w t 4 = -2147483648 := by rw [q4.1]; exact c
    rw [if_pos c] at h6 h7
    simp only [mX3_gather, sX3_gather, wE_I, wE_V, wE_F, wE_A, wE_N, wE_1, wE_2, wE_D, wE_B, wE_If, wE_C, wE_CV, wE_SL, wE_SA, wA_0, wA_1, wC_B, wC_E, wC_And, wC_Or, wC_Not, wS_Skip, wS_Brk, wS_Cnt, wS_RetV, wS_Ret, wS_Seq, wS_Set, wS_Inc, wS_Do, wS_Put, wS_PutC, wS_Arr, wS_ArrC, wS_If, wS_Sw, wS_F0, wS_F1, wM_q, lu_ap, aL_ap, ct_0, ct_1, ct_2, ct_3, ct_4, ct_5, headD_1, List.mem_cons, List.not_mem_nil, or_false, false_or, or_true, true_or, true_and, and_true, false_and, and_false, not_true_eq_false, not_false_eq_true, if_true, if_false, nr_20, nr_24, nr_40, nr_41, nr_44, pt_lt, pt_ge, pt_eq, pt_ne, pt_gt, pt_le, pt_E, pt_N, pt_F, ite_10, ite_11, ne_eq, and_self, or_self, decide_true, decide_false, Bool.not_true, Bool.not_false, Bool.false_eq_true, Nat.reduceEqDiff, Nat.reduceAdd, Int.reduceEq, Int.reduceLT, Int.reduceLE, Int.reduceNeg, Int.reduceAdd, Int.reduceSub, Int.reduceMul, reduceCtorEq, iA, iS, iM, iD, iR, iN, lA, lS, lM, lD, lR, ht, c4]
    refine ⟨?_, by simp⟩
    unfold HMm
    rw [hF 0 (by decide) (by decide) (by decide) (by decide), hF 1 (by decide) (by decide) (by decide) (by decide), hF 2 (by decide) (by decide) (by decide) (by decide), hF 3 (by decide) (by decide) (by decide) (by decide), hF 4 (by decide) (by decide) (by decide) (by decide), hF 5 (by decide) (by decide) (by decide) (by decide), h6, h7, hF 8 (by decide) (by decide) (by decide) (by decide), hF 9 (by decide) (by decide) (by decide) (by decide)]
    exact ⟨q0, q1, q3, q4, q5, ⟨q6.1, q6.2.1, by omega⟩, q7, q8⟩
  · have c4 : ¬ w t 4 = -2147483648 := by rw [q4.1]; exact c
    rw [if_neg c] at h6 h7
    have r4 : 0 ≤ w t 4 ∧ w t 4 ≤ 999999000 := by have := q4.2; unfold tv at this; omega
    have b1 := Int.mul_le_mul_of_nonneg_right r4.2 hu.1
    have b2 := Int.mul_nonneg r4.1 hu.1
    rw [← q4.1] at h6
    generalize hy : w t 4 * u = y at *
    have i1 : w64 y = y := w64_e (by omega)
    have i2 : w64 (w t 7 + y) = w t 7 + y := by clear i1; exact w64_e (by omega)
    have i3 : w32 (w t 6 + u) = w t 6 + u := by clear i1 i2; exact w32_e (by omega)
    have n6 : ∀ z, vu w t 7 z t 6 = w t 6 := fun z => by rw [vu_ne (by simp)]
    have n4 : ∀ z, vu w t 7 z t 4 = w t 4 := fun z => by rw [vu_ne (by simp)]
    simp only [mX3_gather, sX3_gather, wE_I, wE_V, wE_F, wE_A, wE_N, wE_1, wE_2, wE_D, wE_B, wE_If, wE_C, wE_CV, wE_SL, wE_SA, wA_0, wA_1, wC_B, wC_E, wC_And, wC_Or, wC_Not, wS_Skip, wS_Brk, wS_Cnt, wS_RetV, wS_Ret, wS_Seq, wS_Set, wS_Inc, wS_Do, wS_Put, wS_PutC, wS_Arr, wS_ArrC, wS_If, wS_Sw, wS_F0, wS_F1, wM_q, lu_ap, aL_ap, ct_0, ct_1, ct_2, ct_3, ct_4, ct_5, headD_1, List.mem_cons, List.not_mem_nil, or_false, false_or, or_true, true_or, true_and, and_true, false_and, and_false, not_true_eq_false, not_false_eq_true, if_true, if_false, nr_20, nr_24, nr_40, nr_41, nr_44, pt_lt, pt_ge, pt_eq, pt_ne, pt_gt, pt_le, pt_E, pt_N, pt_F, ite_10, ite_11, ne_eq, and_self, or_self, decide_true, decide_false, Bool.not_true, Bool.not_false, Bool.false_eq_true, Nat.reduceEqDiff, Nat.reduceAdd, Int.reduceEq, Int.reduceLT, Int.reduceLE, Int.reduceNeg, Int.reduceAdd, Int.reduceSub, Int.reduceMul, reduceCtorEq, iA, iS, iM, iD, iR, iN, lA, lS, lM, lD, lR, ht, c4, hy, i1, i2, n6, i3]
    clear i1 i2 i3
    refine ⟨?_, fun q k hq => by rw [vu_ne (fun e => hq e.1), vu_ne (fun e => hq e.1)]⟩
    have e : ∀ k, vu (vu w t 7 (w t 7 + y)) t 6 (w t 6 + u) t k = if k = 6 then w t 6 + u else if k = 7 then w t 7 + y else w t k := fun k => by simp only [vu_ap, true_and]
    have ep : ∀ k, vu (vu w t 7 (w t 7 + y)) t 6 (w t 6 + u) p k = w p k := fun k => by rw [vu_ne (fun e => hpt e.1), vu_ne (fun e => hpt e.1)]
    unfold HMm
    rw [e 0, e 1, e 2, e 3, e 4, e 5, e 6, e 7, e 8, e 9, ep, ep, hF 0 (by decide) (by decide) (by decide) (by decide), hF 1 (by decide) (by decide) (by decide) (by decide), hF 2 (by decide) (by decide) (by decide) (by decide), hF 3 (by decide) (by decide) (by decide) (by decide), hF 4 (by decide) (by decide) (by decide) (by decide), hF 5 (by decide) (by decide) (by decide) (by decide), h6, h7, hF 8 (by decide) (by decide) (by decide) (by decide), hF 9 (by decide) (by decide) (by decide) (by decide)]
    simp only [Int.reduceEq, if_true, if_false]
    exact ⟨q0, q1, q3, q4, q5, ⟨by omega, by omega, by omega⟩, ⟨by omega, by omega, by omega⟩, q8⟩
end CH
