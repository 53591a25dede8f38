/-! A STEP CLOSED: the class's objects, each beside the reference's cells -/
def HMm (v : QV) (p t : Int) (f : Int → Int) (g K : Int) : Prop := (v t 0 = f (g + 0) ∧ 1 ≤ v t 0 ∧ v t 0 ≤ 1000) ∧ (v t 1 = f (g + 1) ∧ v t 2 = f (g + 2) ∧ 0 ≤ v t 1 ∧ v t 1 ≤ v t 2 ∧ v t 2 ≤ 999999) ∧ (v t 3 = f (g + 3) ∧ -1 ≤ v t 3 ∧ v t 3 ≤ 999999 ∧ (v p 0 = 2 → v t 3 < 2 ^ (v p 2).toNat)) ∧ (v t 4 = f (g + 4) ∧ tv (v t 4)) ∧ (v t 5 = f (g + 5) ∧ tv (v t 5)) ∧ (v t 6 = f (g + 7) ∧ 0 ≤ v t 6 ∧ v t 6 ≤ K) ∧ (v t 7 = f (g + 6) ∧ 0 ≤ v t 7 ∧ v t 7 ≤ 999999000 * v t 6) ∧ ((v t 8 = -2000000000 ∧ v t 9 = 2000000000 ∧ f (g + 8) = -2147483648 ∧ f (g + 9) = -2147483648) ∨ (v t 8 = f (g + 8) ∧ v t 9 = f (g + 9) ∧ (0 ≤ v t 8 ∧ v t 8 ≤ 999999000) ∧ (0 ≤ v t 9 ∧ v t 9 ≤ 999999000)))
def HTt (v : QV) (t : Int) (f : Int → Int) (g N : Int) : Prop := (v t 2 = f (g + 5) ∧ 0 ≤ v t 2 ∧ 0 ≤ f (g + 6) ∧ v t 2 + f (g + 6) = N) ∧ (v t 1 = f (g + 1) ∧ v t 2 ≤ v t 1 ∧ v t 1 ≤ 60 * v t 2) ∧ (v t 0 = f (g + 0) ∧ 0 ≤ v t 0 ∧ v t 0 ≤ 999999000 * v t 1) ∧ (¬ v t 2 = 0 → (v t 3 = f (g + 2) ∧ v t 4 = f (g + 3) ∧ v t 5 = f (g + 4)) ∧ (0 ≤ v t 3 ∧ v t 3 ≤ 999999000) ∧ (0 ≤ v t 4 ∧ v t 4 ≤ 999999000) ∧ (0 ≤ v t 5 ∧ v t 5 ≤ 999999000))
theorem HMm.fi {v : QV} {p t g K : Int} {f : Int → Int} (h : HMm v p t f g K) : FIm f g K := by
  obtain ⟨-, -, -, h4, -, h6, h7, -⟩ := h
  unfold FIm
  rw [← h4.1, ← h6.1, ← h7.1]
  exact ⟨h4.2, h6.2, h7.2⟩
theorem HTt.fi {v : QV} {t g N : Int} {f : Int → Int} (h : HTt v t f g N) : FIt f g N := by
  obtain ⟨h1, h2, h3, h4⟩ := h
  unfold FIt
  rw [← h1.1, ← h2.1, ← h3.1]
  refine ⟨h1.2, h2.2, h3.2, fun q => ?_⟩
  obtain ⟨q1, q2⟩ := h4 q
  rw [← q1.1, ← q1.2.1, ← q1.2.2]
  exact q2
theorem HMm.cong {v w : QV} {p t g K : Int} {f F : Int → Int} (h : HMm v p t f g K) (hv : ∀ k, w t k = v t k) (hp : ∀ k, w p k = v p k) (hf : ∀ i, 0 ≤ i → i < 12 → F (g + i) = f (g + i)) : HMm w p t F g K := by
  unfold HMm at h ⊢
  simp only [hv, hp]
  rw [hf 0 (by decide) (by decide), hf 1 (by decide) (by decide), hf 2 (by decide) (by decide), hf 3 (by decide) (by decide), hf 4 (by decide) (by decide), hf 5 (by decide) (by decide), hf 6 (by decide) (by decide), hf 7 (by decide) (by decide), hf 8 (by decide) (by decide), hf 9 (by decide) (by decide)]
  exact h
theorem HTt.cong {v w : QV} {t g N : Int} {f F : Int → Int} (h : HTt v t f g N) (hv : ∀ k, w t k = v t k) (hf : ∀ i, 0 ≤ i → i < 7 → F (g + i) = f (g + i)) : HTt w t F g N := by
  unfold HTt at h ⊢
  simp only [hv]
  rw [hf 0 (by decide) (by decide), hf 1 (by decide) (by decide), hf 2 (by decide) (by decide), hf 3 (by decide) (by decide), hf 4 (by decide) (by decide), hf 5 (by decide) (by decide), hf 6 (by decide) (by decide)]
  exact h
section CO
variable {S : QS} {v w : QV} {b M P B s : Int} {f F : Int → Int}
theorem c_add {a m t x u N : Int} (ht : S.1 t = 10) (hx : tv x) (hu : ¬ x = -2147483648 → 1 ≤ u ∧ u ≤ 60) (hN : N ≤ 12) (h : HTt v t f (55 + 7 * (4 * a + m)) N) (hF : ∀ i, 0 ≤ i → i < 7 → F (55 + 7 * (4 * a + m) + i) = gatherF a m x u f (55 + 7 * (4 * a + m) + i)) : wM mX9_add [t, x, u] S v (fun _ w => HTt w t F (55 + 7 * (4 * a + m)) (N + 1) ∧ ∀ q k, q ≠ t → w q k = v q k) := by
  have hfi := h.fi
  by_cases c : x = -2147483648
  · subst c
    rw [wM_of q_add0]
    refine ⟨?_, fun _ _ _ => rfl⟩
    have hg := gatherF_U (a := a) (m := m) (n := u) (f := f) (by unfold FIt at hfi; omega)
    unfold HTt at h ⊢
    rw [hF 0 (by decide) (by decide), hF 1 (by decide) (by decide), hF 2 (by decide) (by decide), hF 3 (by decide) (by decide), hF 4 (by decide) (by decide), hF 5 (by decide) (by decide), hF 6 (by decide) (by decide), hg]
    generalize 55 + 7 * (4 * a + m) = G at *
    rw [fu_ne (show G + 5 ≠ G + 6 by omega), fu_ne (show G + 1 ≠ G + 6 by omega), fu_ne (show G + 0 ≠ G + 6 by omega), fu_ne (show G + 2 ≠ G + 6 by omega), fu_ne (show G + 3 ≠ G + 6 by omega), fu_ne (show G + 4 ≠ G + 6 by omega), fu_is]
    obtain ⟨h1, h2⟩ := h
    exact ⟨by omega, h2⟩
  · have hx2 : 0 ≤ x ∧ x ≤ 999999000 := by unfold tv at hx; omega
    have hu2 := hu c
    obtain ⟨⟨g0, g1⟩, ⟨g2, g3, g4⟩, g5, g6⟩ := gatherF_k hx2 (n := u) (by omega) hN hfi
    rw [wM_of (q_add ht c)]
    have b1 := Int.mul_le_mul_of_nonneg_right hx2.2 (show 0 ≤ u by omega)
    have b2 : 0 ≤ x * u := Int.mul_nonneg hx2.1 (by omega)
    obtain ⟨h1, h2, h3, h4⟩ := h
    refine ⟨?_, fun q k hq => by rw [vu_ne (fun e => hq e.1), vu_ne (fun e => hq e.1), vu_ne (fun e => hq e.1), vu_ne (fun e => hq e.1), vu_ne (fun e => hq e.1), vu_ne (fun e => hq e.1)]⟩
    unfold HTt
    rw [hF 0 (by decide) (by decide), hF 1 (by decide) (by decide), hF 2 (by decide) (by decide), hF 3 (by decide) (by decide), hF 4 (by decide) (by decide), hF 5 (by decide) (by decide), hF 6 (by decide) (by decide), g0, g1, g2, g3, g4, g5, g6]
    clear g0 g1 g2 g3 g4 g5 g6 hF hfi
    generalize 55 + 7 * (4 * a + m) = G at *
    generalize x * u = y at *
    have i1 : w64 y = y := w64_e (by omega)
    have i2 : w64 (v t 0 + y) = v t 0 + y := by clear i1; exact w64_e (by omega)
    have i3 : w32 (v t 1 + u) = v t 1 + u := by clear i1 i2; exact w32_e (by omega)
    have i4 : w32 (v t 2 + 1) = v t 2 + 1 := by clear i1 i2 i3; exact w32_e (by omega)
    rw [i1, i2, i3, i4]
    clear i1 i2 i3 i4
    generalize hA : (if v t 2 = 0 then x else iMax (v t 3) x) = y3
    generalize hB : (if v t 2 = 0 then x else iMin (v t 4) x) = y4
    have e : ∀ k, vu (vu (vu (vu (vu (vu v t 3 y3) t 4 y4) t 5 x) t 0 (v t 0 + y)) t 1 (v t 1 + u)) t 2 (v t 2 + 1) t k = if k = 2 then v t 2 + 1 else if k = 1 then v t 1 + u else if k = 0 then v t 0 + y else if k = 5 then x else if k = 4 then y4 else if k = 3 then y3 else v t k := fun k => by
      simp only [vu_ap, true_and]
    rw [e 0, e 1, e 2, e 3, e 4, e 5]
    clear e
    simp only [Int.reduceEq, if_true, if_false]
    refine ⟨by omega, by omega, by omega, fun _ => ⟨⟨?_, ?_, trivial⟩, ?_, ?_, hx2⟩⟩
    · rw [← hA]
      by_cases q : v t 2 = 0
      · rw [if_pos q, if_pos (Or.inl (by omega))]
      · rw [if_neg q]
        obtain ⟨⟨r1, -⟩, -⟩ := h4 q
        unfold iMax
        rw [← r1]
        split <;> split <;> omega
    · rw [← hB]
      by_cases q : v t 2 = 0
      · rw [if_pos q, if_pos (Or.inl (by omega))]
      · rw [if_neg q]
        obtain ⟨⟨-, r1, -⟩, -⟩ := h4 q
        unfold iMin
        rw [← r1]
        split <;> split <;> omega
    · rw [← hA]
      by_cases q : v t 2 = 0
      · rw [if_pos q]; exact hx2
      · rw [if_neg q]
        have := (h4 q).2.1
        unfold iMax
        split <;> omega
    · rw [← hB]
      by_cases q : v t 2 = 0
      · rw [if_pos q]; exact hx2
      · rw [if_neg q]
        have := (h4 q).2.2.1
        unfold iMin
        split <;> omega
theorem q_valueOf {sm un stp : Int} (hu : 0 ≤ un ∧ un ≤ stp) (hs : 1 ≤ stp ∧ stp ≤ 60) (hm : 0 ≤ sm ∧ sm ≤ 999999000 * un) : mX11_valueOf [sm, un, stp] S v = some (if 2 * (stp - un) < stp then sm / un else -2147483648, v) := by
  have i1 : w32 (stp - un) = stp - un := w32_e (by omega)
  have i2 : w32 (2 * (stp - un)) = 2 * (stp - un) := by clear i1; exact w32_e (by omega)
  apply wM_eq
  by_cases c : 2 * (stp - un) < stp
  · have p : 0 < un := by clear i1 i2; omega
    have d0 := Int.ediv_nonneg hm.1 (Int.le_of_lt p)
    have d1 := Int.ediv_le_of_le_mul p hm.2
    have i3 : w64 (sm / un) = sm / un := by clear i1 i2; exact w64_e (by omega)
    have i4 : w32 (sm / un) = sm / un := by clear i1 i2 i3; exact w32_e (by omega)
    have c' : ¬ stp ≤ 2 * (stp - un) := by clear i1 i2 i3 i4; omega
    simp only [mX11_valueOf, sX11_valueOf, wE_I, wE_V, wE_F, wE_A, wE_N, wE_1, wE_2, wE_D, wE_B, wE_If, wE_C, wE_CV, wE_SL, wE_SA, wA_0, wA_1, wC_B, wC_E, wC_And, wC_Or, wC_Not, wS_Skip, wS_Brk, wS_Cnt, wS_RetV, wS_Ret, wS_Seq, wS_Set, wS_Inc, wS_Do, wS_Put, wS_PutC, wS_Arr, wS_ArrC, wS_If, wS_Sw, wS_F0, wS_F1, wM_q, lu_ap, aL_ap, ct_0, ct_1, ct_2, ct_3, ct_4, ct_5, headD_1, List.mem_cons, List.not_mem_nil, or_false, false_or, or_true, true_or, true_and, and_true, false_and, and_false, not_true_eq_false, not_false_eq_true, if_true, if_false, nr_20, nr_24, nr_40, nr_41, nr_44, pt_lt, pt_ge, pt_eq, pt_ne, pt_gt, pt_le, pt_E, pt_N, pt_F, ite_10, ite_11, ne_eq, and_self, or_self, decide_true, decide_false, Bool.not_true, Bool.not_false, Bool.false_eq_true, Nat.reduceEqDiff, Nat.reduceAdd, Int.reduceEq, Int.reduceLT, Int.reduceLE, Int.reduceNeg, Int.reduceAdd, Int.reduceSub, Int.reduceMul, reduceCtorEq, iA, iS, iM, iD, iR, iN, lA, lS, lM, lD, lR, i1, i2, c, c', wM_of q_quotient, tdiv_n hm.1, i3, i4]
  · have c' : stp ≤ 2 * (stp - un) := by clear i1 i2; omega
    simp only [mX11_valueOf, sX11_valueOf, wE_I, wE_V, wE_F, wE_A, wE_N, wE_1, wE_2, wE_D, wE_B, wE_If, wE_C, wE_CV, wE_SL, wE_SA, wA_0, wA_1, wC_B, wC_E, wC_And, wC_Or, wC_Not, wS_Skip, wS_Brk, wS_Cnt, wS_RetV, wS_Ret, wS_Seq, wS_Set, wS_Inc, wS_Do, wS_Put, wS_PutC, wS_Arr, wS_ArrC, wS_If, wS_Sw, wS_F0, wS_F1, wM_q, lu_ap, aL_ap, ct_0, ct_1, ct_2, ct_3, ct_4, ct_5, headD_1, List.mem_cons, List.not_mem_nil, or_false, false_or, or_true, true_or, true_and, and_true, false_and, and_false, not_true_eq_false, not_false_eq_true, if_true, if_false, nr_20, nr_24, nr_40, nr_41, nr_44, pt_lt, pt_ge, pt_eq, pt_ne, pt_gt, pt_le, pt_E, pt_N, pt_F, ite_10, ite_11, ne_eq, and_self, or_self, decide_true, decide_false, Bool.not_true, Bool.not_false, Bool.false_eq_true, Nat.reduceEqDiff, Nat.reduceAdd, Int.reduceEq, Int.reduceLT, Int.reduceLE, Int.reduceNeg, Int.reduceAdd, Int.reduceSub, Int.reduceMul, reduceCtorEq, iA, iS, iM, iD, iR, iN, lA, lS, lM, lD, lR, i1, i2, c, c']
theorem c_endM {p t stp A : Int} (ht : S.1 t = 4) (hpt : p ≠ t) (hs : 1 ≤ stp ∧ stp ≤ 60) {val : Int} (hv : val = if 2 * (stp - f (A + 7)) < stp then f (A + 6) / f (A + 7) else -2147483648) (h : HMm v p t f A stp) (hF : ∀ i, 0 ≤ i → i < 5 → F (A + i) = f (A + i)) (h5 : F (A + 5) = val ∧ F (A + 6) = 0 ∧ F (A + 7) = 0) (h8 : F (A + 8) = if 2 * (stp - f (A + 7)) < stp ∧ (f (A + 8) = -2147483648 ∨ f (A + 8) < val) then val else f (A + 8)) (h9 : F (A + 9) = if 2 * (stp - f (A + 7)) < stp ∧ (f (A + 9) = -2147483648 ∨ val < f (A + 9)) then val else f (A + 9)) : wM mX3_endStep [t, stp] S v (fun _ w => (HMm w p t F A 0 ∧ w t 5 = val) ∧ ∀ q k, q ≠ t → w q k = v q k) := by
  have hfi := h.fi
  obtain ⟨q1, q2, q3, q4, q5, q6, q7, q8⟩ := h
  have hvo := q_valueOf (S := S) (v := v) (sm := v t 7) (un := v t 6) (stp := stp) q6.2 hs q7.2
  rw [q6.1, q7.1, ← hv] at hvo
  have hval : (val = -2147483648 ∧ ¬ 2 * (stp - f (A + 7)) < stp) ∨ (0 ≤ val ∧ val ≤ 999999000 ∧ 2 * (stp - f (A + 7)) < stp) := by
    obtain ⟨-, k7, k6⟩ := hfi
    rw [hv]
    split
    · rename_i c
      have p : 0 < f (A + 7) := by omega
      exact Or.inr ⟨Int.ediv_nonneg k6.1 (Int.le_of_lt p), Int.ediv_le_of_le_mul p k6.2, c⟩
    · rename_i c
      exact Or.inl ⟨rfl, c⟩
  clear hv hfi
  have fin : ∀ w : QV, (w t 0 = v t 0 ∧ w t 1 = v t 1 ∧ w t 2 = v t 2 ∧ w t 3 = v t 3 ∧ w t 4 = v t 4) → w t 5 = val → w t 6 = 0 → w t 7 = 0 → (if val = -2147483648 then w t 8 = v t 8 ∧ w t 9 = v t 9 else w t 8 = iMax (v t 8) val ∧ w t 9 = iMin (v t 9) val) → (∀ q k, q ≠ t → w q k = v q k) → (HMm w p t F A 0 ∧ w t 5 = val) ∧ ∀ q k, q ≠ t → w q k = v q k := by
    rintro w ⟨w0, w1, w2, w3, w4⟩ w5 w6 w7 w8 wf
    refine ⟨⟨?_, w5⟩, wf⟩
    unfold HMm
    rw [w0, w1, w2, w3, w4, w5, w6, w7, hF 0 (by decide) (by decide), hF 1 (by decide) (by decide), hF 2 (by decide) (by decide), hF 3 (by decide) (by decide), hF 4 (by decide) (by decide), h5.1, h5.2.1, h5.2.2, wf p 0 hpt, wf p 2 hpt]
    refine ⟨q1, q2, q3, q4, ⟨rfl, ?_⟩, by omega, by omega, ?_⟩
    · unfold tv; omega
    · rcases hval with ⟨e, c⟩ | ⟨e1, e2, c⟩
      · rw [if_pos e] at w8
        rw [h8, h9, if_neg (fun z => c z.1), if_neg (fun z => c z.1), w8.1, w8.2]
        exact q8
      · rw [if_neg (by omega)] at w8
        right
        rw [h8, h9, w8.1, w8.2]
        unfold iMax iMin
        rcases q8 with ⟨r8, r9, r10, r11⟩ | ⟨r8, r9, r10, r11⟩
        · have E8 : (if 2 * (stp - f (A + 7)) < stp ∧ (f (A + 8) = -2147483648 ∨ f (A + 8) < val) then val else f (A + 8)) = val := if_pos ⟨c, Or.inl r10⟩
          have E9 : (if 2 * (stp - f (A + 7)) < stp ∧ (f (A + 9) = -2147483648 ∨ val < f (A + 9)) then val else f (A + 9)) = val := if_pos ⟨c, Or.inl r11⟩
          rw [E8, E9, r8, r9]
          refine ⟨?_, ?_, ?_, ?_⟩ <;> split <;> omega
        · rw [← r8, ← r9]
          refine ⟨?_, ?_, ?_, ?_⟩
          · split <;> split <;> omega
          · split <;> split <;> omega
          · split <;> omega
          · split <;> omega
  simp only [mX3_endStep, sX3_endStep, wM_q]
  generalize hL : aL 0 [2, 0] [t, stp] = L
  have m0 : L 0 = t := by rw [← hL]; simp [lu_ap, aL_ap, ct_0, ct_1, ct_2]
  have m1 : L 1 = stp := by rw [← hL]; simp [lu_ap, aL_ap, ct_0, ct_1, ct_2]
  clear hL
  refine ws_step (L' := L) (w := vu v t 5 val) (by simp only [wE_I, wE_V, wE_F, wE_A, wE_N, wE_1, wE_2, wE_D, wE_B, wE_If, wE_C, wE_CV, wE_SL, wE_SA, wA_0, wA_1, wC_B, wC_E, wC_And, wC_Or, wC_Not, wS_Skip, wS_Brk, wS_Cnt, wS_RetV, wS_Ret, wS_Seq, wS_Set, wS_Inc, wS_Do, wS_Put, wS_PutC, wS_Arr, wS_ArrC, wS_If, wS_Sw, wS_F0, wS_F1, wM_q, lu_ap, aL_ap, ct_0, ct_1, ct_2, ct_3, ct_4, ct_5, headD_1, List.mem_cons, List.not_mem_nil, or_false, false_or, or_true, true_or, true_and, and_true, false_and, and_false, not_true_eq_false, not_false_eq_true, if_true, if_false, nr_20, nr_24, nr_40, nr_41, nr_44, pt_lt, pt_ge, pt_eq, pt_ne, pt_gt, pt_le, pt_E, pt_N, pt_F, ite_10, ite_11, ne_eq, and_self, or_self, decide_true, decide_false, Bool.not_true, Bool.not_false, Bool.false_eq_true, Nat.reduceEqDiff, Nat.reduceAdd, Int.reduceEq, Int.reduceLT, Int.reduceLE, Int.reduceNeg, Int.reduceAdd, Int.reduceSub, Int.reduceMul, reduceCtorEq, iA, iS, iM, iD, iR, iN, lA, lS, lM, lD, lR, ht, m0, m1, q6.1, q7.1, wM_of hvo]) ?_
  refine ws_step (L' := L) (w := vu (vu v t 5 val) t 7 0) (by simp only [wE_I, wE_V, wE_F, wE_A, wE_N, wE_1, wE_2, wE_D, wE_B, wE_If, wE_C, wE_CV, wE_SL, wE_SA, wA_0, wA_1, wC_B, wC_E, wC_And, wC_Or, wC_Not, wS_Skip, wS_Brk, wS_Cnt, wS_RetV, wS_Ret, wS_Seq, wS_Set, wS_Inc, wS_Do, wS_Put, wS_PutC, wS_Arr, wS_ArrC, wS_If, wS_Sw, wS_F0, wS_F1, wM_q, lu_ap, aL_ap, ct_0, ct_1, ct_2, ct_3, ct_4, ct_5, headD_1, List.mem_cons, List.not_mem_nil, or_false, false_or, or_true, true_or, true_and, and_true, false_and, and_false, not_true_eq_false, not_false_eq_true, if_true, if_false, nr_20, nr_24, nr_40, nr_41, nr_44, pt_lt, pt_ge, pt_eq, pt_ne, pt_gt, pt_le, pt_E, pt_N, pt_F, ite_10, ite_11, ne_eq, and_self, or_self, decide_true, decide_false, Bool.not_true, Bool.not_false, Bool.false_eq_true, Nat.reduceEqDiff, Nat.reduceAdd, Int.reduceEq, Int.reduceLT, Int.reduceLE, Int.reduceNeg, Int.reduceAdd, Int.reduceSub, Int.reduceMul, reduceCtorEq, iA, iS, iM, iD, iR, iN, lA, lS, lM, lD, lR, ht, m0]) ?_
  refine ws_step (L' := L) (w := vu (vu (vu v t 5 val) t 7 0) t 6 0) (by simp only [wE_I, wE_V, wE_F, wE_A, wE_N, wE_1, wE_2, wE_D, wE_B, wE_If, wE_C, wE_CV, wE_SL, wE_SA, wA_0, wA_1, wC_B, wC_E, wC_And, wC_Or, wC_Not, wS_Skip, wS_Brk, wS_Cnt, wS_RetV, wS_Ret, wS_Seq, wS_Set, wS_Inc, wS_Do, wS_Put, wS_PutC, wS_Arr, wS_ArrC, wS_If, wS_Sw, wS_F0, wS_F1, wM_q, lu_ap, aL_ap, ct_0, ct_1, ct_2, ct_3, ct_4, ct_5, headD_1, List.mem_cons, List.not_mem_nil, or_false, false_or, or_true, true_or, true_and, and_true, false_and, and_false, not_true_eq_false, not_false_eq_true, if_true, if_false, nr_20, nr_24, nr_40, nr_41, nr_44, pt_lt, pt_ge, pt_eq, pt_ne, pt_gt, pt_le, pt_E, pt_N, pt_F, ite_10, ite_11, ne_eq, and_self, or_self, decide_true, decide_false, Bool.not_true, Bool.not_false, Bool.false_eq_true, Nat.reduceEqDiff, Nat.reduceAdd, Int.reduceEq, Int.reduceLT, Int.reduceLE, Int.reduceNeg, Int.reduceAdd, Int.reduceSub, Int.reduceMul, reduceCtorEq, iA, iS, iM, iD, iR, iN, lA, lS, lM, lD, lR, ht, m0]) ?_
  have b : ∀ k, vu (vu (vu v t 5 val) t 7 0) t 6 0 t k = if k = 6 then 0 else if k = 7 then 0 else if k = 5 then val else v t k := fun k => by simp only [vu_ap, true_and]
  have bf : ∀ q k, q ≠ t → vu (vu (vu v t 5 val) t 7 0) t 6 0 q k = v q k := fun q k hq => by
    rw [vu_ne (fun e => hq e.1), vu_ne (fun e => hq e.1), vu_ne (fun e => hq e.1)]
  generalize vu (vu (vu v t 5 val) t 7 0) t 6 0 = w3 at *
  have b5 : w3 t 5 = val := by rw [b]; simp
  have b8 : w3 t 8 = v t 8 := by rw [b]; simp
  have b9 : w3 t 9 = v t 9 := by rw [b]; simp
  by_cases c : val = -2147483648
  · simp only [wE_I, wE_V, wE_F, wE_A, wE_N, wE_1, wE_2, wE_D, wE_B, wE_If, wE_C, wE_CV, wE_SL, wE_SA, wA_0, wA_1, wC_B, wC_E, wC_And, wC_Or, wC_Not, wS_Skip, wS_Brk, wS_Cnt, wS_RetV, wS_Ret, wS_Seq, wS_Set, wS_Inc, wS_Do, wS_Put, wS_PutC, wS_Arr, wS_ArrC, wS_If, wS_Sw, wS_F0, wS_F1, wM_q, lu_ap, aL_ap, ct_0, ct_1, ct_2, ct_3, ct_4, ct_5, headD_1, List.mem_cons, List.not_mem_nil, or_false, false_or, or_true, true_or, true_and, and_true, false_and, and_false, not_true_eq_false, not_false_eq_true, if_true, if_false, nr_20, nr_24, nr_40, nr_41, nr_44, pt_lt, pt_ge, pt_eq, pt_ne, pt_gt, pt_le, pt_E, pt_N, pt_F, ite_10, ite_11, ne_eq, and_self, or_self, decide_true, decide_false, Bool.not_true, Bool.not_false, Bool.false_eq_true, Nat.reduceEqDiff, Nat.reduceAdd, Int.reduceEq, Int.reduceLT, Int.reduceLE, Int.reduceNeg, Int.reduceAdd, Int.reduceSub, Int.reduceMul, reduceCtorEq, iA, iS, iM, iD, iR, iN, lA, lS, lM, lD, lR, ht, m0, b5, c]
    rw [c] at fin b5
    have z := fin w3 ⟨by simp [b], by simp [b], by simp [b], by simp [b], by simp [b]⟩ b5 (by simp [b]) (by simp [b]) (by simp [b]) bf
    exact ⟨z.1.1, z.2⟩
  · have n5 : ∀ z, vu w3 t 8 z t 5 = val := fun z => by rw [vu_ne (by simp), b5]
    have n9 : ∀ z, vu w3 t 8 z t 9 = v t 9 := fun z => by rw [vu_ne (by simp), b9]
    simp only [wE_I, wE_V, wE_F, wE_A, wE_N, wE_1, wE_2, wE_D, wE_B, wE_If, wE_C, wE_CV, wE_SL, wE_SA, wA_0, wA_1, wC_B, wC_E, wC_And, wC_Or, wC_Not, wS_Skip, wS_Brk, wS_Cnt, wS_RetV, wS_Ret, wS_Seq, wS_Set, wS_Inc, wS_Do, wS_Put, wS_PutC, wS_Arr, wS_ArrC, wS_If, wS_Sw, wS_F0, wS_F1, wM_q, lu_ap, aL_ap, ct_0, ct_1, ct_2, ct_3, ct_4, ct_5, headD_1, List.mem_cons, List.not_mem_nil, or_false, false_or, or_true, true_or, true_and, and_true, false_and, and_false, not_true_eq_false, not_false_eq_true, if_true, if_false, nr_20, nr_24, nr_40, nr_41, nr_44, pt_lt, pt_ge, pt_eq, pt_ne, pt_gt, pt_le, pt_E, pt_N, pt_F, ite_10, ite_11, ne_eq, and_self, or_self, decide_true, decide_false, Bool.not_true, Bool.not_false, Bool.false_eq_true, Nat.reduceEqDiff, Nat.reduceAdd, Int.reduceEq, Int.reduceLT, Int.reduceLE, Int.reduceNeg, Int.reduceAdd, Int.reduceSub, Int.reduceMul, reduceCtorEq, iA, iS, iM, iD, iR, iN, lA, lS, lM, lD, lR, ht, m0, b5, b8, n5, n9, c]
    refine fin _ ⟨?_, ?_, ?_, ?_, ?_⟩ ?_ ?_ ?_ ?_ (fun q k hq => ?_)
    · simp [vu_ap, b]
    · simp [vu_ap, b]
    · simp [vu_ap, b]
    · simp [vu_ap, b]
    · simp [vu_ap, b]
    · simp [vu_ap, b]
    · simp [vu_ap, b]
    · simp [vu_ap, b]
    · rw [if_neg c]; simp [vu_ap]
    · rw [vu_ne (fun e => hq e.1), vu_ne (fun e => hq e.1)]; exact bf q k hq
end CO
