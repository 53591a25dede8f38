/-! A READING: the reference's ticks -/
theorem closeF_0 {v : QV} {M B k : Int} {f : Int → Int} (hP : PB v M B) (hk : k = 0 ∨ k = 2 ∨ ∃ m, 0 ≤ m ∧ m < 4 ∧ (k = 3 + 12 * m + 0 ∨ k = 3 + 12 * m + 1 ∨ k = 3 + 12 * m + 2 ∨ k = 3 + 12 * m + 3 ∨ k = 3 + 12 * m + 4)) : closeF v M B f k = f k := by
  obtain ⟨pst, pn, pna, pf, pa⟩ := hP
  have hb : k < 51 ∧ k ≠ 1 ∧ ∀ m, 0 ≤ m → m < 4 → k < 3 + 12 * m + 5 ∨ 3 + 12 * m + 11 ≤ k := by
    rcases hk with rfl | rfl | ⟨m, m0, m1, hk⟩
    · exact ⟨by decide, by decide, fun m _ _ => by omega⟩
    · exact ⟨by decide, by decide, fun m _ _ => by omega⟩
    · exact ⟨by omega, by omega, fun m' _ _ => by omega⟩
  rw [closeF_eq, rwI_fr (by omega) _ (fun a a0 a1 => by omega), fu_ne hb.2.1]
  exact measI_fr pna _ (fun m m0 m1 => ⟨pf m m0 (by omega), hb.2.2 m m0 (by omega), fun a _ _ => by omega, by omega⟩)
theorem tkF_fr {v : QV} {M B k : Int} {f : Int → Int} (h : k ≠ 0) (h2 : ∀ m, 0 ≤ m → m < 4 → k ≠ 3 + 12 * m + 6 ∧ k ≠ 3 + 12 * m + 7) (hn : v (M + 3) B ≤ 4) : tkF v M B f k = f k := by
  unfold tkF
  rw [tkI_fr _ (fun m m0 m1 => h2 m m0 (by omega)), fu_ne h]
theorem tkF_0 {v : QV} {M B : Int} {f : Int → Int} : tkF v M B f 0 = f 0 + 1 := by
  unfold tkF
  rw [tkI_fr _ (fun m m0 m1 => by omega), fu_is]
theorem tkF_at {v : QV} {M B m : Int} {f : Int → Int} (hm : 0 ≤ m ∧ m < v (M + 3) B) : tkF v M B f (3 + 12 * m + 6) = (if f (3 + 12 * m + 4) = -2147483648 then f (3 + 12 * m + 6) else f (3 + 12 * m + 6) + f (3 + 12 * m + 4)) ∧ tkF v M B f (3 + 12 * m + 7) = (if f (3 + 12 * m + 4) = -2147483648 then f (3 + 12 * m + 7) else f (3 + 12 * m + 7) + 1) := by
  have := tkI_at (m := m) (f := fu f 0 (f 0 + 1)) hm.1 (v (M + 3) B).toNat (by omega)
  rw [fu_ne (by omega), fu_ne (by omega), fu_ne (by omega)] at this
  exact this
theorem FI.tick {v : QV} {M B k : Int} {f : Int → Int} (hP : PB v M B) (h : FI v M B f k) : FI v M B (tkF v M B f) (k + 1) := by
  obtain ⟨pst, pn, pna, pf, pa⟩ := hP
  have hn : v (M + 3) B ≤ 4 := by omega
  obtain ⟨h1, h2, h3, h4⟩ := h
  have e1 : tkF v M B f 1 = f 1 := tkF_fr (by omega) (fun m _ _ => by omega) hn
  have hi : ∀ k, 51 ≤ k → tkF v M B f k = f k := fun k hk => tkF_fr (by omega) (fun m _ _ => by omega) hn
  refine ⟨by rw [e1]; exact h1, fun m m0 m1 => ?_, fun a a0 a1 => ⟨?_, fun m m0 m1 => ?_⟩, fun m m0 m1 m2 => ?_⟩
  · obtain ⟨q4, q7, q6⟩ := h2 m m0 m1
    obtain ⟨t6, t7⟩ := tkF_at (f := f) ⟨m0, m1⟩
    have t4 : tkF v M B f (3 + 12 * m + 4) = f (3 + 12 * m + 4) := tkF_fr (by omega) (fun m _ _ => by omega) hn
    unfold FIm
    rw [t4, t6, t7]
    refine ⟨q4, ?_, ?_⟩
    · split <;> omega
    · unfold tv at q4
      split <;> omega
  · rw [hi _ (by omega)]; exact (h3 a a0 a1).1
  · rw [e1]
    exact ((h3 a a0 a1).2 m m0 m1).cong (fun i i0 i1 => hi _ (by omega))
  · exact (h4 m m0 m1 m2).cong (fun i i0 i1 => hi _ (by omega))
theorem stF_inv {v : QV} {M B : Int} {f : Int → Int} (hP : PB v M B) (h0 : 0 ≤ f 0 ∧ f 0 ≤ 150000) (h1 : f 1 = f 0 / v (M + 2) B) (h : FI v M B f (f 0 % v (M + 2) B)) : stF v M B f 0 = f 0 + 1 ∧ stF v M B f 1 = (f 0 + 1) / v (M + 2) B ∧ FI v M B (stF v M B f) ((f 0 + 1) % v (M + 2) B) := by
  obtain ⟨pst, pn, pna, pf, pa⟩ := id hP
  have hs : 0 < v (M + 2) B := by omega
  have hms := mod_s (x := f 0) hs
  have hds := div_s (x := f 0) hs
  have hx0 := Int.emod_nonneg (f 0) (show v (M + 2) B ≠ 0 by omega)
  have hd1 : f 0 / v (M + 2) B ≤ f 0 := Int.ediv_le_self _ h0.1
  have ht := h.tick hP
  have e0 := tkF_0 (v := v) (M := M) (B := B) (f := f)
  have e1 : tkF v M B f 1 = f 1 := tkF_fr (by omega) (fun m _ _ => by omega) (by omega)
  unfold stF
  rw [e0]
  by_cases c : f 0 % v (M + 2) B + 1 = v (M + 2) B
  · rw [if_pos c] at hms hds
    rw [hms, if_pos rfl, hds]
    rw [c] at ht
    obtain ⟨c1, c2⟩ := ht.close hP (by rw [e1]; omega)
    refine ⟨?_, ?_, c1⟩
    · rw [closeF_0 hP (Or.inl rfl), e0]
    · rw [c2, e1, h1]
  · rw [if_neg c] at hms hds
    rw [hms, if_neg (by omega), hds]
    exact ⟨e0, by rw [e1, h1], ht⟩
theorem stI_inv {v : QV} {M B : Int} {f : Int → Int} (hP : PB v M B) (h0 : 0 ≤ f 0 ∧ f 0 ≤ 100000) (h1 : f 1 = f 0 / v (M + 2) B) (h : FI v M B f (f 0 % v (M + 2) B)) : ∀ j : Nat, j ≤ 1000 → itF (fun _ => stF v M B) j f 0 = f 0 + j ∧ itF (fun _ => stF v M B) j f 1 = (f 0 + j) / v (M + 2) B ∧ FI v M B (itF (fun _ => stF v M B) j f) ((f 0 + j) % v (M + 2) B)
  | 0, _ => by
    simp only [itF]
    rw [show f 0 + ((0 : Nat) : Int) = f 0 by omega]
    exact ⟨rfl, h1, h⟩
  | j + 1, hj => by
    obtain ⟨i0, i1, i2⟩ := stI_inv hP h0 h1 h j (by omega)
    rw [← i0] at i1 i2
    have := stF_inv hP (by omega) i1 i2
    rw [i0] at this
    show stF v M B _ 0 = _ ∧ stF v M B _ 1 = _ ∧ FI v M B (stF v M B _) _
    rw [show f 0 + ((j + 1 : Nat) : Int) = f 0 + j + 1 by omega]
    exact this
section GS
variable {S : QS} {v w : QV} {b M P B s : Int} {f F : Int → Int}
theorem f_tick (h : LMo S v M) (hB : v M 28 = B) (hB2 : B = 0 ∨ B = 1) (hP : PB v M B) {k : Int} (hk : k ≤ 100) (hF : FI v M B f k) {L : QL} (m0 : L 0 = M) : wS (sSeq (sSet 4 (eI 0)) (sWhile cX12_goRead_3 bX12_goRead_3 uX12_goRead_3)) L S (vf v (M + 1) (fu f 0 (f 0 + 1))) (fun k _ L' w => k = 0 ∧ (∀ i, i ≠ 4 → L' i = L i) ∧ w = vf v (M + 1) (tkF v M B f)) := by
  obtain ⟨pst, pn, pna, pf, pa⟩ := hP
  have hw := fun g => h.keep (Kp.vf h (f := g))
  have hmany := fun g => f_many (S := S) (f := g) h hB hB2
  unfold tkF
  simp only [wE_I, wE_V, wE_F, wE_A, wE_N, wE_1, wE_2, wE_D, wE_B, wE_If, wE_C, wE_CV, wE_SL, wE_SA, wA_0, wA_1, wC_B, wC_E, wC_And, wC_Or, wC_Not, wS_Skip, wS_Brk, wS_Cnt, wS_RetV, wS_Ret, wS_Seq, wS_Set, wS_Inc, wS_Do, wS_Put, wS_PutC, wS_Arr, wS_ArrC, wS_If, wS_Sw, wS_F0, wS_F1, wM_q, lu_ap, aL_ap, ct_0, ct_1, ct_2, ct_3, ct_4, ct_5, headD_1, List.mem_cons, List.not_mem_nil, or_false, false_or, or_true, true_or, true_and, and_true, false_and, and_false, not_true_eq_false, not_false_eq_true, if_true, if_false, nr_20, nr_24, nr_40, nr_41, nr_44, pt_lt, pt_ge, pt_eq, pt_ne, pt_gt, pt_le, pt_E, pt_N, pt_F, ite_10, ite_11, ne_eq, and_self, or_self, decide_true, decide_false, Bool.not_true, Bool.not_false, Bool.false_eq_true, Nat.reduceEqDiff, Nat.reduceAdd, Int.reduceEq, Int.reduceLT, Int.reduceLE, Int.reduceNeg, Int.reduceAdd, Int.reduceSub, Int.reduceMul, reduceCtorEq, iA, iS, iM, iD, iR, iN, lA, lS, lM, lD, lR]
  refine wS_For (v (M + 3) B).toNat (fun j L' w => ((∀ i, i ≠ 4 → L' i = L i) ∧ L' 4 = j) ∧ w = vf v (M + 1) (itF (fun m => tk1 m) j (fu f 0 (f 0 + 1)))) (by omega) ?_ ?_ ?_
  · exact ⟨⟨fun i hi => by simp [lu_ap, hi], by simp [lu_ap]⟩, rfl⟩
  · rintro j L' w hj ⟨⟨lf, l4⟩, rfl⟩
    have hjn : (j : Int) < v (M + 3) B := by omega
    have hm : 0 ≤ (j : Int) ∧ (j : Int) < 4 := by omega
    have l0 : L' 0 = M := by rw [lf 0 (by decide)]; exact m0
    have aM := fun g z (q : 0 ≤ z ∧ z < 12) => m_atMeasure (S := S) (v := vf v (M + 1) g) hm q
    have qM : ∀ z, 0 ≤ z ∧ z < 12 → 0 ≤ 3 + 12 * (j : Int) + z ∧ 3 + 12 * (j : Int) + z < 1095 := fun z q => by omega
    have r4 : 0 ≤ (4 : Int) ∧ (4 : Int) < 12 := by decide
    have r6 : 0 ≤ (6 : Int) ∧ (6 : Int) < 12 := by decide
    have r7 : 0 ≤ (7 : Int) ∧ (7 : Int) < 12 := by decide
    have e1 : w32 ((j : Int) + 1) = j + 1 := w32_e (by omega)
    have fr : ∀ i, 0 ≤ i → i < 12 → itF (fun m => tk1 m) j (fu f 0 (f 0 + 1)) (3 + 12 * (j : Int) + i) = f (3 + 12 * (j : Int) + i) := fun i i0 i1 => by
      clear e1
      rw [tkI_fr j (fun m m0 m1 => by omega), fu_ne (by omega)]
    have fr4 := fr 4 (by decide) (by decide)
    have fr6 := fr 6 (by decide) (by decide)
    have fr7 := fr 7 (by decide) (by decide)
    obtain ⟨q4, q7, q6⟩ := hF.2.1 j hm.1 hjn
    have fin : itF (fun m => tk1 m) (j + 1) (fu f 0 (f 0 + 1)) = tk1 j (itF (fun m => tk1 m) j (fu f 0 (f 0 + 1))) := rfl
    rw [fin]
    clear fin fr
    generalize itF (fun m => tk1 m) j (fu f 0 (f 0 + 1)) = g at *
    unfold tk1
    by_cases c : g (3 + 12 * (j : Int) + 4) = -2147483648
    · rw [if_pos c]
      simp only [cX12_goRead_3, bX12_goRead_3, uX12_goRead_3, wE_I, wE_V, wE_F, wE_A, wE_N, wE_1, wE_2, wE_D, wE_B, wE_If, wE_C, wE_CV, wE_SL, wE_SA, wA_0, wA_1, wC_B, wC_E, wC_And, wC_Or, wC_Not, wS_Skip, wS_Brk, wS_Cnt, wS_RetV, wS_Ret, wS_Seq, wS_Set, wS_Inc, wS_Do, wS_Put, wS_PutC, wS_Arr, wS_ArrC, wS_If, wS_Sw, wS_F0, wS_F1, wM_q, lu_ap, aL_ap, ct_0, ct_1, ct_2, ct_3, ct_4, ct_5, headD_1, List.mem_cons, List.not_mem_nil, or_false, false_or, or_true, true_or, true_and, and_true, false_and, and_false, not_true_eq_false, not_false_eq_true, if_true, if_false, nr_20, nr_24, nr_40, nr_41, nr_44, pt_lt, pt_ge, pt_eq, pt_ne, pt_gt, pt_le, pt_E, pt_N, pt_F, ite_10, ite_11, ne_eq, and_self, or_self, decide_true, decide_false, Bool.not_true, Bool.not_false, Bool.false_eq_true, Nat.reduceEqDiff, Nat.reduceAdd, Int.reduceEq, Int.reduceLT, Int.reduceLE, Int.reduceNeg, Int.reduceAdd, Int.reduceSub, Int.reduceMul, reduceCtorEq, iA, iS, iM, iD, iR, iN, lA, lS, lM, lD, lR, h.k, l0, l4, wM_of (hmany _), hjn, (hw _).p0, h.a1, h.n1, vf_is, vf_vu, wM_of (aM _ _ r4), qM _ r4, c, e1]
      refine ⟨fun i hi => ?_, rfl⟩
      simp only [hi, if_false]
      exact lf i hi
    · rw [if_neg c]
      have ib : w64 (g (3 + 12 * (j : Int) + 6) + g (3 + 12 * (j : Int) + 4)) = g (3 + 12 * (j : Int) + 6) + g (3 + 12 * (j : Int) + 4) := by
        clear e1
        rw [fr6, fr4]
        unfold tv at q4
        exact w64_e (by omega)
      have n7 : ∀ z, fu g (3 + 12 * (j : Int) + 6) z (3 + 12 * (j : Int) + 7) = g (3 + 12 * (j : Int) + 7) := fun z => fu_ne (by clear e1 ib; omega)
      have ic : w64 (g (3 + 12 * (j : Int) + 7) + 1) = g (3 + 12 * (j : Int) + 7) + 1 := by
        clear e1 ib
        rw [fr7]
        exact w64_e (by omega)
      simp only [cX12_goRead_3, bX12_goRead_3, uX12_goRead_3, wE_I, wE_V, wE_F, wE_A, wE_N, wE_1, wE_2, wE_D, wE_B, wE_If, wE_C, wE_CV, wE_SL, wE_SA, wA_0, wA_1, wC_B, wC_E, wC_And, wC_Or, wC_Not, wS_Skip, wS_Brk, wS_Cnt, wS_RetV, wS_Ret, wS_Seq, wS_Set, wS_Inc, wS_Do, wS_Put, wS_PutC, wS_Arr, wS_ArrC, wS_If, wS_Sw, wS_F0, wS_F1, wM_q, lu_ap, aL_ap, ct_0, ct_1, ct_2, ct_3, ct_4, ct_5, headD_1, List.mem_cons, List.not_mem_nil, or_false, false_or, or_true, true_or, true_and, and_true, false_and, and_false, not_true_eq_false, not_false_eq_true, if_true, if_false, nr_20, nr_24, nr_40, nr_41, nr_44, pt_lt, pt_ge, pt_eq, pt_ne, pt_gt, pt_le, pt_E, pt_N, pt_F, ite_10, ite_11, ne_eq, and_self, or_self, decide_true, decide_false, Bool.not_true, Bool.not_false, Bool.false_eq_true, Nat.reduceEqDiff, Nat.reduceAdd, Int.reduceEq, Int.reduceLT, Int.reduceLE, Int.reduceNeg, Int.reduceAdd, Int.reduceSub, Int.reduceMul, reduceCtorEq, iA, iS, iM, iD, iR, iN, lA, lS, lM, lD, lR, h.k, l0, l4, wM_of (hmany _), hjn, (hw _).p0, h.a1, h.n1, vf_is, vf_vu, wM_of (aM _ _ r4), qM _ r4, wM_of (aM _ _ r6), qM _ r6, wM_of (aM _ _ r7), qM _ r7, n7, ib, ic, c, e1]
      refine ⟨fun i hi => ?_, rfl⟩
      simp only [hi, if_false]
      exact lf i hi
  · rintro L' w ⟨⟨lf, l4⟩, rfl⟩
    have l0 : L' 0 = M := by rw [lf 0 (by decide)]; exact m0
    have l42 : L' 4 = v (M + 3) B := by omega
    simp only [cX12_goRead_3, wE_I, wE_V, wE_F, wE_A, wE_N, wE_1, wE_2, wE_D, wE_B, wE_If, wE_C, wE_CV, wE_SL, wE_SA, wA_0, wA_1, wC_B, wC_E, wC_And, wC_Or, wC_Not, wS_Skip, wS_Brk, wS_Cnt, wS_RetV, wS_Ret, wS_Seq, wS_Set, wS_Inc, wS_Do, wS_Put, wS_PutC, wS_Arr, wS_ArrC, wS_If, wS_Sw, wS_F0, wS_F1, wM_q, lu_ap, aL_ap, ct_0, ct_1, ct_2, ct_3, ct_4, ct_5, headD_1, List.mem_cons, List.not_mem_nil, or_false, false_or, or_true, true_or, true_and, and_true, false_and, and_false, not_true_eq_false, not_false_eq_true, if_true, if_false, nr_20, nr_24, nr_40, nr_41, nr_44, pt_lt, pt_ge, pt_eq, pt_ne, pt_gt, pt_le, pt_E, pt_N, pt_F, ite_10, ite_11, ne_eq, and_self, or_self, decide_true, decide_false, Bool.not_true, Bool.not_false, Bool.false_eq_true, Nat.reduceEqDiff, Nat.reduceAdd, Int.reduceEq, Int.reduceLT, Int.reduceLE, Int.reduceNeg, Int.reduceAdd, Int.reduceSub, Int.reduceMul, reduceCtorEq, iA, iS, iM, iD, iR, iN, lA, lS, lM, lD, lR, h.k, l0, l42, wM_of (hmany _)]
    exact ⟨Int.lt_irrefl _, lf⟩
end GS
