/-! A READING: the reference's whole -/
noncomputable def goF (v : QV) (M B later : Int) (nm : Int → Int) (f : Int → Int) : Int → Int := itF (fun _ => stF v M B) later.toNat (heF v M B later nm f)
theorem rtF_cong {v : QV} {M B later x m : Int} {f g : Int → Int} (h : ∀ i, 0 ≤ i → i < 4 → g (3 + 12 * m + i) = f (3 + 12 * m + i)) : rtF v M B later x m g = rtF v M B later x m f := by
  unfold rtF
  rw [h 0 (by decide) (by decide), h 1 (by decide) (by decide), h 2 (by decide) (by decide), h 3 (by decide) (by decide)]
theorem rtF_tv {v : QV} {M B later x m : Int} {f : Int → Int} (hr : FIh v M B later m f) : tv (rtF v M B later x m f) := by
  obtain ⟨-, h2, -⟩ := hr
  unfold rtF
  by_cases c : rK (f (3 + 12 * m + 0)) (f (3 + 12 * m + 1)) (f (3 + 12 * m + 2)) (v (M + 8) (4 * B + m)) (f (3 + 12 * m + 3)) (v (M + 9) (4 * B + m)) (v (M + 10) (4 * B + m)) later x
  · rw [if_pos c]
    obtain ⟨-, c1, c2⟩ := c
    unfold tv
    omega
  · rw [if_neg c]
    exact Or.inl rfl
theorem hrI_at {v : QV} {M B later m : Int} {nm f : Int → Int} (h0 : 0 ≤ m) : ∀ n : Nat, m < (n : Int) → itF (fun m => hrF v M B later nm m) n f (3 + 12 * m + 4) = rtF v M B later (nm m) m f ∧ itF (fun m => hrF v M B later nm m) n f (3 + 12 * m + 3) = if v (M + 8) (4 * B + m) = 2 then @ite Int (isN (v (M + 8) (4 * B + m)) (v (M + 10) (4 * B + m)) (nm m)) (Classical.propDecidable _) (nm m) (-1) else f (3 + 12 * m + 3)
  | 0, h => by omega
  | n + 1, h => by
    show hrF v M B later nm n _ _ = _ ∧ hrF v M B later nm n _ _ = _
    by_cases e : m = n
    · subst e
      have fr : ∀ j, 0 ≤ j → j < 12 → itF (fun m => hrF v M B later nm m) n f (3 + 12 * (n : Int) + j) = f (3 + 12 * (n : Int) + j) := fun j j0 j1 => hrI_fr n (fun m' q0 q1 => by omega)
      have er : rtF v M B later (nm n) n (itF (fun m => hrF v M B later nm m) n f) = rtF v M B later (nm n) n f := rtF_cong (fun i i0 i1 => fr i i0 (by omega))
      have f3 := fr 3 (by decide) (by decide)
      generalize itF (fun m => hrF v M B later nm m) n f = g at *
      unfold hrF
      rw [er]
      by_cases c : v (M + 8) (4 * B + (n : Int)) = 2
      · rw [if_pos c, if_pos c]
        exact ⟨by rw [fu_ne (by omega), fu_is], fu_is⟩
      · rw [if_neg c, if_neg c]
        exact ⟨fu_is, by rw [fu_ne (by omega)]; exact f3⟩
    · rw [hrF_fr (by omega), hrF_fr (by omega)]
      exact hrI_at h0 n (by omega)
theorem heF_at {v : QV} {M B later m : Int} {nm f : Int → Int} (hm : 0 ≤ m ∧ m < v (M + 3) B) : heF v M B later nm f (3 + 12 * m + 4) = rtF v M B later (nm m) m f ∧ heF v M B later nm f (3 + 12 * m + 3) = if v (M + 8) (4 * B + m) = 2 then @ite Int (isN (v (M + 8) (4 * B + m)) (v (M + 10) (4 * B + m)) (nm m)) (Classical.propDecidable _) (nm m) (-1) else f (3 + 12 * m + 3) := by
  have := hrI_at (v := v) (M := M) (B := B) (later := later) (nm := nm) (f := fu f 2 (f 2 + 1)) hm.1 (v (M + 3) B).toNat (by omega)
  rw [rtF_cong (f := f) (fun i i0 i1 => fu_ne (by omega)), fu_ne (show 3 + 12 * m + 3 ≠ 2 by omega)] at this
  exact this
theorem heF_fr {v : QV} {M B later k : Int} {nm f : Int → Int} (hn : v (M + 3) B ≤ 4) (h2 : k ≠ 2) (h : ∀ m, 0 ≤ m → m < 4 → k ≠ 3 + 12 * m + 3 ∧ k ≠ 3 + 12 * m + 4) : heF v M B later nm f k = f k := by
  unfold heF
  rw [hrI_fr _ (fun m m0 m1 => h m m0 (by omega)), fu_ne h2]
theorem heF_2 {v : QV} {M B later : Int} {nm f : Int → Int} : heF v M B later nm f 2 = f 2 + 1 := by
  unfold heF
  rw [hrI_fr _ (fun m m0 m1 => by omega), fu_is]
theorem FI.heard {v : QV} {M B later k : Int} {nm f : Int → Int} (hP : PB v M B) (h : FI v M B f k) (hr : ∀ m, 0 ≤ m → m < v (M + 3) B → FIh v M B later m f) : FI v M B (heF v M B later nm f) k := by
  obtain ⟨pst, pn, pna, pf, pa⟩ := hP
  have hn : v (M + 3) B ≤ 4 := by omega
  obtain ⟨h1, h2, h3, h4⟩ := h
  have e1 : heF v M B later nm f 1 = f 1 := heF_fr hn (by omega) (fun m _ _ => by omega)
  have hi : ∀ k, 51 ≤ k → heF v M B later nm f k = f k := fun k hk => heF_fr hn (by omega) (fun m _ _ => by omega)
  refine ⟨by rw [e1]; exact h1, fun m m0 m1 => ?_, fun a a0 a1 => ⟨?_, fun m m0 m1 => ?_⟩, fun m m0 m1 m2 => ?_⟩
  · obtain ⟨q4, q7, q6⟩ := h2 m m0 m1
    have t6 : heF v M B later nm f (3 + 12 * m + 6) = f (3 + 12 * m + 6) := heF_fr hn (by omega) (fun m _ _ => by omega)
    have t7 : heF v M B later nm f (3 + 12 * m + 7) = f (3 + 12 * m + 7) := heF_fr hn (by omega) (fun m _ _ => by omega)
    unfold FIm
    rw [(heF_at ⟨m0, m1⟩).1, t6, t7]
    exact ⟨rtF_tv (hr m m0 m1), q7, q6⟩
  · rw [hi _ (by omega)]; exact (h3 a a0 a1).1
  · rw [e1]
    exact ((h3 a a0 a1).2 m m0 m1).cong (fun i i0 i1 => hi _ (by omega))
  · exact (h4 m m0 m1 m2).cong (fun i i0 i1 => hi _ (by omega))
theorem FIh.cong {v : QV} {M B later m : Int} {f g : Int → Int} (h : FIh v M B later m f) (he : ∀ i, 0 ≤ i → i < 4 → g (3 + 12 * m + i) = f (3 + 12 * m + i)) : FIh v M B later m g := by
  unfold FIh at h ⊢
  rw [he 1 (by decide) (by decide), he 2 (by decide) (by decide), he 3 (by decide) (by decide)]
  exact h
section GO
variable {S : QS} {v w : QV} {b M P B s : Int} {f F : Int → Int}
theorem f_goRead (h : LMo S v M) (hB : v M 28 = B) (hB2 : B = 0 ∨ B = 1) (hP : PB v M B) (hRM : RM S (vf v (M + 1) f) M B) {later : Int} {nm : Int → Int} (hl : 1 ≤ later ∧ later ≤ 1000) (hn : ∀ k, v (M + 32) k = nm k) (hr : ∀ m, 0 ≤ m → m < v (M + 3) B → FIh v M B later m f) (h0 : 0 ≤ f 0 ∧ f 0 ≤ 100000) (h1 : f 1 = f 0 / v (M + 2) B) (h2 : 0 ≤ f 2 ∧ f 2 ≤ 1000000) (hF : FI v M B f (f 0 % v (M + 2) B)) : mX12_goRead [M, later] S (vf v (M + 1) f) = some ((f 0 + later) / v (M + 2) B - f 1, vf v (M + 1) (goF v M B later nm f)) := by
  obtain ⟨pst, pn, pna, pf, pa⟩ := id hP
  have hn4 : v (M + 3) B ≤ 4 := by omega
  have hs : 0 < v (M + 2) B := by omega
  have hw := fun g => h.keep (Kp.vf h (f := g))
  have hmany := fun g => f_many (S := S) (f := g) h hB hB2
  have eB : ∀ g, vf v (M + 1) g M 28 = B := fun g => by rw [vf_ne (by omega)]; exact hB
  have e2 : ∀ g, vf v (M + 1) g (M + 2) B = v (M + 2) B := fun g => vf_ne (by omega)
  have o2 : 0 ≤ B ∧ B < 2 := by omega
  have i1 : w64 (f 2 + 1) = f 2 + 1 := w64_e (by omega)
  apply wM_eq
  simp only [mX12_goRead, sX12_goRead, wM_q]
  generalize hL : aL 0 [2, 0] [M, later] = L
  have m0 : L 0 = M := by rw [← hL]; simp [lu_ap, aL_ap, ct_0, ct_1, ct_2]
  have m1 : L 1 = later := by rw [← hL]; simp [lu_ap, aL_ap, ct_0, ct_1, ct_2]
  clear hL
  refine ws_step (L' := L) (w := vf v (M + 1) (fu f 2 (f 2 + 1))) (by simp only [wE_I, wE_V, wE_F, wE_A, wE_N, wE_1, wE_2, wE_D, wE_B, wE_If, wE_C, wE_CV, wE_SL, wE_SA, wA_0, wA_1, wC_B, wC_E, wC_And, wC_Or, wC_Not, wS_Skip, wS_Brk, wS_Cnt, wS_RetV, wS_Ret, wS_Seq, wS_Set, wS_Inc, wS_Do, wS_Put, wS_PutC, wS_Arr, wS_ArrC, wS_If, wS_Sw, wS_F0, wS_F1, wM_q, lu_ap, aL_ap, ct_0, ct_1, ct_2, ct_3, ct_4, ct_5, headD_1, List.mem_cons, List.not_mem_nil, or_false, false_or, or_true, true_or, true_and, and_true, false_and, and_false, not_true_eq_false, not_false_eq_true, if_true, if_false, nr_20, nr_24, nr_40, nr_41, nr_44, pt_lt, pt_ge, pt_eq, pt_ne, pt_gt, pt_le, pt_E, pt_N, pt_F, ite_10, ite_11, ne_eq, and_self, or_self, decide_true, decide_false, Bool.not_true, Bool.not_false, Bool.false_eq_true, Nat.reduceEqDiff, Nat.reduceAdd, Int.reduceEq, Int.reduceLT, Int.reduceLE, Int.reduceNeg, Int.reduceAdd, Int.reduceSub, Int.reduceMul, reduceCtorEq, iA, iS, iM, iD, iR, iN, lA, lS, lM, lD, lR, h.k, (hw _).p0, h.a1, h.n1, vf_is, vf_vu, m0, i1]) ?_
  clear i1
  rw [wS_Seq]
  refine wS_mono (Q' := fun k _ L' w => k = 0 ∧ (L' 0 = M ∧ L' 1 = later) ∧ w = vf v (M + 1) (heF v M B later nm f)) ?_ ?_
  · unfold heF
    simp only [wE_I, wE_V, wE_F, wE_A, wE_N, wE_1, wE_2, wE_D, wE_B, wE_If, wE_C, wE_CV, wE_SL, wE_SA, wA_0, wA_1, wC_B, wC_E, wC_And, wC_Or, wC_Not, wS_Skip, wS_Brk, wS_Cnt, wS_RetV, wS_Ret, wS_Seq, wS_Set, wS_Inc, wS_Do, wS_Put, wS_PutC, wS_Arr, wS_ArrC, wS_If, wS_Sw, wS_F0, wS_F1, wM_q, lu_ap, aL_ap, ct_0, ct_1, ct_2, ct_3, ct_4, ct_5, headD_1, List.mem_cons, List.not_mem_nil, or_false, false_or, or_true, true_or, true_and, and_true, false_and, and_false, not_true_eq_false, not_false_eq_true, if_true, if_false, nr_20, nr_24, nr_40, nr_41, nr_44, pt_lt, pt_ge, pt_eq, pt_ne, pt_gt, pt_le, pt_E, pt_N, pt_F, ite_10, ite_11, ne_eq, and_self, or_self, decide_true, decide_false, Bool.not_true, Bool.not_false, Bool.false_eq_true, Nat.reduceEqDiff, Nat.reduceAdd, Int.reduceEq, Int.reduceLT, Int.reduceLE, Int.reduceNeg, Int.reduceAdd, Int.reduceSub, Int.reduceMul, reduceCtorEq, iA, iS, iM, iD, iR, iN, lA, lS, lM, lD, lR]
    refine wS_For (v (M + 3) B).toNat (fun j L' w => (L' 0 = M ∧ L' 1 = later ∧ L' 2 = j) ∧ w = vf v (M + 1) (itF (fun m => hrF v M B later nm m) j (fu f 2 (f 2 + 1)))) (by omega) ?_ ?_ ?_
    · exact ⟨⟨by simp [lu_ap, m0], by simp [lu_ap, m1], by simp [lu_ap]⟩, rfl⟩
    · rintro j L' w hj ⟨⟨l0, l1, l2⟩, rfl⟩
      have hjn : (j : Int) < v (M + 3) B := by omega
      have hm : 0 ≤ (j : Int) ∧ (j : Int) < 4 := by omega
      have e1 : w32 ((j : Int) + 1) = j + 1 := w32_e (by omega)
      have fr : ∀ k, k ≠ 2 → (∀ m, 0 ≤ m → m < (j : Int) → k ≠ 3 + 12 * m + 3 ∧ k ≠ 3 + 12 * m + 4) → itF (fun m => hrF v M B later nm m) j (fu f 2 (f 2 + 1)) k = f k := fun k q1 q2 => by
        rw [hrI_fr j q2, fu_ne q1]
      have hRj := RM_vf (F := itF (fun m => hrF v M B later nm m) j (fu f 2 (f 2 + 1))) hRM h (fr 0 (by decide) (fun m _ _ => by clear e1; omega)) (fr 1 (by decide) (fun m _ _ => by clear e1; omega)) (fun a a0 a1 => fr _ (by clear e1; omega) (fun m _ _ => by clear e1; omega))
      have hh := f_hear hRj h hm ((hr j hm.1 hjn).cong (fun i i0 i1 => fr _ (by clear e1; omega) (fun m _ _ => by clear e1; omega))) hn l0 l1 l2
      simp only [cX12_goRead_1, wE_I, wE_V, wE_F, wE_A, wE_N, wE_1, wE_2, wE_D, wE_B, wE_If, wE_C, wE_CV, wE_SL, wE_SA, wA_0, wA_1, wC_B, wC_E, wC_And, wC_Or, wC_Not, wS_Skip, wS_Brk, wS_Cnt, wS_RetV, wS_Ret, wS_Seq, wS_Set, wS_Inc, wS_Do, wS_Put, wS_PutC, wS_Arr, wS_ArrC, wS_If, wS_Sw, wS_F0, wS_F1, wM_q, lu_ap, aL_ap, ct_0, ct_1, ct_2, ct_3, ct_4, ct_5, headD_1, List.mem_cons, List.not_mem_nil, or_false, false_or, or_true, true_or, true_and, and_true, false_and, and_false, not_true_eq_false, not_false_eq_true, if_true, if_false, nr_20, nr_24, nr_40, nr_41, nr_44, pt_lt, pt_ge, pt_eq, pt_ne, pt_gt, pt_le, pt_E, pt_N, pt_F, ite_10, ite_11, ne_eq, and_self, or_self, decide_true, decide_false, Bool.not_true, Bool.not_false, Bool.false_eq_true, Nat.reduceEqDiff, Nat.reduceAdd, Int.reduceEq, Int.reduceLT, Int.reduceLE, Int.reduceNeg, Int.reduceAdd, Int.reduceSub, Int.reduceMul, reduceCtorEq, iA, iS, iM, iD, iR, iN, lA, lS, lM, lD, lR, h.k, l0, l2, wM_of (hmany _), hjn]
      refine wS_mono hh ?_
      rintro k z L3 w3 ⟨rfl, rfl, rfl⟩
      simp only [uX12_goRead_1, wE_I, wE_V, wE_F, wE_A, wE_N, wE_1, wE_2, wE_D, wE_B, wE_If, wE_C, wE_CV, wE_SL, wE_SA, wA_0, wA_1, wC_B, wC_E, wC_And, wC_Or, wC_Not, wS_Skip, wS_Brk, wS_Cnt, wS_RetV, wS_Ret, wS_Seq, wS_Set, wS_Inc, wS_Do, wS_Put, wS_PutC, wS_Arr, wS_ArrC, wS_If, wS_Sw, wS_F0, wS_F1, wM_q, lu_ap, aL_ap, ct_0, ct_1, ct_2, ct_3, ct_4, ct_5, headD_1, List.mem_cons, List.not_mem_nil, or_false, false_or, or_true, true_or, true_and, and_true, false_and, and_false, not_true_eq_false, not_false_eq_true, if_true, if_false, nr_20, nr_24, nr_40, nr_41, nr_44, pt_lt, pt_ge, pt_eq, pt_ne, pt_gt, pt_le, pt_E, pt_N, pt_F, ite_10, ite_11, ne_eq, and_self, or_self, decide_true, decide_false, Bool.not_true, Bool.not_false, Bool.false_eq_true, Nat.reduceEqDiff, Nat.reduceAdd, Int.reduceEq, Int.reduceLT, Int.reduceLE, Int.reduceNeg, Int.reduceAdd, Int.reduceSub, Int.reduceMul, reduceCtorEq, iA, iS, iM, iD, iR, iN, lA, lS, lM, lD, lR, l0, l1, l2, e1]
      exact ⟨rfl, rfl⟩
    · rintro L' w ⟨⟨l0, l1, l2⟩, rfl⟩
      have l3 : L' 2 = v (M + 3) B := by omega
      simp only [cX12_goRead_1, wE_I, wE_V, wE_F, wE_A, wE_N, wE_1, wE_2, wE_D, wE_B, wE_If, wE_C, wE_CV, wE_SL, wE_SA, wA_0, wA_1, wC_B, wC_E, wC_And, wC_Or, wC_Not, wS_Skip, wS_Brk, wS_Cnt, wS_RetV, wS_Ret, wS_Seq, wS_Set, wS_Inc, wS_Do, wS_Put, wS_PutC, wS_Arr, wS_ArrC, wS_If, wS_Sw, wS_F0, wS_F1, wM_q, lu_ap, aL_ap, ct_0, ct_1, ct_2, ct_3, ct_4, ct_5, headD_1, List.mem_cons, List.not_mem_nil, or_false, false_or, or_true, true_or, true_and, and_true, false_and, and_false, not_true_eq_false, not_false_eq_true, if_true, if_false, nr_20, nr_24, nr_40, nr_41, nr_44, pt_lt, pt_ge, pt_eq, pt_ne, pt_gt, pt_le, pt_E, pt_N, pt_F, ite_10, ite_11, ne_eq, and_self, or_self, decide_true, decide_false, Bool.not_true, Bool.not_false, Bool.false_eq_true, Nat.reduceEqDiff, Nat.reduceAdd, Int.reduceEq, Int.reduceLT, Int.reduceLE, Int.reduceNeg, Int.reduceAdd, Int.reduceSub, Int.reduceMul, reduceCtorEq, iA, iS, iM, iD, iR, iN, lA, lS, lM, lD, lR, h.k, l0, l3, wM_of (hmany _)]
      exact ⟨Int.lt_irrefl _, l1⟩
  · rintro k z L1 w1 ⟨rfl, ⟨l0, l1⟩, rfl⟩
    rw [if_pos rfl]
    have hF1 := hF.heard (nm := nm) hP hr
    have g0 : heF v M B later nm f 0 = f 0 := heF_fr hn4 (by omega) (fun m _ _ => by omega)
    have g1 : heF v M B later nm f 1 = f 1 := heF_fr hn4 (by omega) (fun m _ _ => by omega)
    unfold goF
    generalize heF v M B later nm f = g at *
    have inv := stI_inv (f := g) hP (by rw [g0]; exact h0) (by rw [g0, g1]; exact h1) (by rw [g0]; exact hF1)
    rw [g0] at inv
    have hq0 : ∀ j : Nat, j ≤ 1000 → f 1 ≤ (f 0 + j) / v (M + 2) B ∧ (f 0 + j) / v (M + 2) B ≤ 101000 := fun j hj => by
      refine ⟨?_, ?_⟩
      · rw [h1]; exact Int.ediv_le_ediv hs (by omega)
      · have := Int.ediv_le_self (v (M + 2) B) (show 0 ≤ f 0 + j by omega)
        omega
    have hf1 : 0 ≤ f 1 := by rw [h1]; exact Int.ediv_nonneg h0.1 (by omega)
    refine ws_step (L' := lu L1 2 0) (w := vf v (M + 1) g) (by simp only [wE_I, wE_V, wE_F, wE_A, wE_N, wE_1, wE_2, wE_D, wE_B, wE_If, wE_C, wE_CV, wE_SL, wE_SA, wA_0, wA_1, wC_B, wC_E, wC_And, wC_Or, wC_Not, wS_Skip, wS_Brk, wS_Cnt, wS_RetV, wS_Ret, wS_Seq, wS_Set, wS_Inc, wS_Do, wS_Put, wS_PutC, wS_Arr, wS_ArrC, wS_If, wS_Sw, wS_F0, wS_F1, wM_q, lu_ap, aL_ap, ct_0, ct_1, ct_2, ct_3, ct_4, ct_5, headD_1, List.mem_cons, List.not_mem_nil, or_false, false_or, or_true, true_or, true_and, and_true, false_and, and_false, not_true_eq_false, not_false_eq_true, if_true, if_false, nr_20, nr_24, nr_40, nr_41, nr_44, pt_lt, pt_ge, pt_eq, pt_ne, pt_gt, pt_le, pt_E, pt_N, pt_F, ite_10, ite_11, ne_eq, and_self, or_self, decide_true, decide_false, Bool.not_true, Bool.not_false, Bool.false_eq_true, Nat.reduceEqDiff, Nat.reduceAdd, Int.reduceEq, Int.reduceLT, Int.reduceLE, Int.reduceNeg, Int.reduceAdd, Int.reduceSub, Int.reduceMul, reduceCtorEq, iA, iS, iM, iD, iR, iN, lA, lS, lM, lD, lR]) ?_
    simp only [wE_I, wE_V, wE_F, wE_A, wE_N, wE_1, wE_2, wE_D, wE_B, wE_If, wE_C, wE_CV, wE_SL, wE_SA, wA_0, wA_1, wC_B, wC_E, wC_And, wC_Or, wC_Not, wS_Skip, wS_Brk, wS_Cnt, wS_RetV, wS_Ret, wS_Seq, wS_Set, wS_Inc, wS_Do, wS_Put, wS_PutC, wS_Arr, wS_ArrC, wS_If, wS_Sw, wS_F0, wS_F1, wM_q, lu_ap, aL_ap, ct_0, ct_1, ct_2, ct_3, ct_4, ct_5, headD_1, List.mem_cons, List.not_mem_nil, or_false, false_or, or_true, true_or, true_and, and_true, false_and, and_false, not_true_eq_false, not_false_eq_true, if_true, if_false, nr_20, nr_24, nr_40, nr_41, nr_44, pt_lt, pt_ge, pt_eq, pt_ne, pt_gt, pt_le, pt_E, pt_N, pt_F, ite_10, ite_11, ne_eq, and_self, or_self, decide_true, decide_false, Bool.not_true, Bool.not_false, Bool.false_eq_true, Nat.reduceEqDiff, Nat.reduceAdd, Int.reduceEq, Int.reduceLT, Int.reduceLE, Int.reduceNeg, Int.reduceAdd, Int.reduceSub, Int.reduceMul, reduceCtorEq, iA, iS, iM, iD, iR, iN, lA, lS, lM, lD, lR]
    refine wS_For later.toNat (fun j L' w => (L' 0 = M ∧ L' 1 = later ∧ L' 2 = (f 0 + j) / v (M + 2) B - f 1 ∧ L' 3 = j) ∧ w = vf v (M + 1) (itF (fun _ => stF v M B) j g)) (by omega) ?_ ?_ ?_
    · refine ⟨⟨by simp [lu_ap, l0], by simp [lu_ap, l1], ?_, by simp [lu_ap]⟩, rfl⟩
      simp [lu_ap, h1]
    · rintro j L' w hj ⟨⟨l0, l1, l2, l3⟩, rfl⟩
      have hjl : (j : Int) < later := by omega
      obtain ⟨j0, j1, j2⟩ := inv j (by omega)
      obtain ⟨qa, qb⟩ := hq0 j (by omega)
      have fin : itF (fun _ => stF v M B) (j + 1) g = stF v M B (itF (fun _ => stF v M B) j g) := rfl
      rw [fin]
      clear fin
      generalize itF (fun _ => stF v M B) j g = G at *
      have hj100 := Int.emod_lt_of_pos (f 0 + j) hs
      have hjn0 := Int.emod_nonneg (f 0 + (j : Int)) (show v (M + 2) B ≠ 0 by omega)
      have ft := fun (L' : QL) (z : L' 0 = M) => f_tick (S := S) h hB hB2 hP (show (f 0 + (j : Int)) % v (M + 2) B ≤ 100 by omega) j2 z
      have hti := j2.tick hP
      have t0 := tkF_0 (v := v) (M := M) (B := B) (f := G)
      have t1 : tkF v M B G 1 = G 1 := tkF_fr (by omega) (fun m _ _ => by omega) hn4
      rw [j0] at t0
      have hms := mod_s (x := f 0 + j) hs
      have hds := div_s (x := f 0 + j) hs
      have i1 : w64 (G 0 + 1) = G 0 + 1 := w64_e (by omega)
      have e1 : w32 ((j : Int) + 1) = j + 1 := by clear i1; exact w32_e (by omega)
      simp only [cX12_goRead_2, wE_I, wE_V, wE_F, wE_A, wE_N, wE_1, wE_2, wE_D, wE_B, wE_If, wE_C, wE_CV, wE_SL, wE_SA, wA_0, wA_1, wC_B, wC_E, wC_And, wC_Or, wC_Not, wS_Skip, wS_Brk, wS_Cnt, wS_RetV, wS_Ret, wS_Seq, wS_Set, wS_Inc, wS_Do, wS_Put, wS_PutC, wS_Arr, wS_ArrC, wS_If, wS_Sw, wS_F0, wS_F1, wM_q, lu_ap, aL_ap, ct_0, ct_1, ct_2, ct_3, ct_4, ct_5, headD_1, List.mem_cons, List.not_mem_nil, or_false, false_or, or_true, true_or, true_and, and_true, false_and, and_false, not_true_eq_false, not_false_eq_true, if_true, if_false, nr_20, nr_24, nr_40, nr_41, nr_44, pt_lt, pt_ge, pt_eq, pt_ne, pt_gt, pt_le, pt_E, pt_N, pt_F, ite_10, ite_11, ne_eq, and_self, or_self, decide_true, decide_false, Bool.not_true, Bool.not_false, Bool.false_eq_true, Nat.reduceEqDiff, Nat.reduceAdd, Int.reduceEq, Int.reduceLT, Int.reduceLE, Int.reduceNeg, Int.reduceAdd, Int.reduceSub, Int.reduceMul, reduceCtorEq, iA, iS, iM, iD, iR, iN, lA, lS, lM, lD, lR, l1, l3, hjl]
      unfold bX12_goRead_2
      refine ws_step (L' := L') (w := vf v (M + 1) (fu G 0 (G 0 + 1))) (by simp only [wE_I, wE_V, wE_F, wE_A, wE_N, wE_1, wE_2, wE_D, wE_B, wE_If, wE_C, wE_CV, wE_SL, wE_SA, wA_0, wA_1, wC_B, wC_E, wC_And, wC_Or, wC_Not, wS_Skip, wS_Brk, wS_Cnt, wS_RetV, wS_Ret, wS_Seq, wS_Set, wS_Inc, wS_Do, wS_Put, wS_PutC, wS_Arr, wS_ArrC, wS_If, wS_Sw, wS_F0, wS_F1, wM_q, lu_ap, aL_ap, ct_0, ct_1, ct_2, ct_3, ct_4, ct_5, headD_1, List.mem_cons, List.not_mem_nil, or_false, false_or, or_true, true_or, true_and, and_true, false_and, and_false, not_true_eq_false, not_false_eq_true, if_true, if_false, nr_20, nr_24, nr_40, nr_41, nr_44, pt_lt, pt_ge, pt_eq, pt_ne, pt_gt, pt_le, pt_E, pt_N, pt_F, ite_10, ite_11, ne_eq, and_self, or_self, decide_true, decide_false, Bool.not_true, Bool.not_false, Bool.false_eq_true, Nat.reduceEqDiff, Nat.reduceAdd, Int.reduceEq, Int.reduceLT, Int.reduceLE, Int.reduceNeg, Int.reduceAdd, Int.reduceSub, Int.reduceMul, reduceCtorEq, iA, iS, iM, iD, iR, iN, lA, lS, lM, lD, lR, h.k, (hw _).p0, h.a1, h.n1, vf_is, vf_vu, l0, i1]) ?_
      clear i1
      rw [wS_Seq]
      refine wS_mono (ft L' l0) ?_
      rintro k z L3 w3 ⟨rfl, lf, rfl⟩
      rw [if_pos rfl]
      have n0 : L3 0 = M := by rw [lf 0 (by decide)]; exact l0
      have n1 : L3 1 = later := by rw [lf 1 (by decide)]; exact l1
      have n2 : L3 2 = (f 0 + j) / v (M + 2) B - f 1 := by rw [lf 2 (by decide)]; exact l2
      have n3 : L3 3 = j := by rw [lf 3 (by decide)]; exact l3
      unfold stF
      have hz : ¬ v (M + 2) B = 0 := by clear e1; omega
      have ge : 0 ≤ f 0 + (j : Int) + 1 := by clear e1; omega
      have ecast : f 0 + ((j + 1 : Nat) : Int) = f 0 + j + 1 := by clear e1; omega
      rw [t0]
      by_cases c : (f 0 + (j : Int)) % v (M + 2) B + 1 = v (M + 2) B
      · rw [if_pos c] at hms hds
        rw [hms, if_pos rfl]
        rw [c] at hti
        have hc := f_closeStep (S := S) h hB hB2 hP hti (by rw [t1]; clear e1; omega)
        have e3 : w32 ((f 0 + (j : Int)) / v (M + 2) B - f 1 + 1) = (f 0 + (j : Int)) / v (M + 2) B - f 1 + 1 := by clear e1; exact w32_e (by omega)
        simp only [wE_I, wE_V, wE_F, wE_A, wE_N, wE_1, wE_2, wE_D, wE_B, wE_If, wE_C, wE_CV, wE_SL, wE_SA, wA_0, wA_1, wC_B, wC_E, wC_And, wC_Or, wC_Not, wS_Skip, wS_Brk, wS_Cnt, wS_RetV, wS_Ret, wS_Seq, wS_Set, wS_Inc, wS_Do, wS_Put, wS_PutC, wS_Arr, wS_ArrC, wS_If, wS_Sw, wS_F0, wS_F1, wM_q, lu_ap, aL_ap, ct_0, ct_1, ct_2, ct_3, ct_4, ct_5, headD_1, List.mem_cons, List.not_mem_nil, or_false, false_or, or_true, true_or, true_and, and_true, false_and, and_false, not_true_eq_false, not_false_eq_true, if_true, if_false, nr_20, nr_24, nr_40, nr_41, nr_44, pt_lt, pt_ge, pt_eq, pt_ne, pt_gt, pt_le, pt_E, pt_N, pt_F, ite_10, ite_11, ne_eq, and_self, or_self, decide_true, decide_false, Bool.not_true, Bool.not_false, Bool.false_eq_true, Nat.reduceEqDiff, Nat.reduceAdd, Int.reduceEq, Int.reduceLT, Int.reduceLE, Int.reduceNeg, Int.reduceAdd, Int.reduceSub, Int.reduceMul, reduceCtorEq, iA, iS, iM, iD, iR, iN, lA, lS, lM, lD, lR, h.k, (hw _).p0, h.a1, h.n1, (hw _).p1, h.a2, h.n2, vf_is, eB, e2, o2, n0, n1, n2, n3, t0, tmod_n ge, hms, hz, w64_e (z := 0) (by decide), wM_of hc, uX12_goRead_2, e1, e3]
        clear e1 e3
        rw [ecast, hds]
        refine ⟨by omega, ?_⟩
        omega
      · rw [if_neg c] at hms hds
        have hc0 : ¬ (f 0 + (j : Int)) % v (M + 2) B + 1 = 0 := by clear e1; omega
        rw [hms, if_neg hc0]
        have i3 : w64 ((f 0 + (j : Int)) % v (M + 2) B + 1) = (f 0 + (j : Int)) % v (M + 2) B + 1 := by clear e1; exact w64_e (by omega)
        simp only [wE_I, wE_V, wE_F, wE_A, wE_N, wE_1, wE_2, wE_D, wE_B, wE_If, wE_C, wE_CV, wE_SL, wE_SA, wA_0, wA_1, wC_B, wC_E, wC_And, wC_Or, wC_Not, wS_Skip, wS_Brk, wS_Cnt, wS_RetV, wS_Ret, wS_Seq, wS_Set, wS_Inc, wS_Do, wS_Put, wS_PutC, wS_Arr, wS_ArrC, wS_If, wS_Sw, wS_F0, wS_F1, wM_q, lu_ap, aL_ap, ct_0, ct_1, ct_2, ct_3, ct_4, ct_5, headD_1, List.mem_cons, List.not_mem_nil, or_false, false_or, or_true, true_or, true_and, and_true, false_and, and_false, not_true_eq_false, not_false_eq_true, if_true, if_false, nr_20, nr_24, nr_40, nr_41, nr_44, pt_lt, pt_ge, pt_eq, pt_ne, pt_gt, pt_le, pt_E, pt_N, pt_F, ite_10, ite_11, ne_eq, and_self, or_self, decide_true, decide_false, Bool.not_true, Bool.not_false, Bool.false_eq_true, Nat.reduceEqDiff, Nat.reduceAdd, Int.reduceEq, Int.reduceLT, Int.reduceLE, Int.reduceNeg, Int.reduceAdd, Int.reduceSub, Int.reduceMul, reduceCtorEq, iA, iS, iM, iD, iR, iN, lA, lS, lM, lD, lR, h.k, (hw _).p0, h.a1, h.n1, (hw _).p1, h.a2, h.n2, vf_is, eB, e2, o2, n0, n1, n2, n3, t0, tmod_n ge, hms, hz, i3, hc0, uX12_goRead_2, e1]
        clear e1 i3
        rw [ecast, hds]
        refine ⟨by omega, ?_⟩
        omega
    · rintro L' w ⟨⟨l0, l1, l2, l3⟩, rfl⟩
      have l4 : L' 3 = later := by omega
      have ec : ((later.toNat : Nat) : Int) = later := by omega
      rw [ec] at l2
      simp only [cX12_goRead_2, wE_I, wE_V, wE_F, wE_A, wE_N, wE_1, wE_2, wE_D, wE_B, wE_If, wE_C, wE_CV, wE_SL, wE_SA, wA_0, wA_1, wC_B, wC_E, wC_And, wC_Or, wC_Not, wS_Skip, wS_Brk, wS_Cnt, wS_RetV, wS_Ret, wS_Seq, wS_Set, wS_Inc, wS_Do, wS_Put, wS_PutC, wS_Arr, wS_ArrC, wS_If, wS_Sw, wS_F0, wS_F1, wM_q, lu_ap, aL_ap, ct_0, ct_1, ct_2, ct_3, ct_4, ct_5, headD_1, List.mem_cons, List.not_mem_nil, or_false, false_or, or_true, true_or, true_and, and_true, false_and, and_false, not_true_eq_false, not_false_eq_true, if_true, if_false, nr_20, nr_24, nr_40, nr_41, nr_44, pt_lt, pt_ge, pt_eq, pt_ne, pt_gt, pt_le, pt_E, pt_N, pt_F, ite_10, ite_11, ne_eq, and_self, or_self, decide_true, decide_false, Bool.not_true, Bool.not_false, Bool.false_eq_true, Nat.reduceEqDiff, Nat.reduceAdd, Int.reduceEq, Int.reduceLT, Int.reduceLE, Int.reduceNeg, Int.reduceAdd, Int.reduceSub, Int.reduceMul, reduceCtorEq, iA, iS, iM, iD, iR, iN, lA, lS, lM, lD, lR, l1, l4, l2]
      exact Int.lt_irrefl _
end GO
