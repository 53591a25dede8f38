/-! A READING: the class's pass, whole -/
theorem stI_fr {v : QV} {M B k : Int} {f : Int → Int} (hP : PB v M B) (hk : k = 2 ∨ ∃ m, 0 ≤ m ∧ m < 4 ∧ (k = 3 + 12 * m + 0 ∨ k = 3 + 12 * m + 1 ∨ k = 3 + 12 * m + 2 ∨ k = 3 + 12 * m + 3 ∨ k = 3 + 12 * m + 4)) : ∀ j : Nat, itF (fun _ => stF v M B) j f k = f k
  | 0 => rfl
  | j + 1 => by
    have hn := hP.2.1
    show stF v M B _ k = _
    have ih := stI_fr (f := f) hP hk j
    have ht : ∀ g, tkF v M B g k = g k := fun g => by
      rcases hk with rfl | ⟨m, m0, m1, hk⟩
      · exact tkF_fr (by omega) (fun m _ _ => by omega) (by omega)
      · exact tkF_fr (by omega) (fun m' _ _ => by omega) (by omega)
    generalize itF (fun _ => stF v M B) j f = g at *
    unfold stF
    split
    · rw [closeF_0 hP (Or.inr hk), ht, ih]
    · rw [ht, ih]
theorem SR.hst {v : QV} {P s M B : Int} {f : Int → Int} (hPR : PR v P M B) (h : SR v P s f) : HST v v P s f := by
  obtain ⟨h1, h2, h3, h4, h5, h6⟩ := h
  refine ⟨⟨h1.1, h3.1⟩, h4, fun a a0 a1 => ?_, h6⟩
  have e : f 0 / cU v P a = f 1 / v (P + (13 + a)) 1 := by
    unfold cU
    rw [h2, tdd (by have := hPR.1; omega)]
  obtain ⟨k1, k2⟩ := h5 a a0 a1
  rw [e] at k1 k2
  exact ⟨⟨k1, fun m m0 m1 => (k2 m m0 m1).2⟩, fun m m0 m1 => (k2 m m0 m1).1⟩
theorem HST.sr {v w : QV} {P s M B : Int} {f : Int → Int} (hPR : PR v P M B) (hw : ∀ a k, P ≤ a → a ≤ P + 16 → w a k = v a k) (h : HST v w P s f) (h0 : 0 ≤ f 0 ∧ f 0 ≤ 100000) (h1 : f 1 = f 0 / v P 0) (h2 : 0 ≤ f 2 ∧ f 2 ≤ f 0) : SR w P s f := by
  obtain ⟨q1, q4, q5, q6⟩ := h
  have hp0 := hPR.1
  have hn := hPR.2.1
  have hna := hPR.2.2.1
  have e0 : ∀ k, w P k = v P k := fun k => hw _ _ (by omega) (by omega)
  refine ⟨⟨q1.1, h0⟩, by rw [e0]; exact h1, ⟨q1.2, h2⟩, fun m m0 m1 => ?_, fun a a0 a1 => ?_, fun m m0 m1 m2 => ?_⟩
  · rw [e0] at m1
    have := q4 m m0 m1
    unfold SRm
    rw [e0]
    exact this
  · rw [e0] at a1
    have e : f 0 / cU w P a = f 1 / v (P + (13 + a)) 1 := by
      unfold cU
      rw [e0, hw (P + (13 + a)) 1 (by omega) (by omega), h1, tdd (by omega)]
    obtain ⟨⟨k1, k2⟩, k3⟩ := q5 a a0 a1
    unfold SRa
    rw [e, hw (P + (13 + a)) 2 (by omega) (by omega), hw (P + (13 + a)) 1 (by omega) (by omega), e0]
    exact ⟨k1, fun m m0 m1 => ⟨k3 m m0 m1, k2 m m0 m1⟩⟩
  · rw [e0] at m1
    rw [hw (P + (9 + m)) 6 (by omega) (by omega)] at m2
    exact q6 m m0 m1 m2
section PW
variable {S : QS} {v w : QV} {b M P B s : Int} {f F : Int → Int} {K D O : Int → Int} {N : Int → Int → Int}
theorem goF_f {later : Int} {nm : Int → Int} (hP : PB v M B) (hl : 1 ≤ later ∧ later ≤ 1000) (hr : ∀ m, 0 ≤ m → m < v (M + 3) B → FIh v M B later m f) (h0 : 0 ≤ f 0 ∧ f 0 ≤ 100000) (h1 : f 1 = f 0 / v (M + 2) B) (hF : FI v M B f (f 0 % v (M + 2) B)) : goF v M B later nm f 0 = f 0 + later ∧ goF v M B later nm f 1 = (f 0 + later) / v (M + 2) B ∧ goF v M B later nm f 2 = f 2 + 1 := by
  have hn4 := hP.2.1
  have hF1 := hF.heard (nm := nm) hP hr
  have g0 : heF v M B later nm f 0 = f 0 := heF_fr (by omega) (by omega) (fun m _ _ => by omega)
  have g1 : heF v M B later nm f 1 = f 1 := heF_fr (by omega) (by omega) (fun m _ _ => by omega)
  have g2 : heF v M B later nm f 2 = f 2 + 1 := heF_2
  unfold goF
  generalize heF v M B later nm f = g at *
  have inv := stI_inv (f := g) hP (by rw [g0]; exact h0) (by rw [g0, g1]; exact h1) (by rw [g0]; exact hF1) later.toNat (by omega)
  rw [g0, show ((later.toNat : Nat) : Int) = later by omega] at inv
  exact ⟨inv.1, inv.2.1, by rw [stI_fr hP (Or.inl rfl), g2]⟩
theorem c_pass {later nb : Int} {nm : Int → Int} (hSt : LSt S w s) (hPl : LPl S w P) (hPs : P + 16 < s) (hMs : s + 56 ≤ M) (hPR : PR v P M B) (hw : Fs s v w) (hl : 1 ≤ later ∧ later ≤ 1000) (hnb : S.1 nb = 20 ∧ S.2.1 nb = 4 ∧ s + 56 ≤ nb) (hnm : ∀ k, 0 ≤ k → k < 4 → v nb k = nm k) (hx : 0 ≤ f 0 ∧ f 0 + later ≤ 100000) (h1 : f 1 = f 0 / v P 0) (h2 : 0 ≤ f 2 ∧ f 2 ≤ 1000000) (h : HST v w P s f) : wM mX8_pass [s, P, later, nb] S w (fun r w' => r = (f 0 + later) / v P 0 - f 1 ∧ Kp S w w' ∧ Fs s v w' ∧ HST v w' P s (goF v M B later nm f)) := by
  obtain ⟨r1, r2, r3, r4, r5, r6, r7⟩ := id hPR
  have hn4 : v (M + 3) B ≤ 4 := by omega
  have hs : 0 < v P 0 := by omega
  have hf1 : 0 ≤ f 1 ∧ f 1 ≤ 100000 := by
    have a1 := Int.ediv_nonneg hx.1 (Int.le_of_lt hs)
    have a2 : f 0 / v P 0 ≤ f 0 := Int.ediv_le_self _ hx.1
    omega
  have hD : ∀ a, 0 ≤ a → a < v P 2 → 0 ≤ f 1 / v (P + (13 + a)) 1 := fun a a0 a1 => by
    have := (r6 a a0 a1).2.1
    exact Int.ediv_nonneg hf1.1 (by omega)
  have hFI : FI v M B f (f 0 % v P 0) := HS.FI hPR (by omega) h hD
  have hfih : ∀ m, 0 ≤ m → m < v (M + 3) B → FIh v M B later m f := fun m m0 m1 => (h.2.1 m m0 (by omega)).fih (r5 m m0 (by omega)) (fun k => hw _ _ (by omega)) hl
  have hpb := hPR.pb
  have hFI1 := hFI.heard (nm := nm) hpb hfih
  have g0 : heF v M B later nm f 0 = f 0 := heF_fr hn4 (by omega) (fun m _ _ => by omega)
  have g1 : heF v M B later nm f 1 = f 1 := heF_fr hn4 (by omega) (fun m _ _ => by omega)
  have i1 : w32 (f 2 + 1) = f 2 + 1 := w32_e (by omega)
  simp only [mX8_pass, sX8_pass, wM_q]
  generalize hL : aL 0 [2, 2, 0, 2] [s, P, later, nb] = L
  have m0 : L 0 = s := by rw [← hL]; simp [lu_ap, aL_ap, ct_0, ct_1, ct_2]
  have m1 : L 1 = P := by rw [← hL]; simp [lu_ap, aL_ap, ct_0, ct_1, ct_2]
  have m2 : L 2 = later := by rw [← hL]; simp [lu_ap, aL_ap, ct_0, ct_1, ct_2]
  have m3 : L 3 = nb := by rw [← hL]; simp [lu_ap, aL_ap, ct_0, ct_1, ct_2]
  clear hL
  rw [wS_Seq]
  refine wS_mono (c_hearMs (nm := nm) hSt hPl hPs hPR hw hl hnb hnm h m0 m1 m2 m3) ?_
  rintro k z L1 w1 ⟨rfl, lf, hk1, hm1, hfr1⟩
  rw [if_pos rfl]
  have hhe := h.he hPR hm1 hfr1 hPs
  have l0 : L1 0 = s := by rw [lf 0 (by decide)]; exact m0
  have l1 : L1 1 = P := by rw [lf 1 (by decide)]; exact m1
  have l2 : L1 2 = later := by rw [lf 2 (by decide)]; exact m2
  have w11 : w1 s 1 = f 2 := by rw [hfr1 _ _ (fun m _ _ => by clear i1; omega)]; exact h.1.2
  refine ws_step (L' := L1) (w := vu w1 s 1 (f 2 + 1)) (by simp only [wE_I, wE_V, wE_F, wE_A, wE_N, wE_1, wE_2, wE_D, wE_B, wE_If, wE_C, wE_CV, wE_SL, wE_SA, wA_0, wA_1, wC_B, wC_E, wC_And, wC_Or, wC_Not, wS_Skip, wS_Brk, wS_Cnt, wS_RetV, wS_Ret, wS_Seq, wS_Set, wS_Inc, wS_Do, wS_Put, wS_PutC, wS_Arr, wS_ArrC, wS_If, wS_Sw, wS_F0, wS_F1, wM_q, lu_ap, aL_ap, ct_0, ct_1, ct_2, ct_3, ct_4, ct_5, headD_1, List.mem_cons, List.not_mem_nil, or_false, false_or, or_true, true_or, true_and, and_true, false_and, and_false, not_true_eq_false, not_false_eq_true, if_true, if_false, nr_20, nr_24, nr_40, nr_41, nr_44, pt_lt, pt_ge, pt_eq, pt_ne, pt_gt, pt_le, pt_E, pt_N, pt_F, ite_10, ite_11, ne_eq, and_self, or_self, decide_true, decide_false, Bool.not_true, Bool.not_false, Bool.false_eq_true, Nat.reduceEqDiff, Nat.reduceAdd, Int.reduceEq, Int.reduceLT, Int.reduceLE, Int.reduceNeg, Int.reduceAdd, Int.reduceSub, Int.reduceMul, reduceCtorEq, iA, iS, iM, iD, iR, iN, lA, lS, lM, lD, lR, l0, hSt.k, w11, i1]) ?_
  clear i1
  have hk2 : Kp S w (vu w1 s 1 (f 2 + 1)) := hk1.vuc (by rw [hSt.k]; rfl)
  have hf2 : Fs s v (vu w1 s 1 (f 2 + 1)) := fun a k ha => by rw [vu_ne (by omega), hfr1 _ _ (fun m _ _ => by omega)]; exact hw a k ha
  generalize vu w1 s 1 (f 2 + 1) = w2 at *
  refine ws_step (L' := lu L1 4 0) (w := w2) (by simp only [wE_I, wE_V, wE_F, wE_A, wE_N, wE_1, wE_2, wE_D, wE_B, wE_If, wE_C, wE_CV, wE_SL, wE_SA, wA_0, wA_1, wC_B, wC_E, wC_And, wC_Or, wC_Not, wS_Skip, wS_Brk, wS_Cnt, wS_RetV, wS_Ret, wS_Seq, wS_Set, wS_Inc, wS_Do, wS_Put, wS_PutC, wS_Arr, wS_ArrC, wS_If, wS_Sw, wS_F0, wS_F1, wM_q, lu_ap, aL_ap, ct_0, ct_1, ct_2, ct_3, ct_4, ct_5, headD_1, List.mem_cons, List.not_mem_nil, or_false, false_or, or_true, true_or, true_and, and_true, false_and, and_false, not_true_eq_false, not_false_eq_true, if_true, if_false, nr_20, nr_24, nr_40, nr_41, nr_44, pt_lt, pt_ge, pt_eq, pt_ne, pt_gt, pt_le, pt_E, pt_N, pt_F, ite_10, ite_11, ne_eq, and_self, or_self, decide_true, decide_false, Bool.not_true, Bool.not_false, Bool.false_eq_true, Nat.reduceEqDiff, Nat.reduceAdd, Int.reduceEq, Int.reduceLT, Int.reduceLE, Int.reduceNeg, Int.reduceAdd, Int.reduceSub, Int.reduceMul, reduceCtorEq, iA, iS, iM, iD, iR, iN, lA, lS, lM, lD, lR]) ?_
  refine ws_step (L' := lu (lu L1 4 0) 5 later) (w := w2) (by simp only [wE_I, wE_V, wE_F, wE_A, wE_N, wE_1, wE_2, wE_D, wE_B, wE_If, wE_C, wE_CV, wE_SL, wE_SA, wA_0, wA_1, wC_B, wC_E, wC_And, wC_Or, wC_Not, wS_Skip, wS_Brk, wS_Cnt, wS_RetV, wS_Ret, wS_Seq, wS_Set, wS_Inc, wS_Do, wS_Put, wS_PutC, wS_Arr, wS_ArrC, wS_If, wS_Sw, wS_F0, wS_F1, wM_q, lu_ap, aL_ap, ct_0, ct_1, ct_2, ct_3, ct_4, ct_5, headD_1, List.mem_cons, List.not_mem_nil, or_false, false_or, or_true, true_or, true_and, and_true, false_and, and_false, not_true_eq_false, not_false_eq_true, if_true, if_false, nr_20, nr_24, nr_40, nr_41, nr_44, pt_lt, pt_ge, pt_eq, pt_ne, pt_gt, pt_le, pt_E, pt_N, pt_F, ite_10, ite_11, ne_eq, and_self, or_self, decide_true, decide_false, Bool.not_true, Bool.not_false, Bool.false_eq_true, Nat.reduceEqDiff, Nat.reduceAdd, Int.reduceEq, Int.reduceLT, Int.reduceLE, Int.reduceNeg, Int.reduceAdd, Int.reduceSub, Int.reduceMul, reduceCtorEq, iA, iS, iM, iD, iR, iN, lA, lS, lM, lD, lR, l2]) ?_
  unfold goF
  generalize heF v M B later nm f = g at *
  have inv := stI_inv (f := g) hpb (by rw [g0]; omega) (by rw [g0, g1, ← r1.1]; exact h1) (by rw [g0, ← r1.1]; exact hFI1)
  rw [g0, ← r1.1] at inv
  have hst0 : HST v w2 P s g := by unfold HST; rw [g0, g1]; exact hhe
  clear hhe hFI hFI1 hfih hm1 hfr1
  simp only [wE_I, wE_V, wE_F, wE_A, wE_N, wE_1, wE_2, wE_D, wE_B, wE_If, wE_C, wE_CV, wE_SL, wE_SA, wA_0, wA_1, wC_B, wC_E, wC_And, wC_Or, wC_Not, wS_Skip, wS_Brk, wS_Cnt, wS_RetV, wS_Ret, wS_Seq, wS_Set, wS_Inc, wS_Do, wS_Put, wS_PutC, wS_Arr, wS_ArrC, wS_If, wS_Sw, wS_F0, wS_F1, wM_q, lu_ap, aL_ap, ct_0, ct_1, ct_2, ct_3, ct_4, ct_5, headD_1, List.mem_cons, List.not_mem_nil, or_false, false_or, or_true, true_or, true_and, and_true, false_and, and_false, not_true_eq_false, not_false_eq_true, if_true, if_false, nr_20, nr_24, nr_40, nr_41, nr_44, pt_lt, pt_ge, pt_eq, pt_ne, pt_gt, pt_le, pt_E, pt_N, pt_F, ite_10, ite_11, ne_eq, and_self, or_self, decide_true, decide_false, Bool.not_true, Bool.not_false, Bool.false_eq_true, Nat.reduceEqDiff, Nat.reduceAdd, Int.reduceEq, Int.reduceLT, Int.reduceLE, Int.reduceNeg, Int.reduceAdd, Int.reduceSub, Int.reduceMul, reduceCtorEq, iA, iS, iM, iD, iR, iN, lA, lS, lM, lD, lR]
  refine wS_While (fun k L' w' => ∃ d : Nat, ∃ i : Int, (L' 0 = s ∧ L' 1 = P ∧ L' 2 = later ∧ L' 4 = (f 0 + d) / v P 0 - f 1 ∧ L' 5 = later - d ∧ L' 6 = i) ∧ (0 ≤ i ∧ i ≤ d ∧ (d : Int) ≤ later ∧ (k : Int) = later - d) ∧ Kp S w w' ∧ Fs s v w' ∧ HST v w' P s (itF (fun _ => stF v M B) d g)) later.toNat (by omega) ?_ ?_
  · refine ⟨0, 0, ⟨by simp [lu_ap, l0], by simp [lu_ap, l1], by simp [lu_ap, l2], ?_, by simp [lu_ap], by simp [lu_ap]⟩, by omega, hk2, hf2, hst0⟩
    simp [lu_ap, h1]
  · rintro k L' w' ⟨d, i, ⟨l0, l1, l2, l4, l5, l6⟩, ⟨hi0, hid, hdl, hkd⟩, hk, hf, hh⟩
    by_cases hr : (d : Int) < later
    · obtain ⟨j0, j1, j2⟩ := inv d (by omega)
      have hq0 : f 1 ≤ (f 0 + d) / v P 0 ∧ (f 0 + d) / v P 0 ≤ 101000 := by
        refine ⟨?_, ?_⟩
        · rw [h1]; exact Int.ediv_le_ediv hs (by omega)
        · have := Int.ediv_le_self (v P 0) (show 0 ≤ f 0 + d by omega)
          omega
      have hil : i < later := by omega
      have hrp : 0 < later - (d : Int) := by omega
      have hx1 := Int.emod_nonneg (f 0 + d) (show v P 0 ≠ 0 by omega)
      have hx2 := Int.emod_lt_of_pos (f 0 + d) hs
      obtain ⟨u, hu⟩ : ∃ u, u = if later - (d : Int) < v P 0 - (f 0 + d) % v P 0 then later - (d : Int) else v P 0 - (f 0 + d) % v P 0 := ⟨_, rfl⟩
      have hub : 1 ≤ u ∧ u ≤ later - d := by rw [hu]; split <;> omega
      have ck := c_chunk (M := M) (B := B) (u := u) (stps := (f 0 + d) / v P 0 - f 1) (hSt.keep hk) (hPl.keep hk) hPs hMs hPR hf j0 (by omega) j1 hh (show 0 < later - (d : Int) ∧ later - (d : Int) ≤ 1000 by omega) hu (by omega) l0 l1 l2 l4 l5 l6
      have e1 : w32 (i + 1) = i + 1 := w32_e (by omega)
      simp only [cX8_pass_2, wE_I, wE_V, wE_F, wE_A, wE_N, wE_1, wE_2, wE_D, wE_B, wE_If, wE_C, wE_CV, wE_SL, wE_SA, wA_0, wA_1, wC_B, wC_E, wC_And, wC_Or, wC_Not, wS_Skip, wS_Brk, wS_Cnt, wS_RetV, wS_Ret, wS_Seq, wS_Set, wS_Inc, wS_Do, wS_Put, wS_PutC, wS_Arr, wS_ArrC, wS_If, wS_Sw, wS_F0, wS_F1, wM_q, lu_ap, aL_ap, ct_0, ct_1, ct_2, ct_3, ct_4, ct_5, headD_1, List.mem_cons, List.not_mem_nil, or_false, false_or, or_true, true_or, true_and, and_true, false_and, and_false, not_true_eq_false, not_false_eq_true, if_true, if_false, nr_20, nr_24, nr_40, nr_41, nr_44, pt_lt, pt_ge, pt_eq, pt_ne, pt_gt, pt_le, pt_E, pt_N, pt_F, ite_10, ite_11, ne_eq, and_self, or_self, decide_true, decide_false, Bool.not_true, Bool.not_false, Bool.false_eq_true, Nat.reduceEqDiff, Nat.reduceAdd, Int.reduceEq, Int.reduceLT, Int.reduceLE, Int.reduceNeg, Int.reduceAdd, Int.reduceSub, Int.reduceMul, reduceCtorEq, iA, iS, iM, iD, iR, iN, lA, lS, lM, lD, lR, l2, l5, l6, hil, hrp]
      refine wS_mono ck ?_
      rintro k' z L3 w3 ⟨rfl, ⟨n0, n1, n2, n4, n5, n6⟩, hk3, hf3, hh3⟩
      simp only [uX8_pass_2, wE_I, wE_V, wE_F, wE_A, wE_N, wE_1, wE_2, wE_D, wE_B, wE_If, wE_C, wE_CV, wE_SL, wE_SA, wA_0, wA_1, wC_B, wC_E, wC_And, wC_Or, wC_Not, wS_Skip, wS_Brk, wS_Cnt, wS_RetV, wS_Ret, wS_Seq, wS_Set, wS_Inc, wS_Do, wS_Put, wS_PutC, wS_Arr, wS_ArrC, wS_If, wS_Sw, wS_F0, wS_F1, wM_q, lu_ap, aL_ap, ct_0, ct_1, ct_2, ct_3, ct_4, ct_5, headD_1, List.mem_cons, List.not_mem_nil, or_false, false_or, or_true, true_or, true_and, and_true, false_and, and_false, not_true_eq_false, not_false_eq_true, if_true, if_false, nr_20, nr_24, nr_40, nr_41, nr_44, pt_lt, pt_ge, pt_eq, pt_ne, pt_gt, pt_le, pt_E, pt_N, pt_F, ite_10, ite_11, ne_eq, and_self, or_self, decide_true, decide_false, Bool.not_true, Bool.not_false, Bool.false_eq_true, Nat.reduceEqDiff, Nat.reduceAdd, Int.reduceEq, Int.reduceLT, Int.reduceLE, Int.reduceNeg, Int.reduceAdd, Int.reduceSub, Int.reduceMul, reduceCtorEq, iA, iS, iM, iD, iR, iN, lA, lS, lM, lD, lR, n0, n1, n2, n4, n5, n6, e1]
      clear e1
      refine ⟨(later - d - u).toNat, by omega, d + u.toNat, i + 1, ⟨?_, by omega, rfl⟩, by omega, hk.tr hk3, hf3, ?_⟩
      · rw [show f 0 + ((d + u.toNat : Nat) : Int) = f 0 + d + u by omega]
        omega
      · rw [itF_add]
        exact hh3
    · have hd : (d : Int) = later := by omega
      have hrp : ¬ 0 < later - (d : Int) := by omega
      have hdn : later.toNat = d := by omega
      rw [hd] at l4
      rw [hdn]
      by_cases c : i < later
      · simp only [cX8_pass_2, wE_I, wE_V, wE_F, wE_A, wE_N, wE_1, wE_2, wE_D, wE_B, wE_If, wE_C, wE_CV, wE_SL, wE_SA, wA_0, wA_1, wC_B, wC_E, wC_And, wC_Or, wC_Not, wS_Skip, wS_Brk, wS_Cnt, wS_RetV, wS_Ret, wS_Seq, wS_Set, wS_Inc, wS_Do, wS_Put, wS_PutC, wS_Arr, wS_ArrC, wS_If, wS_Sw, wS_F0, wS_F1, wM_q, lu_ap, aL_ap, ct_0, ct_1, ct_2, ct_3, ct_4, ct_5, headD_1, List.mem_cons, List.not_mem_nil, or_false, false_or, or_true, true_or, true_and, and_true, false_and, and_false, not_true_eq_false, not_false_eq_true, if_true, if_false, nr_20, nr_24, nr_40, nr_41, nr_44, pt_lt, pt_ge, pt_eq, pt_ne, pt_gt, pt_le, pt_E, pt_N, pt_F, ite_10, ite_11, ne_eq, and_self, or_self, decide_true, decide_false, Bool.not_true, Bool.not_false, Bool.false_eq_true, Nat.reduceEqDiff, Nat.reduceAdd, Int.reduceEq, Int.reduceLT, Int.reduceLE, Int.reduceNeg, Int.reduceAdd, Int.reduceSub, Int.reduceMul, reduceCtorEq, iA, iS, iM, iD, iR, iN, lA, lS, lM, lD, lR, l2, l4, l5, l6, hrp, c]
        exact ⟨hk, hf, hh⟩
      · simp only [cX8_pass_2, wE_I, wE_V, wE_F, wE_A, wE_N, wE_1, wE_2, wE_D, wE_B, wE_If, wE_C, wE_CV, wE_SL, wE_SA, wA_0, wA_1, wC_B, wC_E, wC_And, wC_Or, wC_Not, wS_Skip, wS_Brk, wS_Cnt, wS_RetV, wS_Ret, wS_Seq, wS_Set, wS_Inc, wS_Do, wS_Put, wS_PutC, wS_Arr, wS_ArrC, wS_If, wS_Sw, wS_F0, wS_F1, wM_q, lu_ap, aL_ap, ct_0, ct_1, ct_2, ct_3, ct_4, ct_5, headD_1, List.mem_cons, List.not_mem_nil, or_false, false_or, or_true, true_or, true_and, and_true, false_and, and_false, not_true_eq_false, not_false_eq_true, if_true, if_false, nr_20, nr_24, nr_40, nr_41, nr_44, pt_lt, pt_ge, pt_eq, pt_ne, pt_gt, pt_le, pt_E, pt_N, pt_F, ite_10, ite_11, ne_eq, and_self, or_self, decide_true, decide_false, Bool.not_true, Bool.not_false, Bool.false_eq_true, Nat.reduceEqDiff, Nat.reduceAdd, Int.reduceEq, Int.reduceLT, Int.reduceLE, Int.reduceNeg, Int.reduceAdd, Int.reduceSub, Int.reduceMul, reduceCtorEq, iA, iS, iM, iD, iR, iN, lA, lS, lM, lD, lR, l2, l4, l5, l6, hrp, c]
        exact ⟨hk, hf, hh⟩
end PW
