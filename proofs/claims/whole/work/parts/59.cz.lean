/-! THE CLASS'S QUESTIONS: show, shows -/
/-- a show of a row, out of code, ends and what the row tells of each measure -/
def sv (c e : Int → Int) (ρ : Int → Int → Int) (x i : Int) : Int := rs c e (fun m => ρ m i) (x.toNat + 1) x
def swh (σ : Int → Int) : Nat → Int
  | 0 => -2147483648
  | j + 1 => if ¬ σ j = -2147483648 ∧ (nP (kn σ) j = 0 ∨ gP (kn σ) σ j < σ j) then j else swh σ j
def fShows (σ : Int → Int) (K : Nat) (x : Int) : Int := if x = 0 then nP (kn σ) K else if x = 1 then gP (kn σ) σ K else if x = 2 then lP (kn σ) σ K else if x = 3 then swh σ K else -2147483648
theorem tv_vv {x : Int} (h : tv x) : vv x := by
  unfold tv at h
  unfold vv
  omega
section CZ
variable {S : QS} {v w : QV} {b P s : Int}
theorem Sf.q {F : Int} (hF : F = P + 3) (h : Sf F v w) : Qf b P v w := fun c k h1 h2 h3 h4 => h c k (by rw [hF]; exact h2) (by omega) (by omega)
theorem Sf.rf {F : Int} : Sf F v v := fun _ _ _ _ _ => rfl
theorem q_showOf (h : RC S v b P s) {c e : Int → Int} {ns : Nat} {x a i : Int} (ha : 0 ≤ a ∧ a < v P 2) (hx : 0 ≤ x ∧ x < ns) (hC : CC v (P + 3) c e (v P 1) ns) (hr : ∀ m i, 0 ≤ m → m < v P 1 → 0 ≤ i → i < cK v P s a → tv (cR v P s a m i)) :
    wM mX11_showOf [b, x, a, i] S v (fun z w => z = (if 0 ≤ i ∧ i < cK v P s a then sv c e (cR v P s a) x i else -2147483648) ∧ Sf (P + 3) v w) := by
  have hL := h.pl
  have hst := h.st
  have hd := cD_b h ha
  have hk := cK_b h ha
  have hsb := h.sb
  have hP := h.2.2.1
  have ha4 : a < 4 := by have := h.2.2.2.2.2.2.2.1; omega
  by_cases hi : 0 ≤ i ∧ i < cK v P s a
  · have e1 : ¬ i < 0 := by omega
    have e2 : ¬ cK v P s a ≤ i := by omega
    have e3 : w32 (w32 (cD v P s a - 1) - i) = cD v P s a - 1 - i := by rw [w32_e (z := cD v P s a - 1) (by omega)]; exact w32_e (by omega)
    have hn : 0 ≤ cD v P s a - 1 - i := by clear e3; omega
    have hr1 : P + 3 + 6 ≤ s + (28 + 7 * a) := by clear e3; omega
    simp only [mX11_showOf, sX11_showOf, wE_I, wE_V, wE_F, wE_A, wE_N, wE_1, wE_2, wE_D, wE_B, wE_If, wE_C, wE_CV, wE_SL, wE_SA, wA_0, wA_1, wC_B, wC_E, wC_And, wC_Or, wC_Not, wS_Skip, wS_Brk, wS_Cnt, wS_RetV, wS_Ret, wS_Seq, wS_Set, wS_Inc, wS_Do, wS_Put, wS_PutC, wS_Arr, wS_ArrC, wS_If, wS_Sw, wS_F0, wS_F1, wM_q, lu_ap, aL_ap, ct_0, ct_1, ct_2, ct_3, ct_4, ct_5, headD_1, List.mem_cons, List.not_mem_nil, or_false, false_or, or_true, true_or, true_and, and_true, false_and, and_false, not_true_eq_false, not_false_eq_true, if_true, if_false, nr_20, nr_24, nr_40, nr_41, nr_44, pt_lt, pt_ge, pt_eq, pt_ne, pt_gt, pt_le, pt_E, pt_N, pt_F, ite_10, ite_11, ne_eq, and_self, or_self, decide_true, decide_false, Bool.not_true, Bool.not_false, Bool.false_eq_true, Nat.reduceEqDiff, Nat.reduceAdd, Int.reduceEq, Int.reduceLT, Int.reduceLE, Int.reduceNeg, Int.reduceAdd, Int.reduceSub, Int.reduceMul, reduceCtorEq, iA, iS, iM, iD, iR, iN, lA, lS, lM, lD, lR, h.1.k, h.2.1, hL.k, hL.p5, hL.f.k, wM_of (q_keptRows h ha), wM_of (q_rowsDone h ha), wM_of (q_now h), hst.k, hst.p4, hst.a3, hst.n3, hst.er _ ha.1 ha4, ha.1, ha4, e1, e2, e3, hi]
    clear e3
    refine wM_mono (q_tell (μ := fun m => cR v P s a m i) hL.f (hst.r _ ha.1 ha4) hr1 hn hC hx (fun k _ _ => rfl) (fun k h0 h1 => tv_vv (hr k i h0 h1 hi.1 hi.2))) ?_
    rintro z w - ⟨hz, hq⟩
    exact ⟨hz, hq⟩
  · simp only [mX11_showOf, sX11_showOf, wE_I, wE_V, wE_F, wE_A, wE_N, wE_1, wE_2, wE_D, wE_B, wE_If, wE_C, wE_CV, wE_SL, wE_SA, wA_0, wA_1, wC_B, wC_E, wC_And, wC_Or, wC_Not, wS_Skip, wS_Brk, wS_Cnt, wS_RetV, wS_Ret, wS_Seq, wS_Set, wS_Inc, wS_Do, wS_Put, wS_PutC, wS_Arr, wS_ArrC, wS_If, wS_Sw, wS_F0, wS_F1, wM_q, lu_ap, aL_ap, ct_0, ct_1, ct_2, ct_3, ct_4, ct_5, headD_1, List.mem_cons, List.not_mem_nil, or_false, false_or, or_true, true_or, true_and, and_true, false_and, and_false, not_true_eq_false, not_false_eq_true, if_true, if_false, nr_20, nr_24, nr_40, nr_41, nr_44, pt_lt, pt_ge, pt_eq, pt_ne, pt_gt, pt_le, pt_E, pt_N, pt_F, ite_10, ite_11, ne_eq, and_self, or_self, decide_true, decide_false, Bool.not_true, Bool.not_false, Bool.false_eq_true, Nat.reduceEqDiff, Nat.reduceAdd, Int.reduceEq, Int.reduceLT, Int.reduceLE, Int.reduceNeg, Int.reduceAdd, Int.reduceSub, Int.reduceMul, reduceCtorEq, iA, iS, iM, iD, iR, iN, lA, lS, lM, lD, lR, h.1.k, wM_of (q_keptRows h ha), hi]
    by_cases e1 : i < 0
    · simp [e1, Sf.rf]
    · have e2 : cK v P s a ≤ i := by omega
      simp [e1, e2, Sf.rf]
theorem q_isShow (h : RC S v b P s) {m : Int} : mX11_isShow [b, m] S v = some (if 0 ≤ m ∧ m < v (P + 3) 0 then 1 else 0, v) := by
  have hL := h.pl
  apply wM_eq
  simp only [mX11_isShow, sX11_isShow, wE_I, wE_V, wE_F, wE_A, wE_N, wE_1, wE_2, wE_D, wE_B, wE_If, wE_C, wE_CV, wE_SL, wE_SA, wA_0, wA_1, wC_B, wC_E, wC_And, wC_Or, wC_Not, wS_Skip, wS_Brk, wS_Cnt, wS_RetV, wS_Ret, wS_Seq, wS_Set, wS_Inc, wS_Do, wS_Put, wS_PutC, wS_Arr, wS_ArrC, wS_If, wS_Sw, wS_F0, wS_F1, wM_q, lu_ap, aL_ap, ct_0, ct_1, ct_2, ct_3, ct_4, ct_5, headD_1, List.mem_cons, List.not_mem_nil, or_false, false_or, or_true, true_or, true_and, and_true, false_and, and_false, not_true_eq_false, not_false_eq_true, if_true, if_false, nr_20, nr_24, nr_40, nr_41, nr_44, pt_lt, pt_ge, pt_eq, pt_ne, pt_gt, pt_le, pt_E, pt_N, pt_F, ite_10, ite_11, ne_eq, and_self, or_self, decide_true, decide_false, Bool.not_true, Bool.not_false, Bool.false_eq_true, Nat.reduceEqDiff, Nat.reduceAdd, Int.reduceEq, Int.reduceLT, Int.reduceLE, Int.reduceNeg, Int.reduceAdd, Int.reduceSub, Int.reduceMul, reduceCtorEq, iA, iS, iM, iD, iR, iN, lA, lS, lM, lD, lR, h.1.k, h.2.1, hL.k, hL.p5, hL.f.k]
  by_cases h0 : 0 ≤ m <;> simp [h0]
theorem q_show (h : RC S v b P s) {c e : Int → Int} {ns : Nat} {x a i : Int} (hC : CC v (P + 3) c e (v P 1) ns) (hr : ∀ a m i, 0 ≤ a → a < v P 2 → 0 ≤ m → m < v P 1 → 0 ≤ i → i < cK v P s a → tv (cR v P s a m i)) :
    wM mX11_show [b, x, a, i] S v (fun z w => z = (if (0 ≤ x ∧ x < ns) ∧ (0 ≤ a ∧ a < v P 2) ∧ 0 ≤ i ∧ i < cK v P s a then sv c e (cR v P s a) x i else -2147483648) ∧ Qf b P v w) := by
  by_cases hx : 0 ≤ x ∧ x < ns
  · by_cases ha : 0 ≤ a ∧ a < v P 2
    · simp only [mX11_show, sX11_show, wE_I, wE_V, wE_F, wE_A, wE_N, wE_1, wE_2, wE_D, wE_B, wE_If, wE_C, wE_CV, wE_SL, wE_SA, wA_0, wA_1, wC_B, wC_E, wC_And, wC_Or, wC_Not, wS_Skip, wS_Brk, wS_Cnt, wS_RetV, wS_Ret, wS_Seq, wS_Set, wS_Inc, wS_Do, wS_Put, wS_PutC, wS_Arr, wS_ArrC, wS_If, wS_Sw, wS_F0, wS_F1, wM_q, lu_ap, aL_ap, ct_0, ct_1, ct_2, ct_3, ct_4, ct_5, headD_1, List.mem_cons, List.not_mem_nil, or_false, false_or, or_true, true_or, true_and, and_true, false_and, and_false, not_true_eq_false, not_false_eq_true, if_true, if_false, nr_20, nr_24, nr_40, nr_41, nr_44, pt_lt, pt_ge, pt_eq, pt_ne, pt_gt, pt_le, pt_E, pt_N, pt_F, ite_10, ite_11, ne_eq, and_self, or_self, decide_true, decide_false, Bool.not_true, Bool.not_false, Bool.false_eq_true, Nat.reduceEqDiff, Nat.reduceAdd, Int.reduceEq, Int.reduceLT, Int.reduceLE, Int.reduceNeg, Int.reduceAdd, Int.reduceSub, Int.reduceMul, reduceCtorEq, iA, iS, iM, iD, iR, iN, lA, lS, lM, lD, lR, h.1.k, wM_of (q_isShow h), wM_of (q_isArchive h), hC.1, hx, ha]
      exact wM_mono (q_showOf h ha hx hC (fun m i => hr a m i ha.1 ha.2)) (fun z w _ q => ⟨q.1, q.2.q rfl⟩)
    · simp only [mX11_show, sX11_show, wE_I, wE_V, wE_F, wE_A, wE_N, wE_1, wE_2, wE_D, wE_B, wE_If, wE_C, wE_CV, wE_SL, wE_SA, wA_0, wA_1, wC_B, wC_E, wC_And, wC_Or, wC_Not, wS_Skip, wS_Brk, wS_Cnt, wS_RetV, wS_Ret, wS_Seq, wS_Set, wS_Inc, wS_Do, wS_Put, wS_PutC, wS_Arr, wS_ArrC, wS_If, wS_Sw, wS_F0, wS_F1, wM_q, lu_ap, aL_ap, ct_0, ct_1, ct_2, ct_3, ct_4, ct_5, headD_1, List.mem_cons, List.not_mem_nil, or_false, false_or, or_true, true_or, true_and, and_true, false_and, and_false, not_true_eq_false, not_false_eq_true, if_true, if_false, nr_20, nr_24, nr_40, nr_41, nr_44, pt_lt, pt_ge, pt_eq, pt_ne, pt_gt, pt_le, pt_E, pt_N, pt_F, ite_10, ite_11, ne_eq, and_self, or_self, decide_true, decide_false, Bool.not_true, Bool.not_false, Bool.false_eq_true, Nat.reduceEqDiff, Nat.reduceAdd, Int.reduceEq, Int.reduceLT, Int.reduceLE, Int.reduceNeg, Int.reduceAdd, Int.reduceSub, Int.reduceMul, reduceCtorEq, iA, iS, iM, iD, iR, iN, lA, lS, lM, lD, lR, h.1.k, wM_of (q_isShow h), wM_of (q_isArchive h), hC.1, hx, ha, Qf.rf]
  · simp only [mX11_show, sX11_show, wE_I, wE_V, wE_F, wE_A, wE_N, wE_1, wE_2, wE_D, wE_B, wE_If, wE_C, wE_CV, wE_SL, wE_SA, wA_0, wA_1, wC_B, wC_E, wC_And, wC_Or, wC_Not, wS_Skip, wS_Brk, wS_Cnt, wS_RetV, wS_Ret, wS_Seq, wS_Set, wS_Inc, wS_Do, wS_Put, wS_PutC, wS_Arr, wS_ArrC, wS_If, wS_Sw, wS_F0, wS_F1, wM_q, lu_ap, aL_ap, ct_0, ct_1, ct_2, ct_3, ct_4, ct_5, headD_1, List.mem_cons, List.not_mem_nil, or_false, false_or, or_true, true_or, true_and, and_true, false_and, and_false, not_true_eq_false, not_false_eq_true, if_true, if_false, nr_20, nr_24, nr_40, nr_41, nr_44, pt_lt, pt_ge, pt_eq, pt_ne, pt_gt, pt_le, pt_E, pt_N, pt_F, ite_10, ite_11, ne_eq, and_self, or_self, decide_true, decide_false, Bool.not_true, Bool.not_false, Bool.false_eq_true, Nat.reduceEqDiff, Nat.reduceAdd, Int.reduceEq, Int.reduceLT, Int.reduceLE, Int.reduceNeg, Int.reduceAdd, Int.reduceSub, Int.reduceMul, reduceCtorEq, iA, iS, iM, iD, iR, iN, lA, lS, lM, lD, lR, h.1.k, wM_of (q_isShow h), hC.1, hx, Qf.rf]
theorem CC.keep (h : RC S v b P s) (hq : Qf b P v w) {c e : Int → Int} {nm : Int} {ns : Nat} (hC : CC v (P + 3) c e nm ns) : CC w (P + 3) c e nm ns := by
  have hP := h.2.2.1
  obtain ⟨c1, c2, c3, c4, c5, c6⟩ := hC
  refine ⟨?_, c2, c3, c4, fun s h0 h1 => ?_, fun k h0 h1 => ?_⟩
  · rw [hq _ _ (by omega) (by omega) (by omega) (by omega)]; exact c1
  · rw [hq _ _ (by omega) (by omega) (by omega) (by omega)]; exact c5 s h0 h1
  · rw [hq (P + 3 + 1) _ (by omega) (by omega) (by omega) (by omega), hq (P + 3 + 2) _ (by omega) (by omega) (by omega) (by omega)]; exact c6 k h0 h1
theorem sv_vv {c e : Int → Int} {nm : Int} {ns : Nat} {ρ : Int → Int → Int} {x i : Int} (c2 : ns ≤ 4) (c3 : nm ≤ 4) (hW : WF c e nm ns) (hx : 0 ≤ x ∧ x < ns) (hρ : ∀ m, 0 ≤ m → m < nm → tv (ρ m i)) : vv (sv c e ρ x i) :=
  rs_vv c3 c2 hW (fun k h0 h1 => tv_vv (hρ k h0 h1)) _ (by omega) x hx.1 (by omega)
theorem q_shows (h : RC S v b P s) {c e : Int → Int} {ns : Nat} {x a y : Int} (hC : CC v (P + 3) c e (v P 1) ns) (hr : ∀ a m i, 0 ≤ a → a < v P 2 → 0 ≤ m → m < v P 1 → 0 ≤ i → i < cK v P s a → tv (cR v P s a m i)) :
    wM mX11_shows [b, x, a, y] S v (fun z w => z = (if (0 ≤ x ∧ x < ns) ∧ (0 ≤ a ∧ a < v P 2) then fShows (sv c e (cR v P s a) x) (cK v P s a).toNat y else -2147483648) ∧ Qf b P v w) := by
  by_cases hx : 0 ≤ x ∧ x < ns
  · by_cases ha : 0 ≤ a ∧ a < v P 2
    · have hk := cK_b h ha
      have hP := h.2.2.1
      have ha4 : a < 4 := by have := h.2.2.2.2.2.2.2.1; omega
      simp only [mX11_shows, sX11_shows, wE_I, wE_V, wE_F, wE_A, wE_N, wE_1, wE_2, wE_D, wE_B, wE_If, wE_C, wE_CV, wE_SL, wE_SA, wA_0, wA_1, wC_B, wC_E, wC_And, wC_Or, wC_Not, wS_Skip, wS_Brk, wS_Cnt, wS_RetV, wS_Ret, wS_Seq, wS_Set, wS_Inc, wS_Do, wS_Put, wS_PutC, wS_Arr, wS_ArrC, wS_If, wS_Sw, wS_F0, wS_F1, wM_q, lu_ap, aL_ap, ct_0, ct_1, ct_2, ct_3, ct_4, ct_5, headD_1, List.mem_cons, List.not_mem_nil, or_false, false_or, or_true, true_or, true_and, and_true, false_and, and_false, not_true_eq_false, not_false_eq_true, if_true, if_false, nr_20, nr_24, nr_40, nr_41, nr_44, pt_lt, pt_ge, pt_eq, pt_ne, pt_gt, pt_le, pt_E, pt_N, pt_F, ite_10, ite_11, ne_eq, and_self, or_self, decide_true, decide_false, Bool.not_true, Bool.not_false, Bool.false_eq_true, Nat.reduceEqDiff, Nat.reduceAdd, Int.reduceEq, Int.reduceLT, Int.reduceLE, Int.reduceNeg, Int.reduceAdd, Int.reduceSub, Int.reduceMul, reduceCtorEq, iA, iS, iM, iD, iR, iN, lA, lS, lM, lD, lR, h.1.k, h.1.p13, h.1.y, wM_of (q_isShow h), wM_of (q_isArchive h), hC.1, hx, ha, wM_of (q_keptRows h ha)]
      have hσv : ∀ i : Int, 0 ≤ i → i < cK v P s a → vv (sv c e (cR v P s a) x i) := fun i h0 h1 => sv_vv hC.2.1 hC.2.2.1 hC.2.2.2.1 hx (fun m g0 g1 => hr a m i ha.1 ha.2 g0 g1 h0 h1)
      generalize hσ : sv c e (cR v P s a) x = σ at hσv ⊢
      generalize hK : cK v P s a = K at *
      refine wM_mono (Ty.clear h.1.y (kn σ) σ) ?_
      rintro - w0 - ⟨hT0, hq0⟩
      refine wS_For K.toNat (fun j M w => (M 0 = b ∧ M 1 = x ∧ M 2 = a ∧ M 3 = y ∧ M 4 = K ∧ M 5 = swh σ j ∧ M 6 = j) ∧ Qf b P v w ∧ Ty w (b + 888) (kn σ) σ j) (by omega) ?_ ?_ ?_
      · refine ⟨?_, Qf.rf.ty hq0, hT0⟩
        simp [lu_ap, aL_ap, ct_0, ct_2, swh]
      · rintro j M w hj ⟨⟨m0, m1, m2, m3, m4, m5, m6⟩, hq, hT⟩
        have hw := h.keep hq
        have eP : ∀ k, w P k = v P k := fun k => hq _ _ (by omega) (by omega) (by omega) (by omega)
        have eK : cK w P s a = K := (cK_keep h hq ha.1 ha4).trans hK
        have eR : ∀ m i, cR w P s a m i = cR v P s a m i := fun m i => cR_keep h hq ha.1 ha4
        have haw : 0 ≤ a ∧ a < w P 2 := by rw [eP]; exact ha
        have hjK : 0 ≤ (j : Int) ∧ (j : Int) < K := by omega
        simp only [cX11_shows_1, bX11_shows_1, uX11_shows_1, wE_I, wE_V, wE_F, wE_A, wE_N, wE_1, wE_2, wE_D, wE_B, wE_If, wE_C, wE_CV, wE_SL, wE_SA, wA_0, wA_1, wC_B, wC_E, wC_And, wC_Or, wC_Not, wS_Skip, wS_Brk, wS_Cnt, wS_RetV, wS_Ret, wS_Seq, wS_Set, wS_Inc, wS_Do, wS_Put, wS_PutC, wS_Arr, wS_ArrC, wS_If, wS_Sw, wS_F0, wS_F1, wM_q, lu_ap, aL_ap, ct_0, ct_1, ct_2, ct_3, ct_4, ct_5, headD_1, List.mem_cons, List.not_mem_nil, or_false, false_or, or_true, true_or, true_and, and_true, false_and, and_false, not_true_eq_false, not_false_eq_true, if_true, if_false, nr_20, nr_24, nr_40, nr_41, nr_44, pt_lt, pt_ge, pt_eq, pt_ne, pt_gt, pt_le, pt_E, pt_N, pt_F, ite_10, ite_11, ne_eq, and_self, or_self, decide_true, decide_false, Bool.not_true, Bool.not_false, Bool.false_eq_true, Nat.reduceEqDiff, Nat.reduceAdd, Int.reduceEq, Int.reduceLT, Int.reduceLE, Int.reduceNeg, Int.reduceAdd, Int.reduceSub, Int.reduceMul, reduceCtorEq, iA, iS, iM, iD, iR, iN, lA, lS, lM, lD, lR, m0, m1, m2, m3, m4, m5, m6, hw.1.k, hjK]
        refine wM_mono (q_showOf hw haw hx (by rw [eP]; exact hC.keep h hq) (fun m i g0 g1 g2 g3 => by rw [eR]; exact hr a m i ha.1 ha.2 g0 (by rw [← eP]; exact g1) g2 (by rw [hK, ← eK]; exact g3)) (i := j)) ?_
        rintro z w1 - ⟨hz, hq1⟩
        have hz' : z = σ j := by
          rw [hz, eK, if_pos hjK, ← hσ]
          unfold sv
          simp only [eR]
        subst hz'
        clear hz
        have hT1 : Ty w1 (b + 888) (kn σ) σ j := hT.kept (fun k => hq1 _ _ (by omega) (by omega) (by omega))
        have hq2 : Qf b P v w1 := hq.tr (hq1.q rfl)
        have hw1 := h.keep hq2
        simp only [hw1.1.k, hw1.1.p13, hw1.1.y, hT1.2.2.1, hT1.2.2.2.1, wE_I, wE_V, wE_F, wE_A, wE_N, wE_1, wE_2, wE_D, wE_B, wE_If, wE_C, wE_CV, wE_SL, wE_SA, wA_0, wA_1, wC_B, wC_E, wC_And, wC_Or, wC_Not, wS_Skip, wS_Brk, wS_Cnt, wS_RetV, wS_Ret, wS_Seq, wS_Set, wS_Inc, wS_Do, wS_Put, wS_PutC, wS_Arr, wS_ArrC, wS_If, wS_Sw, wS_F0, wS_F1, wM_q, lu_ap, aL_ap, ct_0, ct_1, ct_2, ct_3, ct_4, ct_5, headD_1, List.mem_cons, List.not_mem_nil, or_false, false_or, or_true, true_or, true_and, and_true, false_and, and_false, not_true_eq_false, not_false_eq_true, if_true, if_false, nr_20, nr_24, nr_40, nr_41, nr_44, pt_lt, pt_ge, pt_eq, pt_ne, pt_gt, pt_le, pt_E, pt_N, pt_F, ite_10, ite_11, ne_eq, and_self, or_self, decide_true, decide_false, Bool.not_true, Bool.not_false, Bool.false_eq_true, Nat.reduceEqDiff, Nat.reduceAdd, Int.reduceEq, Int.reduceLT, Int.reduceLE, Int.reduceNeg, Int.reduceAdd, Int.reduceSub, Int.reduceMul, reduceCtorEq, w32_s (show j < 1000 by omega)]
        have hg : ∀ q : Int, 0 ≤ q → q < K → kn σ q = true → -2000000000 ≤ σ q ∧ σ q ≤ 2000000000 := by
          intro q h2 h3 h4
          have := hσv q h2 h3
          unfold kn at h4
          unfold vv at this
          simp at h4
          omega
        have hadd : wM mX9_add [b + 888, σ j, 1] S w1 (fun _ w' => Ty w' (b + 888) (kn σ) σ (j + 1) ∧ ∀ c k, c ≠ b + 888 → w' c k = w1 c k) := Ty.add hw1.1.y hT1 rfl (by omega) (by simp [kn]) (fun q h2 h3 h4 => hg q h2 (by omega) h4) (fun h4 => hg j hjK.1 hjK.2 h4)
        obtain ⟨z2, w2, g1, g2, g3⟩ := hadd
        simp only [wM_of g1, swh]
        by_cases h1 : σ j = -2147483648
        · simp only [h1, not_true_eq_false, false_and, if_false, true_and, and_self]
          exact ⟨hq2.ty g3, g2⟩
        · by_cases h2 : nP (kn σ) j = 0
          · simp only [h1, h2, not_false_eq_true, true_and, true_or, if_true, and_self]
            exact ⟨hq2.ty g3, g2⟩
          · by_cases h3 : gP (kn σ) σ j < σ j
            · simp only [h1, h2, h3, not_false_eq_true, true_and, or_true, if_true, if_false, and_self]
              exact ⟨hq2.ty g3, g2⟩
            · simp only [h1, h2, h3, not_false_eq_true, true_and, or_false, if_true, if_false, and_self, and_false]
              exact ⟨hq2.ty g3, g2⟩
      · rintro M w ⟨⟨m0, m1, m2, m3, m4, m5, m6⟩, hq, hT⟩
        have hl : ¬ (K.toNat : Int) < K := by omega
        have hw := h.keep hq
        simp only [cX11_shows_1, wE_I, wE_V, wE_F, wE_A, wE_N, wE_1, wE_2, wE_D, wE_B, wE_If, wE_C, wE_CV, wE_SL, wE_SA, wA_0, wA_1, wC_B, wC_E, wC_And, wC_Or, wC_Not, wS_Skip, wS_Brk, wS_Cnt, wS_RetV, wS_Ret, wS_Seq, wS_Set, wS_Inc, wS_Do, wS_Put, wS_PutC, wS_Arr, wS_ArrC, wS_If, wS_Sw, wS_F0, wS_F1, wM_q, lu_ap, aL_ap, ct_0, ct_1, ct_2, ct_3, ct_4, ct_5, headD_1, List.mem_cons, List.not_mem_nil, or_false, false_or, or_true, true_or, true_and, and_true, false_and, and_false, not_true_eq_false, not_false_eq_true, if_true, if_false, nr_20, nr_24, nr_40, nr_41, nr_44, pt_lt, pt_ge, pt_eq, pt_ne, pt_gt, pt_le, pt_E, pt_N, pt_F, ite_10, ite_11, ne_eq, and_self, or_self, decide_true, decide_false, Bool.not_true, Bool.not_false, Bool.false_eq_true, Nat.reduceEqDiff, Nat.reduceAdd, Int.reduceEq, Int.reduceLT, Int.reduceLE, Int.reduceNeg, Int.reduceAdd, Int.reduceSub, Int.reduceMul, reduceCtorEq, iA, iS, iM, iD, iR, iN, lA, lS, lM, lD, lR, m0, m3, m4, m5, m6, hl, hw.1.k, hw.1.p13, hw.1.y, hT.2.2.1, hT.2.2.2.1, hT.2.2.2.2, hq, fShows]
        by_cases x0 : y = 0
        · simp [x0]
        by_cases x1 : y = 1
        · simp [x1]
        by_cases x2 : y = 2
        · simp [x2]
        by_cases x3 : y = 3
        · simp [x3]
        simp [x0, x1, x2, x3]
    · simp only [mX11_shows, sX11_shows, wE_I, wE_V, wE_F, wE_A, wE_N, wE_1, wE_2, wE_D, wE_B, wE_If, wE_C, wE_CV, wE_SL, wE_SA, wA_0, wA_1, wC_B, wC_E, wC_And, wC_Or, wC_Not, wS_Skip, wS_Brk, wS_Cnt, wS_RetV, wS_Ret, wS_Seq, wS_Set, wS_Inc, wS_Do, wS_Put, wS_PutC, wS_Arr, wS_ArrC, wS_If, wS_Sw, wS_F0, wS_F1, wM_q, lu_ap, aL_ap, ct_0, ct_1, ct_2, ct_3, ct_4, ct_5, headD_1, List.mem_cons, List.not_mem_nil, or_false, false_or, or_true, true_or, true_and, and_true, false_and, and_false, not_true_eq_false, not_false_eq_true, if_true, if_false, nr_20, nr_24, nr_40, nr_41, nr_44, pt_lt, pt_ge, pt_eq, pt_ne, pt_gt, pt_le, pt_E, pt_N, pt_F, ite_10, ite_11, ne_eq, and_self, or_self, decide_true, decide_false, Bool.not_true, Bool.not_false, Bool.false_eq_true, Nat.reduceEqDiff, Nat.reduceAdd, Int.reduceEq, Int.reduceLT, Int.reduceLE, Int.reduceNeg, Int.reduceAdd, Int.reduceSub, Int.reduceMul, reduceCtorEq, iA, iS, iM, iD, iR, iN, lA, lS, lM, lD, lR, h.1.k, wM_of (q_isShow h), wM_of (q_isArchive h), hC.1, hx, ha, Qf.rf]
  · simp only [mX11_shows, sX11_shows, wE_I, wE_V, wE_F, wE_A, wE_N, wE_1, wE_2, wE_D, wE_B, wE_If, wE_C, wE_CV, wE_SL, wE_SA, wA_0, wA_1, wC_B, wC_E, wC_And, wC_Or, wC_Not, wS_Skip, wS_Brk, wS_Cnt, wS_RetV, wS_Ret, wS_Seq, wS_Set, wS_Inc, wS_Do, wS_Put, wS_PutC, wS_Arr, wS_ArrC, wS_If, wS_Sw, wS_F0, wS_F1, wM_q, lu_ap, aL_ap, ct_0, ct_1, ct_2, ct_3, ct_4, ct_5, headD_1, List.mem_cons, List.not_mem_nil, or_false, false_or, or_true, true_or, true_and, and_true, false_and, and_false, not_true_eq_false, not_false_eq_true, if_true, if_false, nr_20, nr_24, nr_40, nr_41, nr_44, pt_lt, pt_ge, pt_eq, pt_ne, pt_gt, pt_le, pt_E, pt_N, pt_F, ite_10, ite_11, ne_eq, and_self, or_self, decide_true, decide_false, Bool.not_true, Bool.not_false, Bool.false_eq_true, Nat.reduceEqDiff, Nat.reduceAdd, Int.reduceEq, Int.reduceLT, Int.reduceLE, Int.reduceNeg, Int.reduceAdd, Int.reduceSub, Int.reduceMul, reduceCtorEq, iA, iS, iM, iD, iR, iN, lA, lS, lM, lD, lR, h.1.k, wM_of (q_isShow h), hC.1, hx, Qf.rf]
end CZ
