/-! READ -/
def nmL (x0 x1 x2 x3 : Int) : Int → Int := fun k => if k = 0 then x0 else if k = 1 then x1 else if k = 2 then x2 else if k = 3 then x3 else 0
theorem FI.plan {v w : QV} {M B K : Int} {f : Int → Int} (h : FI v M B f K) (e : ∀ j k, 2 ≤ j → j ≤ 25 → w (M + j) k = v (M + j) k) : FI w M B f K := by
  unfold FI at h ⊢
  simp only [e 3 _ (by decide) (by decide), e 4 _ (by decide) (by decide), e 15 _ (by decide) (by decide), e 18 _ (by decide) (by decide)]
  exact h
theorem FIh.plan {v w : QV} {M B m later : Int} {f : Int → Int} (h : FIh v M B later m f) (e : ∀ j k, 2 ≤ j → j ≤ 25 → w (M + j) k = v (M + j) k) : FIh w M B later m f := by
  unfold FIh at h ⊢
  simp only [e 8 _ (by decide) (by decide), e 9 _ (by decide) (by decide), e 10 _ (by decide) (by decide)]
  exact h
theorem PB.plan {v w : QV} {M B : Int} (h : PB v M B) (e : ∀ j k, 2 ≤ j → j ≤ 25 → w (M + j) k = v (M + j) k) : PB w M B := by
  unfold PB PBf PBa at h ⊢
  simp only [e 2 _ (by decide) (by decide), e 3 _ (by decide) (by decide), e 4 _ (by decide) (by decide), e 14 _ (by decide) (by decide), e 15 _ (by decide) (by decide), e 16 _ (by decide) (by decide), e 17 _ (by decide) (by decide), e 18 _ (by decide) (by decide), e 19 _ (by decide) (by decide), e 20 _ (by decide) (by decide), e 21 _ (by decide) (by decide), e 22 _ (by decide) (by decide), e 23 _ (by decide) (by decide)]
  exact h
theorem RM.plan {S : QS} {v w : QV} {M B : Int} (h : RM S v M B) (hL : LMo S w M) (h28 : w M 28 = v M 28) (e : ∀ j k, 1 ≤ j → j ≤ 25 → w (M + j) k = v (M + j) k) : RM S w M B := by
  obtain ⟨r1, r2, r3, r4, r5, r6, r7, r8, r9⟩ := h
  refine ⟨hL, h28.trans r2, r3, ?_, ?_, ?_, ?_, ?_, ?_⟩
  · rw [e 2 _ (by decide) (by decide)]; exact r4
  · rw [e 3 _ (by decide) (by decide)]; exact r5
  · rw [e 4 _ (by decide) (by decide)]; exact r6
  · rw [e 4 _ (by decide) (by decide)]
    simp only [e 15 _ (show (1 : Int) ≤ 15 by decide) (by decide), e 1 _ (show (1 : Int) ≤ 1 by decide) (by decide)]
    exact r7
  · rw [e 1 _ (by decide) (by decide)]; exact r8
  · rw [e 1 _ (by decide) (by decide), e 1 _ (by decide) (by decide), e 2 _ (by decide) (by decide)]; exact r9
section GRD
variable {S : QS} {v w : QV} {b M P B s : Int} {f F : Int → Int}
theorem f_goRead' (h : LMo S v M) (hB : v M 28 = B) (hB2 : B = 0 ∨ B = 1) (hP : PB v M B) (hRM : RM S v M B) {later : Int} {nm : Int → Int} (hl : 1 ≤ later ∧ later ≤ 1000) (hn : ∀ k, 0 ≤ k → k < 4 → v (M + 32) k = nm k) (hr : ∀ m, 0 ≤ m → m < v (M + 3) B → FIh v M B later m (v (M + 1))) (h2 : 0 ≤ v (M + 1) 2 ∧ v (M + 1) 2 ≤ 1000000) (hF : FI v M B (v (M + 1)) (v (M + 1) 0 % v (M + 2) B)) : mX12_goRead [M, later] S v = some ((v (M + 1) 0 + later) / v (M + 2) B - v (M + 1) 1, vf v (M + 1) (goF v M B later nm (v (M + 1)))) := by
  have e := vf_self (v := v) (A := M + 1)
  have hg := f_goRead (f := v (M + 1)) (nm := v (M + 32)) h hB hB2 hP (by rw [e]; exact hRM) hl (fun _ => rfl) hr hRM.2.2.2.2.2.2.2.1 hRM.2.2.2.2.2.2.2.2 h2 hF
  rw [e] at hg
  rw [hg]
  have en : goF v M B later (v (M + 32)) (v (M + 1)) = goF v M B later nm (v (M + 1)) := by
    have hn3 := hP.2.1
    have hh : ∀ n : Nat, (n : Int) ≤ 4 → ∀ g, itF (fun m => hrF v M B later (v (M + 32)) m) n g = itF (fun m => hrF v M B later nm m) n g := by
      intro n
      induction n with
      | zero => intro _ g; rfl
      | succ n ih =>
        intro hn4 g
        show hrF v M B later (v (M + 32)) n _ = hrF v M B later nm n _
        rw [ih (by omega) g]
        unfold hrF
        rw [hn n (by omega) (by omega)]
    unfold goF heF
    rw [hh _ (by omega)]
  rw [en]
theorem g_read (h : RX S b v) {l x0 x1 x2 x3 : Int} (hl : -2147483648 ≤ l ∧ l ≤ 2147483647) : EQ S b mX11_read mX12_read [l, x0, x1, x2, x3] v := by
  have hX := h
  obtain ⟨P, B, s, h⟩ := h
  have hn := h.nb
  have hC := h.1.1
  have hMo := h.1.2.1
  have hM := h.1.2.2
  have t := h.2.2.2.2.2.1
  by_cases hc : (1 ≤ l ∧ l ≤ 1000) ∧ v s 0 + l ≤ 100000
  · have hcm : (1 ≤ l ∧ l ≤ 1000) ∧ v (b + 889 + 1) 0 + l ≤ 100000 := by rw [← t.1.1]; exact hc
    have hs := h.2.2.2.1
    have hp := h.2.1
    unfold EQ
    have q1 := q_canPass h.rc (l := l)
    rw [if_pos hc] at q1
    simp only [mX11_read, sX11_read, wE_I, wE_V, wE_F, wE_A, wE_N, wE_1, wE_2, wE_D, wE_B, wE_If, wE_C, wE_CV, wE_SL, wE_SA, wA_0, wA_1, wC_B, wC_E, wC_And, wC_Or, wC_Not, wS_Skip, wS_Brk, wS_Cnt, wS_RetV, wS_Ret, wS_Seq, wS_Set, wS_Inc, wS_Do, wS_Put, wS_PutC, wS_Arr, wS_ArrC, wS_If, wS_Sw, wS_F0, wS_F1, wM_q, lu_ap, aL_ap, ct_0, ct_1, ct_2, ct_3, ct_4, ct_5, headD_1, List.mem_cons, List.not_mem_nil, or_false, false_or, or_true, true_or, true_and, and_true, false_and, and_false, not_true_eq_false, not_false_eq_true, if_true, if_false, nr_20, nr_24, nr_40, nr_41, nr_44, pt_lt, pt_ge, pt_eq, pt_ne, pt_gt, pt_le, pt_E, pt_N, pt_F, ite_10, ite_11, ne_eq, and_self, or_self, decide_true, decide_false, Bool.not_true, Bool.not_false, Bool.false_eq_true, Nat.reduceEqDiff, Nat.reduceAdd, Int.reduceEq, Int.reduceLT, Int.reduceLE, Int.reduceNeg, Int.reduceAdd, Int.reduceSub, Int.reduceMul, reduceCtorEq, iA, iS, iM, iD, iR, iN, lA, lS, lM, lD, lR, hC.k, wM_of q1, hC.p12, hC.a887, hC.n887]
    have nb : ¬ b = b + 887 := by omega
    simp only [vu_ne, nb, false_and, not_false_eq_true, hC.p12, hC.a887, hC.n887, wE_I, wE_V, wE_F, wE_A, wE_N, wE_1, wE_2, wE_D, wE_B, wE_If, wE_C, wE_CV, wE_SL, wE_SA, wA_0, wA_1, wC_B, wC_E, wC_And, wC_Or, wC_Not, wS_Skip, wS_Brk, wS_Cnt, wS_RetV, wS_Ret, wS_Seq, wS_Set, wS_Inc, wS_Do, wS_Put, wS_PutC, wS_Arr, wS_ArrC, wS_If, wS_Sw, wS_F0, wS_F1, wM_q, lu_ap, aL_ap, ct_0, ct_1, ct_2, ct_3, ct_4, ct_5, headD_1, List.mem_cons, List.not_mem_nil, or_false, false_or, or_true, true_or, true_and, and_true, false_and, and_false, not_true_eq_false, not_false_eq_true, if_true, if_false, nr_20, nr_24, nr_40, nr_41, nr_44, pt_lt, pt_ge, pt_eq, pt_ne, pt_gt, pt_le, pt_E, pt_N, pt_F, ite_10, ite_11, ne_eq, and_self, or_self, decide_true, decide_false, Bool.not_true, Bool.not_false, Bool.false_eq_true, Nat.reduceEqDiff, Nat.reduceAdd, Int.reduceEq, Int.reduceLT, Int.reduceLE, Int.reduceNeg, Int.reduceAdd, Int.reduceSub, Int.reduceMul, reduceCtorEq]
    have k1 : Kp S v (vu (vu (vu (vu v (b + 887) 0 x0) (b + 887) 1 x1) (b + 887) 2 x2) (b + 887) 3 x3) := by
      have hz : ∀ i, Wc (S.1 (b + 887)) i = true := fun i => by rw [hC.a887]; rfl
      exact (((Kp.rf.vuc (hz _)).vuc (hz _)).vuc (hz _)).vuc (hz _)
    have v1f : ∀ a k, a ≠ b + 887 → vu (vu (vu (vu v (b + 887) 0 x0) (b + 887) 1 x1) (b + 887) 2 x2) (b + 887) 3 x3 a k = v a k := fun a k ha => by
      rw [vu_ne (fun e => ha e.1), vu_ne (fun e => ha e.1), vu_ne (fun e => ha e.1), vu_ne (fun e => ha e.1)]
    have v1n : ∀ k, 0 ≤ k → k < 4 → vu (vu (vu (vu v (b + 887) 0 x0) (b + 887) 1 x1) (b + 887) 2 x2) (b + 887) 3 x3 (b + 887) k = nmL x0 x1 x2 x3 k := fun k k0 k1 => by
      have : k = 0 ∨ k = 1 ∨ k = 2 ∨ k = 3 := by omega
      rcases this with rfl | rfl | rfl | rfl <;> simp [vu_ap, nmL]
    generalize vu (vu (vu (vu v (b + 887) 0 x0) (b + 887) 1 x1) (b + 887) 2 x2) (b + 887) 3 x3 = v1 at *
    have h1 := h.num v1f k1
    have b5 : v1 b 5 = v b 5 := v1f _ _ (by omega)
    have b6 : v1 b 6 = v b 6 := v1f _ _ (by omega)
    refine wM_mono (c_newAct h1) ?_
    rintro r w e ⟨hr, ⟨c5, c6, c7⟩, hD, hf⟩
    rw [b5] at hr c5 hD hf
    rw [b6] at c6
    have kw := k1.tr (Kc.of kX11_newAct e).p
    have hCw := hC.keep kw
    have hn1 : 0 ≤ (v b 5 + 1) % 13 ∧ (v b 5 + 1) % 13 < 13 := by omega
    have hs' := hCw.s _ hn1.1 hn1.2
    rw [← hr] at hs' hD hf
    have hrb : b + 45 ≤ r ∧ r ≤ b + 717 ∧ (r + 56 ≤ s ∨ s + 56 ≤ r) := by
      have : (v b 5 + 1) % 13 < v b 5 ∨ v b 5 < (v b 5 + 1) % 13 := by omega
      omega
    have hPl : LPl S w P := by
      rcases hp.2.2 with e0 | e0
      · rw [e0]; exact hCw.P1
      · rw [e0]; exact hCw.P2
    have wv : ∀ a k, a ≠ b + 887 → a ≠ b → (a < r ∨ r + 56 ≤ a) → w a k = v a k := fun a k h1 h2 h3 => by
      rw [hf _ _ (fun q => absurd q h2) h3, v1f _ _ h1]
    have wb2 : w b 2 = P := by rw [hf _ _ (by omega) (by omega), v1f _ _ (by omega)]; exact hp.1
    have hPRw : PR w P (b + 889) B := h.2.2.2.2.1.eq (fun a k g0 g1 g2 g3 g4 => wv _ _ (by omega) (by omega) (by omega)) (fun j k g0 g1 => wv _ _ (by omega) (by omega) (by omega))
    have wP : ∀ a k, (a = P ∨ (P + 9 ≤ a ∧ a ≤ P + 16)) → w a k = v1 a k := fun a k ha => hf _ _ (by omega) (by omega)
    have hSw : SR w P r (v (b + 889 + 1)) := by
      have t1 := h1.2.2.2.2.2.1
      have e1 : v1 (b + 889 + 1) = v (b + 889 + 1) := funext fun k => v1f _ _ (by omega)
      rw [e1] at t1
      exact SR.cong h1.nb.1 h1.nb.2 wP hD (fun _ _ _ => rfl) t1
    have hst := hSw.hst hPRw
    have hx1 := hSw.2.1
    have hx2 := hSw.2.2.1.2
    have hx0 := hSw.1
    simp only [hs'.k, hCw.k, wb2, hCw.p12, wE_I, wE_V, wE_F, wE_A, wE_N, wE_1, wE_2, wE_D, wE_B, wE_If, wE_C, wE_CV, wE_SL, wE_SA, wA_0, wA_1, wC_B, wC_E, wC_And, wC_Or, wC_Not, wS_Skip, wS_Brk, wS_Cnt, wS_RetV, wS_Ret, wS_Seq, wS_Set, wS_Inc, wS_Do, wS_Put, wS_PutC, wS_Arr, wS_ArrC, wS_If, wS_Sw, wS_F0, wS_F1, wM_q, lu_ap, aL_ap, ct_0, ct_1, ct_2, ct_3, ct_4, ct_5, headD_1, List.mem_cons, List.not_mem_nil, or_false, false_or, or_true, true_or, true_and, and_true, false_and, and_false, not_true_eq_false, not_false_eq_true, if_true, if_false, nr_20, nr_24, nr_40, nr_41, nr_44, pt_lt, pt_ge, pt_eq, pt_ne, pt_gt, pt_le, pt_E, pt_N, pt_F, ite_10, ite_11, ne_eq, and_self, or_self, decide_true, decide_false, Bool.not_true, Bool.not_false, Bool.false_eq_true, Nat.reduceEqDiff, Nat.reduceAdd, Int.reduceEq, Int.reduceLT, Int.reduceLE, Int.reduceNeg, Int.reduceAdd, Int.reduceSub, Int.reduceMul, reduceCtorEq]
    refine wM_mono (c_pass (v := w) (w := w) (s := r) (M := b + 889) (B := B) (f := v (b + 889 + 1)) (nm := nmL x0 x1 x2 x3) hs' hPl (by omega) (by omega) hPRw (fun _ _ _ => rfl) hc.1 ⟨hC.a887, hC.n887, by omega⟩ (fun k k0 k1 => by rw [hf _ _ (by omega) (by omega)]; exact v1n k k0 k1) (by omega) hx1 (by omega) hst) ?_
    rintro r' w2 e2 ⟨hr', hk2, hf2, hh2⟩
    have kw2 := kw.tr hk2
    have hM2 := hMo.keep kw2
    have hpb := hPRw.pb
    have hf1 : 0 ≤ v (b + 889 + 1) 1 ∧ v (b + 889 + 1) 1 ≤ 100000 := by
      have hp0 := hPRw.1.2
      rw [hx1]
      exact ⟨Int.ediv_nonneg hx0.2.1 (by omega), by have := Int.ediv_le_self (w P 0) hx0.2.1; omega⟩
    have hD0 : ∀ a, 0 ≤ a → a < w P 2 → 0 ≤ v (b + 889 + 1) 1 / w (P + (13 + a)) 1 := fun a a0 a1 => by
      have := (hPRw.2.2.2.2.2.1 a a0 a1).2.1
      exact Int.ediv_nonneg hf1.1 (by omega)
    have hFI : FI w (b + 889) B (v (b + 889 + 1)) (v (b + 889 + 1) 0 % w P 0) := HS.FI hPRw (by omega) hst hD0
    have hfih : ∀ m, 0 ≤ m → m < w (b + 889 + 3) B → FIh w (b + 889) B l m (v (b + 889 + 1)) := fun m m0 m1 => (hst.2.1 m m0 (by have := hPRw.2.1.1; omega)).fih (hPRw.2.2.2.2.1 m m0 (by have := hPRw.2.1.1; omega)) (fun k => rfl) hc.1
    have hgo := goF_f (nm := nmL x0 x1 x2 x3) hpb hc.1 hfih (by omega) (by rw [← hPRw.1.1]; exact hx1) (by rw [← hPRw.1.1]; exact hFI)
    have w2v : ∀ a k, b + 889 ≤ a → w2 a k = v a k := fun a k ha => by rw [hf2 _ _ (by omega)]; exact wv _ _ (by omega) (by omega) (by omega)
    have hRM2 : RM S w2 (b + 889) B := h.rm.plan hM2 (w2v _ _ (by omega)) (fun j k j0 j1 => w2v _ _ (by omega))
    have q2 := m_canRead hRM2 hl
    rw [if_pos (by rw [w2v _ _ (by omega)]; exact hcm)] at q2
    simp only [mX12_read, sX12_read, wE_I, wE_V, wE_F, wE_A, wE_N, wE_1, wE_2, wE_D, wE_B, wE_If, wE_C, wE_CV, wE_SL, wE_SA, wA_0, wA_1, wC_B, wC_E, wC_And, wC_Or, wC_Not, wS_Skip, wS_Brk, wS_Cnt, wS_RetV, wS_Ret, wS_Seq, wS_Set, wS_Inc, wS_Do, wS_Put, wS_PutC, wS_Arr, wS_ArrC, wS_If, wS_Sw, wS_F0, wS_F1, wM_q, lu_ap, aL_ap, ct_0, ct_1, ct_2, ct_3, ct_4, ct_5, headD_1, List.mem_cons, List.not_mem_nil, or_false, false_or, or_true, true_or, true_and, and_true, false_and, and_false, not_true_eq_false, not_false_eq_true, if_true, if_false, nr_20, nr_24, nr_40, nr_41, nr_44, pt_lt, pt_ge, pt_eq, pt_ne, pt_gt, pt_le, pt_E, pt_N, pt_F, ite_10, ite_11, ne_eq, and_self, or_self, decide_true, decide_false, Bool.not_true, Bool.not_false, Bool.false_eq_true, Nat.reduceEqDiff, Nat.reduceAdd, Int.reduceEq, Int.reduceLT, Int.reduceLE, Int.reduceNeg, Int.reduceAdd, Int.reduceSub, Int.reduceMul, reduceCtorEq, iA, iS, iM, iD, iR, iN, lA, lS, lM, lD, lR, hM2.k, wM_of q2]
    have hu := h.2.2.2.2.2.2.1
    have z58 : w2 (b + 889) 58 = v b 6 := (w2v _ _ (by omega)).trans hu.1.symm
    refine wM_mono (m_keepAct hM2 (by rw [z58]; omega) (q := if v b 6 = 12 then 11 else v b 6) (d := if v b 6 = 12 then 1095 else 0) (by rw [z58]) (by rw [z58])) ?_
    rintro r0 w3 e3 ⟨⟨a1, a2⟩, a3, a4, a5⟩
    have kw3 := kw2.tr (Km.of kX12_keepAct e3).p
    have hM3 := hMo.keep kw3
    have hgv := m_give (S := S) (v := w3) (x0 := x0) (x1 := x1) (x2 := x2) (x3 := x3) hM3
    simp only [hM3.k, wM_of hgv, wE_I, wE_V, wE_F, wE_A, wE_N, wE_1, wE_2, wE_D, wE_B, wE_If, wE_C, wE_CV, wE_SL, wE_SA, wA_0, wA_1, wC_B, wC_E, wC_And, wC_Or, wC_Not, wS_Skip, wS_Brk, wS_Cnt, wS_RetV, wS_Ret, wS_Seq, wS_Set, wS_Inc, wS_Do, wS_Put, wS_PutC, wS_Arr, wS_ArrC, wS_If, wS_Sw, wS_F0, wS_F1, wM_q, lu_ap, aL_ap, ct_0, ct_1, ct_2, ct_3, ct_4, ct_5, headD_1, List.mem_cons, List.not_mem_nil, or_false, false_or, or_true, true_or, true_and, and_true, false_and, and_false, not_true_eq_false, not_false_eq_true, if_true, if_false, nr_20, nr_24, nr_40, nr_41, nr_44, pt_lt, pt_ge, pt_eq, pt_ne, pt_gt, pt_le, pt_E, pt_N, pt_F, ite_10, ite_11, ne_eq, and_self, or_self, decide_true, decide_false, Bool.not_true, Bool.not_false, Bool.false_eq_true, Nat.reduceEqDiff, Nat.reduceAdd, Int.reduceEq, Int.reduceLT, Int.reduceLE, Int.reduceNeg, Int.reduceAdd, Int.reduceSub, Int.reduceMul, reduceCtorEq]
    have kw4 := kw3.tr (Km.of kX12_give hgv).p
    have w4f : ∀ a k, a ≠ b + 889 + 32 → vu (vu (vu (vu w3 (b + 889 + 32) 0 x0) (b + 889 + 32) 1 x1) (b + 889 + 32) 2 x2) (b + 889 + 32) 3 x3 a k = w3 a k := fun a k ha => by
      rw [vu_ne (fun e => ha e.1), vu_ne (fun e => ha e.1), vu_ne (fun e => ha e.1), vu_ne (fun e => ha e.1)]
    have w4n : ∀ k, 0 ≤ k → k < 4 → vu (vu (vu (vu w3 (b + 889 + 32) 0 x0) (b + 889 + 32) 1 x1) (b + 889 + 32) 2 x2) (b + 889 + 32) 3 x3 (b + 889 + 32) k = nmL x0 x1 x2 x3 k := fun k k0 k1 => by
      have : k = 0 ∨ k = 1 ∨ k = 2 ∨ k = 3 := by omega
      rcases this with rfl | rfl | rfl | rfl <;> simp [vu_ap, nmL]
    generalize vu (vu (vu (vu w3 (b + 889 + 32) 0 x0) (b + 889 + 32) 1 x1) (b + 889 + 32) 2 x2) (b + 889 + 32) 3 x3 = w4 at *
    have hM4 := hMo.keep kw4
    have w42 : ∀ a k, a ≠ b + 889 + 32 → (a = b + 889 → k ≠ 58 ∧ k ≠ 59) → a ≠ b + 889 + 36 → w4 a k = w2 a k := fun a k h1 h2 h3 => by rw [w4f _ _ h1, a5 _ _ h2 h3]
    have w4v : ∀ j k, 1 ≤ j → j ≤ 25 → w4 (b + 889 + j) k = v (b + 889 + j) k := fun j k j0 j1 => by rw [w42 _ _ (by omega) (by omega) (by omega)]; exact w2v _ _ (by omega)
    have w4w : ∀ j k, 2 ≤ j → j ≤ 25 → w4 (b + 889 + j) k = w (b + 889 + j) k := fun j k j0 j1 => by rw [w4v _ _ (by omega) j1]; exact (wv _ _ (by omega) (by omega) (by omega)).symm
    have w428 : w4 (b + 889) 28 = v (b + 889) 28 := by rw [w42 _ _ (by omega) (by omega) (by omega)]; exact w2v _ _ (by omega)
    have w41 : w4 (b + 889 + 1) = v (b + 889 + 1) := funext fun k => w4v 1 k (by omega) (by omega)
    have ep0 : w4 (b + 889 + 2) B = w P 0 := by rw [w4w 2 _ (by omega) (by omega)]; exact hPRw.1.1.symm
    have hgr := f_goRead' (later := l) (nm := nmL x0 x1 x2 x3) hM4 (w428.trans h.2.2.1.1) h.2.2.1.2 (hpb.plan w4w) (h.rm.plan hM4 w428 w4v) hc.1 w4n (fun m m0 m1 => by rw [w41]; exact (hfih m m0 (by rw [← w4w 3 _ (by omega) (by omega)]; exact m1)).plan w4w) (by rw [w41]; omega) (by rw [w41, ep0]; exact hFI.plan w4w)
    rw [w41, goF_v (v := w) (w := w4) (fun i k i0 i1 => w4w i k i0 (by omega)), ep0] at hgr
    rw [wM_of hgr]
    have ku : Kp S v (vf w4 (b + 889 + 1) (goF w (b + 889) B l (nmL x0 x1 x2 x3) (v (b + 889 + 1)))) := kw4.tr (Kp.vf hM4)
    refine ⟨hr', P, B, b + (45 + 56 * ((v b 5 + 1) % 13)), ?_⟩
    rw [← hPRw.1.1] at hgo
    have u1 : vf w4 (b + 889 + 1) (goF w (b + 889) B l (nmL x0 x1 x2 x3) (v (b + 889 + 1))) (b + 889 + 1) = goF w (b + 889) B l (nmL x0 x1 x2 x3) (v (b + 889 + 1)) := funext fun k => vf_is
    have uo : ∀ a k, a ≠ b + 889 + 1 → vf w4 (b + 889 + 1) (goF w (b + 889) B l (nmL x0 x1 x2 x3) (v (b + 889 + 1))) a k = w4 a k := fun a k ha => vf_ne ha
    generalize goF w (b + 889) B l (nmL x0 x1 x2 x3) (v (b + 889 + 1)) = G at *
    have hSR : SR w2 P r G := hh2.sr hPRw (fun a k g0 g1 => hf2 _ _ (by omega)) (by omega) (by rw [hgo.2.1, hgo.1]) (by rw [hgo.2.2, hgo.1]; omega)
    generalize vf w4 (b + 889 + 1) G = u at *
    have uc : ∀ a k, a < b + 889 → u a k = w2 a k := fun a k ha => by rw [uo _ _ (by omega), w42 _ _ (by omega) (by omega) (by omega)]
    refine act_RR h ku (fun a k g0 g1 g2 g3 => ?_) ?_ ?_ ?_ (fun a k g0 g1 g2 g3 g4 => ?_) ?_ ?_ (fun i i0 i1 => ?_) (fun k k0 k1 => ?_) ?_
    · rw [uc _ _ g0, hf2 _ _ (by omega), hf _ _ g1 (by omega), v1f _ _ g2]
    · rw [uc _ _ (by omega), hf2 _ _ (by omega)]; exact c5
    · rw [uc _ _ (by omega), hf2 _ _ (by omega)]; exact c6
    · rw [uc _ _ (by omega), hf2 _ _ (by omega)]; exact c7
    · rw [uo _ _ g2, w42 _ _ g3 g1 g4]
      exact w2v _ _ g0
    · rw [uo _ _ (by omega), w4f _ _ (by omega), a1]
      split <;> omega
    · rw [uo _ _ (by omega), w4f _ _ (by omega), a2]
    · rw [uo _ _ (by omega), w4f _ _ (by omega), a3 i i0 i1]
      exact w2v _ _ (by omega)
    · rw [uo _ _ (by omega), w4f _ _ (by omega), a4 k k0 k1]
      exact w2v _ _ (by omega)
    · rw [← hr, u1]
      have hn2 : w2 P 1 ≤ 4 ∧ w2 P 2 ≤ 4 := by
        rw [hf2 _ _ (by omega), hf2 _ _ (by omega)]
        have := hPRw.2.1
        have := hPRw.2.2.1
        omega
      exact SR.q hn2 (fun a k ha => uc _ _ (by omega)) (fun a k g0 g1 => uc _ _ (by omega)) (fun _ _ _ => rfl) hSR
  · have q1 := q_canPass h.rc (l := l)
    rw [if_neg hc] at q1
    have q2 := m_canRead h.rm hl
    rw [if_neg (by rw [← t.1.1]; exact hc)] at q2
    have e1 : mX11_read [b, l, x0, x1, x2, x3] S v = some (-1, v) := by
      apply wM_eq
      simp only [mX11_read, sX11_read, wE_I, wE_V, wE_F, wE_A, wE_N, wE_1, wE_2, wE_D, wE_B, wE_If, wE_C, wE_CV, wE_SL, wE_SA, wA_0, wA_1, wC_B, wC_E, wC_And, wC_Or, wC_Not, wS_Skip, wS_Brk, wS_Cnt, wS_RetV, wS_Ret, wS_Seq, wS_Set, wS_Inc, wS_Do, wS_Put, wS_PutC, wS_Arr, wS_ArrC, wS_If, wS_Sw, wS_F0, wS_F1, wM_q, lu_ap, aL_ap, ct_0, ct_1, ct_2, ct_3, ct_4, ct_5, headD_1, List.mem_cons, List.not_mem_nil, or_false, false_or, or_true, true_or, true_and, and_true, false_and, and_false, not_true_eq_false, not_false_eq_true, if_true, if_false, nr_20, nr_24, nr_40, nr_41, nr_44, pt_lt, pt_ge, pt_eq, pt_ne, pt_gt, pt_le, pt_E, pt_N, pt_F, ite_10, ite_11, ne_eq, and_self, or_self, decide_true, decide_false, Bool.not_true, Bool.not_false, Bool.false_eq_true, Nat.reduceEqDiff, Nat.reduceAdd, Int.reduceEq, Int.reduceLT, Int.reduceLE, Int.reduceNeg, Int.reduceAdd, Int.reduceSub, Int.reduceMul, reduceCtorEq, iA, iS, iM, iD, iR, iN, lA, lS, lM, lD, lR, hC.k, wM_of q1]
    have e2 : mX12_read [b + 889, l, x0, x1, x2, x3] S v = some (-1, v) := by
      apply wM_eq
      simp only [mX12_read, sX12_read, wE_I, wE_V, wE_F, wE_A, wE_N, wE_1, wE_2, wE_D, wE_B, wE_If, wE_C, wE_CV, wE_SL, wE_SA, wA_0, wA_1, wC_B, wC_E, wC_And, wC_Or, wC_Not, wS_Skip, wS_Brk, wS_Cnt, wS_RetV, wS_Ret, wS_Seq, wS_Set, wS_Inc, wS_Do, wS_Put, wS_PutC, wS_Arr, wS_ArrC, wS_If, wS_Sw, wS_F0, wS_F1, wM_q, lu_ap, aL_ap, ct_0, ct_1, ct_2, ct_3, ct_4, ct_5, headD_1, List.mem_cons, List.not_mem_nil, or_false, false_or, or_true, true_or, true_and, and_true, false_and, and_false, not_true_eq_false, not_false_eq_true, if_true, if_false, nr_20, nr_24, nr_40, nr_41, nr_44, pt_lt, pt_ge, pt_eq, pt_ne, pt_gt, pt_le, pt_E, pt_N, pt_F, ite_10, ite_11, ne_eq, and_self, or_self, decide_true, decide_false, Bool.not_true, Bool.not_false, Bool.false_eq_true, Nat.reduceEqDiff, Nat.reduceAdd, Int.reduceEq, Int.reduceLT, Int.reduceLE, Int.reduceNeg, Int.reduceAdd, Int.reduceSub, Int.reduceMul, reduceCtorEq, iA, iS, iM, iD, iR, iN, lA, lS, lM, lD, lR, hMo.k, wM_of q2]
    exact EQ.pp hX e1 e2 rfl
end GRD
