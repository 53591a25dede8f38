/-! STORE: a measure's line, the reference's -/
def meR (v : QV) (T i cnt b : Int) : Int × Int := if 4 ≤ cnt then (4, i) else if ¬ kdT v T (i + 1) = 4 then (1, i + 1) else if ¬ b = -1 then (3, i + 1) else if srtK (kdT v T (i + 2)) = -1 then (1, i + 2) else meB v T (srtK (kdT v T (i + 2))) (i + 3)
theorem meR_o {v : QV} {T i cnt b : Int} : meO v T i cnt b = stp (fKd v T 59) (meR v T i cnt b) := by
  unfold meO meR
  split
  · rw [stp_ff (by decide)]
  · split
    · rw [stp_ff (by decide)]
    · split
      · rw [stp_ff (by decide)]
      · split
        · rw [stp_ff (by decide)]
        · rfl
def mrF (u w : QV) (M B cnt nn : Int) : Prop := ∀ a k, (a = M → (k ≠ 27 ∨ nn < 0) ∧ (k < 32 ∨ 38 < k)) → (a = M + 3 → (k ≠ B ∨ nn < 0)) → (M + 8 ≤ a → a ≤ M + 13 → k ≠ 4 * B + cnt) → (a = M + 26 ∨ a = M + 27 ∨ a = M + 30 → (k ≠ nn ∨ nn < 0)) → w a k = u a k
theorem mrF.f {u w w' : QV} {M B cnt nn : Int} (h : mrF u w M B cnt nn) (hf : Fp M w w') : mrF u w' M B cnt nn := fun a k h1 h2 h3 h4 => (hf a k (fun e => (h1 e).2)).trans (h a k h1 h2 h3 h4)
theorem mrF.put {u w : QV} {M B cnt nn a z : Int} (h : mrF u w M B cnt nn) (ha : M + 8 ≤ a ∧ a ≤ M + 13) : mrF u (vu w a (4 * B + cnt) z) M B cnt nn := fun q k h1 h2 h3 h4 => by
  rw [vu_ne (fun e => h3 (by omega) (by omega) e.2)]
  exact h q k h1 h2 h3 h4
section MR2
variable {S : QS} {v w u : QV} {M T n x P B : Int} {o : Int × Int}
/-- a cell of the line set -/
theorem Mm.cell {u : QV} {R : QV → Prop} {cnt nn a z : Int} (h : Mm S v T M n (fun w => mrF u w M B cnt nn ∧ R w) w o) (ha : M + 8 ≤ a ∧ a ≤ M + 13) (hk : S.1 a = 40) (hR : ∀ w, R w → R (vu w a (4 * B + cnt) z)) : Mm S v T M n (fun w => mrF u w M B cnt nn ∧ R w ∧ w a (4 * B + cnt) = z) (vu w a (4 * B + cnt) z) o := h.put (by omega) (by rw [hk]; rfl) (fun w q => ⟨q.1.put ha, hR _ q.2, vu_is⟩)
theorem mrF.qz {u : QV} {R : QV → Prop} {cnt nn : Int} (hR : ∀ w1 w2, R w1 → Fp M w1 w2 → R w2) : Qz M (fun w => mrF u w M B cnt nn ∧ R w) := fun w1 w2 q1 q2 => ⟨q1.1.f q2, hR _ _ q1.2 q2⟩
/-- behind the sort -/
theorem m_meB {i srt cnt nn : Int} (hc : CX v M T n) (hsr : 0 ≤ srt ∧ srt ≤ 2) (o8 : 0 ≤ 4 * B + cnt ∧ 4 * B + cnt < 8) (h : Mm S v T M n (fun w => mrF u w M B cnt nn ∧ w (M + 8) (4 * B + cnt) = srt) w (0, i)) {L : QL} (l0 : L 0 = M) (l2 : L 2 = 4 * B + cnt) {t : QT} {Q : Nat → Int → QL → QV → Prop} (hfin : ∀ w', Mm S v T M n (fun w => mrF u w M B cnt nn ∧ ((meB v T srt i).1 = 0 → w (M + 8) (4 * B + cnt) = srt ∧ (srt = 2 → w (M + 9) (4 * B + cnt) = nmT v T i ∧ w (M + 10) (4 * B + cnt) = nmT v T (i + 1)) ∧ w (M + 11) (4 * B + cnt) = nmT v T (meJ srt i + 1) ∧ w (M + 12) (4 * B + cnt) = leT v T (meJ srt i + 2) ∧ w (M + 13) (4 * B + cnt) = moT v T (meL v T (0, meJ srt i + 2)).2)) w' (meB v T srt i) → wS t L S w' Q) : wS (sSeq (sIf (cB qeq (eA 40 (eF 12 7 (eV 0)) (eV 2)) (eI 2)) (sSeq (sArr 40 (eF 12 8 (eV 0)) (eV 2) (eCallV 12 mX12_numeral [(eV 0), (eI 4), (eI 20)])) (sArr 40 (eF 12 9 (eV 0)) (eV 2) (eCallV 12 mX12_numeral [(eV 0), (e2 iA (eA 40 (eF 12 8 (eV 0)) (eV 2)) (eI 1)), (eI 20)]))) sSkip) (sSeq (sDo (eCallV 12 mX12_needWord [(eV 0), (eI 2)])) (sSeq (sArr 40 (eF 12 10 (eV 0)) (eV 2) (eCallV 12 mX12_numeral [(eV 0), (eI 1), (eI 1000)])) (sSeq (sArr 40 (eF 12 11 (eV 0)) (eV 2) (eI 0)) (sSeq (sArr 40 (eF 12 12 (eV 0)) (eV 2) (eI 999999)) (sSeq (sIf (cE (eCallV 12 mX12_isWord [(eV 0), (eI 3)])) (sSeq (sDo (eCallV 12 mX12_scan [(eV 0)])) (sArr 40 (eF 12 11 (eV 0)) (eV 2) (eCallV 12 mX12_numeral [(eV 0), (eI 0), (eI 999999)]))) sSkip) (sSeq (sIf (cE (eCallV 12 mX12_isWord [(eV 0), (eI 4)])) (sSeq (sDo (eCallV 12 mX12_scan [(eV 0)])) (sArr 40 (eF 12 12 (eV 0)) (eV 2) (eCallV 12 mX12_numeral [(eV 0), (eA 40 (eF 12 11 (eV 0)) (eV 2)), (eI 999999)]))) sSkip) t))))))) L S w Q := by
  have pz : ∀ (a : Int) (z : Int), a ≠ M → ∀ w1 w2 : QV, w1 a (4 * B + cnt) = z → Fp M w1 w2 → w2 a (4 * B + cnt) = z := fun a z ha w1 w2 q1 q2 => by rw [q2 _ _ (by omega)]; exact q1
  have vz : ∀ (a a' : Int) (z z' : Int), a ≠ a' → ∀ w : QV, w a (4 * B + cnt) = z → vu w a' (4 * B + cnt) z' a (4 * B + cnt) = z := fun a a' z z' ha w q => by rw [vu_ne (fun e => ha e.1)]; exact q
  -- widths
  rw [wS_Seq]
  refine wS_mono (Q' := fun k _ L' w' => k = 0 ∧ L' = L ∧ Mm S v T M n (fun w => mrF u w M B cnt nn ∧ (w (M + 8) (4 * B + cnt) = srt ∧ ((meW v T srt i).1 = 0 → srt = 2 → w (M + 9) (4 * B + cnt) = nmT v T i ∧ w (M + 10) (4 * B + cnt) = nmT v T (i + 1)))) w' (meW v T srt i)) ?_ ?_
  · have hM := h.2.1.1
    have y8 := h.2.2.2
    by_cases c : srt = 2
    · have hmw : meW v T srt i = stp (fNu v T (nmT v T i + 1) 20) (stp (fNu v T 4 20) (0, i)) := by unfold meW; rw [if_pos c]
      rw [hmw]
      have y82 : w (M + 8) (4 * B + cnt) = 2 := y8.trans c
      simp only [wE_I, wE_V, wE_F, wE_A, wE_N, wE_1, wE_2, wE_D, wE_B, wE_If, wE_C, wE_CV, wE_SL, wE_SA, wA_0, wA_1, wC_B, wC_E, wC_And, wC_Or, wC_Not, wS_Skip, wS_Brk, wS_Cnt, wS_RetV, wS_Ret, wS_Seq, wS_Set, wS_Inc, wS_Do, wS_Put, wS_PutC, wS_Arr, wS_ArrC, wS_If, wS_Sw, wS_F0, wS_F1, wM_q, lu_ap, aL_ap, ct_0, ct_1, ct_2, ct_3, ct_4, ct_5, headD_1, List.mem_cons, List.not_mem_nil, or_false, false_or, or_true, true_or, true_and, and_true, false_and, and_false, not_true_eq_false, not_false_eq_true, if_true, if_false, nr_20, nr_24, nr_40, nr_41, nr_44, pt_lt, pt_ge, pt_eq, pt_ne, pt_gt, pt_le, pt_E, pt_N, pt_F, ite_10, ite_11, ne_eq, and_self, or_self, decide_true, decide_false, Bool.not_true, Bool.not_false, Bool.false_eq_true, Nat.reduceEqDiff, Nat.reduceAdd, Int.reduceEq, Int.reduceLT, Int.reduceLE, Int.reduceNeg, Int.reduceAdd, Int.reduceSub, Int.reduceMul, reduceCtorEq, iA, iS, iM, iD, iR, iN, lA, lS, lM, lD, lR, l0, l2, hM.k, hM.p7, hM.a8, hM.n8, o8, y82, hM.p8]
      refine wM_mono (h.nl hc (mrF.qz (pz _ _ (by omega))) (lo := 4) (hi := 20) (by decide)) ?_
      rintro r1 w1 e1 ⟨hm1, hr1⟩
      have hM1 := hm1.2.1.1
      have hm1' := hm1.cell (a := M + 9) (z := r1) (by omega) hM1.a9 (vz _ _ _ _ (by omega))
      have hM1' := hm1'.2.1.1
      have x9 : vu w1 (M + 9) (4 * B + cnt) r1 (M + 9) (4 * B + cnt) = r1 := vu_is
      simp only [hM1.a9, hM1.n9, o8, hM1'.k, hM1'.p9, hM1'.p8, x9, l0, l2, wE_I, wE_V, wE_F, wE_A, wE_N, wE_1, wE_2, wE_D, wE_B, wE_If, wE_C, wE_CV, wE_SL, wE_SA, wA_0, wA_1, wC_B, wC_E, wC_And, wC_Or, wC_Not, wS_Skip, wS_Brk, wS_Cnt, wS_RetV, wS_Ret, wS_Seq, wS_Set, wS_Inc, wS_Do, wS_Put, wS_PutC, wS_Arr, wS_ArrC, wS_If, wS_Sw, wS_F0, wS_F1, wM_q, lu_ap, aL_ap, ct_0, ct_1, ct_2, ct_3, ct_4, ct_5, headD_1, List.mem_cons, List.not_mem_nil, or_false, false_or, or_true, true_or, true_and, and_true, false_and, and_false, not_true_eq_false, not_false_eq_true, if_true, if_false, nr_20, nr_24, nr_40, nr_41, nr_44, pt_lt, pt_ge, pt_eq, pt_ne, pt_gt, pt_le, pt_E, pt_N, pt_F, ite_10, ite_11, ne_eq, and_self, or_self, decide_true, decide_false, Bool.not_true, Bool.not_false, Bool.false_eq_true, Nat.reduceEqDiff, Nat.reduceAdd, Int.reduceEq, Int.reduceLT, Int.reduceLE, Int.reduceNeg, Int.reduceAdd, Int.reduceSub, Int.reduceMul, reduceCtorEq, iA, iS, iM, iD, iR, iN, lA, lS, lM, lD, lR]
      refine wM_mono (hm1'.nl hc (mrF.qz (fun w1 w2 q1 q2 => ⟨pz _ _ (by omega) _ _ q1.1 q2, pz _ _ (by omega) _ _ q1.2 q2⟩)) (lo := w32 (r1 + 1)) (hi := 20) (by decide)) ?_
      rintro r2 w2 e2 ⟨hm2, hr2⟩
      have hM2 := hm2.2.1.1
      have hm2' := hm2.cell (a := M + 10) (z := r2) (by omega) hM2.a10 (fun w q => ⟨vz _ _ _ _ (by omega) _ q.1, vz _ _ _ _ (by omega) _ q.2⟩)
      have hoe : stp (fNu v T (w32 (r1 + 1)) 20) (stp (fNu v T 4 20) (0, i)) = stp (fNu v T (nmT v T i + 1) 20) (stp (fNu v T 4 20) (0, i)) := by
        by_cases z : (stp (fNu v T 4 20) (0, i)).1 = 0
        · have hz := (stp_i z).2.1
          have hb := fNu_0 hz
          dsimp only at hb
          have e : r1 = nmT v T i := hr1 z
          rw [e, w32_e (by omega)]
        · rw [stp_t z, stp_t z]
      rw [hoe] at hm2' hr2
      simp only [hM2.a10, hM2.n10, o8, wE_I, wE_V, wE_F, wE_A, wE_N, wE_1, wE_2, wE_D, wE_B, wE_If, wE_C, wE_CV, wE_SL, wE_SA, wA_0, wA_1, wC_B, wC_E, wC_And, wC_Or, wC_Not, wS_Skip, wS_Brk, wS_Cnt, wS_RetV, wS_Ret, wS_Seq, wS_Set, wS_Inc, wS_Do, wS_Put, wS_PutC, wS_Arr, wS_ArrC, wS_If, wS_Sw, wS_F0, wS_F1, wM_q, lu_ap, aL_ap, ct_0, ct_1, ct_2, ct_3, ct_4, ct_5, headD_1, List.mem_cons, List.not_mem_nil, or_false, false_or, or_true, true_or, true_and, and_true, false_and, and_false, not_true_eq_false, not_false_eq_true, if_true, if_false, nr_20, nr_24, nr_40, nr_41, nr_44, pt_lt, pt_ge, pt_eq, pt_ne, pt_gt, pt_le, pt_E, pt_N, pt_F, ite_10, ite_11, ne_eq, and_self, or_self, decide_true, decide_false, Bool.not_true, Bool.not_false, Bool.false_eq_true, Nat.reduceEqDiff, Nat.reduceAdd, Int.reduceEq, Int.reduceLT, Int.reduceLE, Int.reduceNeg, Int.reduceAdd, Int.reduceSub, Int.reduceMul, reduceCtorEq]
      refine hm2'.cg (fun q => ⟨q.1, q.2.1.1, fun z _ => ⟨?_, ?_⟩⟩)
      · rw [q.2.1.2]; exact hr1 (stp_i z).1
      · rw [q.2.2, hr2 z]
        congr 1
        have := (stp_i (stp_i z).1).2.2
        rw [this]
    · have hmw : meW v T srt i = (0, i) := by unfold meW; rw [if_neg c]
      rw [hmw]
      have y82 : ¬ w (M + 8) (4 * B + cnt) = 2 := by rw [y8]; exact c
      simp only [wE_I, wE_V, wE_F, wE_A, wE_N, wE_1, wE_2, wE_D, wE_B, wE_If, wE_C, wE_CV, wE_SL, wE_SA, wA_0, wA_1, wC_B, wC_E, wC_And, wC_Or, wC_Not, wS_Skip, wS_Brk, wS_Cnt, wS_RetV, wS_Ret, wS_Seq, wS_Set, wS_Inc, wS_Do, wS_Put, wS_PutC, wS_Arr, wS_ArrC, wS_If, wS_Sw, wS_F0, wS_F1, wM_q, lu_ap, aL_ap, ct_0, ct_1, ct_2, ct_3, ct_4, ct_5, headD_1, List.mem_cons, List.not_mem_nil, or_false, false_or, or_true, true_or, true_and, and_true, false_and, and_false, not_true_eq_false, not_false_eq_true, if_true, if_false, nr_20, nr_24, nr_40, nr_41, nr_44, pt_lt, pt_ge, pt_eq, pt_ne, pt_gt, pt_le, pt_E, pt_N, pt_F, ite_10, ite_11, ne_eq, and_self, or_self, decide_true, decide_false, Bool.not_true, Bool.not_false, Bool.false_eq_true, Nat.reduceEqDiff, Nat.reduceAdd, Int.reduceEq, Int.reduceLT, Int.reduceLE, Int.reduceNeg, Int.reduceAdd, Int.reduceSub, Int.reduceMul, reduceCtorEq, iA, iS, iM, iD, iR, iN, lA, lS, lM, lD, lR, l0, l2, hM.k, hM.p7, hM.a8, hM.n8, o8, y82]
      exact h.cg (fun q => ⟨q.1, q.2, fun _ z => absurd z c⟩)
  rintro k z L' w1 ⟨rfl, rfl, hm1⟩
  rw [if_pos rfl]
  generalize hW : meW v T srt i = oW at *
  have hq1 : Qz M (fun w => mrF u w M B cnt nn ∧ (w (M + 8) (4 * B + cnt) = srt ∧ (oW.1 = 0 → srt = 2 → w (M + 9) (4 * B + cnt) = nmT v T i ∧ w (M + 10) (4 * B + cnt) = nmT v T (i + 1)))) := mrF.qz (fun w1 w2 q1 q2 => ⟨pz _ _ (by omega) _ _ q1.1 q2, fun a b => ⟨pz _ _ (by omega) _ _ (q1.2 a b).1 q2, pz _ _ (by omega) _ _ (q1.2 a b).2 q2⟩⟩)
  refine ws_call (fun w' => Mm S v T M n (fun w => mrF u w M B cnt nn ∧ (w (M + 8) (4 * B + cnt) = srt ∧ (oW.1 = 0 → srt = 2 → w (M + 9) (4 * B + cnt) = nmT v T i ∧ w (M + 10) (4 * B + cnt) = nmT v T (i + 1)))) w' (stp (fKd v T 261) oW)) (by
    have := hm1.nw hc hq1 (j := 2) (by decide)
    rw [show (256 : Int) + (pmN 2 : Nat) = 261 from rfl] at this
    simp only [wE_I, wE_V, wE_F, wE_A, wE_N, wE_1, wE_2, wE_D, wE_B, wE_If, wE_C, wE_CV, wE_SL, wE_SA, wA_0, wA_1, wC_B, wC_E, wC_And, wC_Or, wC_Not, wS_Skip, wS_Brk, wS_Cnt, wS_RetV, wS_Ret, wS_Seq, wS_Set, wS_Inc, wS_Do, wS_Put, wS_PutC, wS_Arr, wS_ArrC, wS_If, wS_Sw, wS_F0, wS_F1, wM_q, lu_ap, aL_ap, ct_0, ct_1, ct_2, ct_3, ct_4, ct_5, headD_1, List.mem_cons, List.not_mem_nil, or_false, false_or, or_true, true_or, true_and, and_true, false_and, and_false, not_true_eq_false, not_false_eq_true, if_true, if_false, nr_20, nr_24, nr_40, nr_41, nr_44, pt_lt, pt_ge, pt_eq, pt_ne, pt_gt, pt_le, pt_E, pt_N, pt_F, ite_10, ite_11, ne_eq, and_self, or_self, decide_true, decide_false, Bool.not_true, Bool.not_false, Bool.false_eq_true, Nat.reduceEqDiff, Nat.reduceAdd, Int.reduceEq, Int.reduceLT, Int.reduceLE, Int.reduceNeg, Int.reduceAdd, Int.reduceSub, Int.reduceMul, reduceCtorEq, iA, iS, iM, iD, iR, iN, lA, lS, lM, lD, lR, l0, hm1.2.1.1.k]
    exact this) ?_
  intro w2 hm2
  have hM2 := hm2.2.1.1
  rw [wS_Seq]
  refine wS_mono (Q' := fun k _ L'' w' => k = 0 ∧ L'' = L' ∧ Mm S v T M n (fun w => mrF u w M B cnt nn ∧ ((w (M + 8) (4 * B + cnt) = srt ∧ (oW.1 = 0 → srt = 2 → w (M + 9) (4 * B + cnt) = nmT v T i ∧ w (M + 10) (4 * B + cnt) = nmT v T (i + 1))) ∧ ((stp (fNu v T 1 1000) (stp (fKd v T 261) oW)).1 = 0 → w (M + 11) (4 * B + cnt) = nmT v T (stp (fKd v T 261) oW).2))) w' (stp (fNu v T 1 1000) (stp (fKd v T 261) oW))) ?_ ?_
  · simp only [wE_I, wE_V, wE_F, wE_A, wE_N, wE_1, wE_2, wE_D, wE_B, wE_If, wE_C, wE_CV, wE_SL, wE_SA, wA_0, wA_1, wC_B, wC_E, wC_And, wC_Or, wC_Not, wS_Skip, wS_Brk, wS_Cnt, wS_RetV, wS_Ret, wS_Seq, wS_Set, wS_Inc, wS_Do, wS_Put, wS_PutC, wS_Arr, wS_ArrC, wS_If, wS_Sw, wS_F0, wS_F1, wM_q, lu_ap, aL_ap, ct_0, ct_1, ct_2, ct_3, ct_4, ct_5, headD_1, List.mem_cons, List.not_mem_nil, or_false, false_or, or_true, true_or, true_and, and_true, false_and, and_false, not_true_eq_false, not_false_eq_true, if_true, if_false, nr_20, nr_24, nr_40, nr_41, nr_44, pt_lt, pt_ge, pt_eq, pt_ne, pt_gt, pt_le, pt_E, pt_N, pt_F, ite_10, ite_11, ne_eq, and_self, or_self, decide_true, decide_false, Bool.not_true, Bool.not_false, Bool.false_eq_true, Nat.reduceEqDiff, Nat.reduceAdd, Int.reduceEq, Int.reduceLT, Int.reduceLE, Int.reduceNeg, Int.reduceAdd, Int.reduceSub, Int.reduceMul, reduceCtorEq, iA, iS, iM, iD, iR, iN, lA, lS, lM, lD, lR, l0, l2, hM2.k, hM2.p10]
    refine wM_mono (hm2.nl hc hq1 (lo := 1) (hi := 1000) (by decide)) ?_
    rintro r3 w3 e3 ⟨hm3, hr3⟩
    have hM3 := hm3.2.1.1
    have hm3' := hm3.cell (a := M + 11) (z := r3) (by omega) hM3.a11 (fun w q => ⟨vz _ _ _ _ (by omega) _ q.1, fun a b => ⟨vz _ _ _ _ (by omega) _ (q.2 a b).1, vz _ _ _ _ (by omega) _ (q.2 a b).2⟩⟩)
    simp only [hM3.a11, hM3.n11, o8, wE_I, wE_V, wE_F, wE_A, wE_N, wE_1, wE_2, wE_D, wE_B, wE_If, wE_C, wE_CV, wE_SL, wE_SA, wA_0, wA_1, wC_B, wC_E, wC_And, wC_Or, wC_Not, wS_Skip, wS_Brk, wS_Cnt, wS_RetV, wS_Ret, wS_Seq, wS_Set, wS_Inc, wS_Do, wS_Put, wS_PutC, wS_Arr, wS_ArrC, wS_If, wS_Sw, wS_F0, wS_F1, wM_q, lu_ap, aL_ap, ct_0, ct_1, ct_2, ct_3, ct_4, ct_5, headD_1, List.mem_cons, List.not_mem_nil, or_false, false_or, or_true, true_or, true_and, and_true, false_and, and_false, not_true_eq_false, not_false_eq_true, if_true, if_false, nr_20, nr_24, nr_40, nr_41, nr_44, pt_lt, pt_ge, pt_eq, pt_ne, pt_gt, pt_le, pt_E, pt_N, pt_F, ite_10, ite_11, ne_eq, and_self, or_self, decide_true, decide_false, Bool.not_true, Bool.not_false, Bool.false_eq_true, Nat.reduceEqDiff, Nat.reduceAdd, Int.reduceEq, Int.reduceLT, Int.reduceLE, Int.reduceNeg, Int.reduceAdd, Int.reduceSub, Int.reduceMul, reduceCtorEq]
    exact hm3'.cg (fun q => ⟨q.1, q.2.1, fun z => by rw [q.2.2]; exact hr3 z⟩)
  rintro k z L'' w3 ⟨rfl, rfl, hm3⟩
  rw [if_pos rfl]
  have hm4 := (hm3.cell (a := M + 12) (z := 0) (by omega) hm3.2.1.1.a12 (fun w q => ⟨⟨vz _ _ _ _ (by omega) _ q.1.1, fun a b => ⟨vz _ _ _ _ (by omega) _ (q.1.2 a b).1, vz _ _ _ _ (by omega) _ (q.1.2 a b).2⟩⟩, fun a => vz _ _ _ _ (by omega) _ (q.2 a)⟩))
  have hM3 := hm3.2.1.1
  refine ws_step (L' := L'') (w := vu w3 (M + 12) (4 * B + cnt) 0) (by simp only [wE_I, wE_V, wE_F, wE_A, wE_N, wE_1, wE_2, wE_D, wE_B, wE_If, wE_C, wE_CV, wE_SL, wE_SA, wA_0, wA_1, wC_B, wC_E, wC_And, wC_Or, wC_Not, wS_Skip, wS_Brk, wS_Cnt, wS_RetV, wS_Ret, wS_Seq, wS_Set, wS_Inc, wS_Do, wS_Put, wS_PutC, wS_Arr, wS_ArrC, wS_If, wS_Sw, wS_F0, wS_F1, wM_q, lu_ap, aL_ap, ct_0, ct_1, ct_2, ct_3, ct_4, ct_5, headD_1, List.mem_cons, List.not_mem_nil, or_false, false_or, or_true, true_or, true_and, and_true, false_and, and_false, not_true_eq_false, not_false_eq_true, if_true, if_false, nr_20, nr_24, nr_40, nr_41, nr_44, pt_lt, pt_ge, pt_eq, pt_ne, pt_gt, pt_le, pt_E, pt_N, pt_F, ite_10, ite_11, ne_eq, and_self, or_self, decide_true, decide_false, Bool.not_true, Bool.not_false, Bool.false_eq_true, Nat.reduceEqDiff, Nat.reduceAdd, Int.reduceEq, Int.reduceLT, Int.reduceLE, Int.reduceNeg, Int.reduceAdd, Int.reduceSub, Int.reduceMul, reduceCtorEq, iA, iS, iM, iD, iR, iN, lA, lS, lM, lD, lR, l0, l2, hM3.k, hM3.p11, hM3.a12, hM3.n12, o8]) ?_
  generalize vu w3 (M + 12) (4 * B + cnt) 0 = w4 at *
  have hM4 := hm4.2.1.1
  have hm5 := (hm4.cell (a := M + 13) (z := 999999) (by omega) hM4.a13 (fun w q => ⟨⟨⟨vz _ _ _ _ (by omega) _ q.1.1.1, fun a b => ⟨vz _ _ _ _ (by omega) _ (q.1.1.2 a b).1, vz _ _ _ _ (by omega) _ (q.1.1.2 a b).2⟩⟩, fun a => vz _ _ _ _ (by omega) _ (q.1.2 a)⟩, vz _ _ _ _ (by omega) _ q.2⟩))
  refine ws_step (L' := L'') (w := vu w4 (M + 13) (4 * B + cnt) 999999) (by simp only [wE_I, wE_V, wE_F, wE_A, wE_N, wE_1, wE_2, wE_D, wE_B, wE_If, wE_C, wE_CV, wE_SL, wE_SA, wA_0, wA_1, wC_B, wC_E, wC_And, wC_Or, wC_Not, wS_Skip, wS_Brk, wS_Cnt, wS_RetV, wS_Ret, wS_Seq, wS_Set, wS_Inc, wS_Do, wS_Put, wS_PutC, wS_Arr, wS_ArrC, wS_If, wS_Sw, wS_F0, wS_F1, wM_q, lu_ap, aL_ap, ct_0, ct_1, ct_2, ct_3, ct_4, ct_5, headD_1, List.mem_cons, List.not_mem_nil, or_false, false_or, or_true, true_or, true_and, and_true, false_and, and_false, not_true_eq_false, not_false_eq_true, if_true, if_false, nr_20, nr_24, nr_40, nr_41, nr_44, pt_lt, pt_ge, pt_eq, pt_ne, pt_gt, pt_le, pt_E, pt_N, pt_F, ite_10, ite_11, ne_eq, and_self, or_self, decide_true, decide_false, Bool.not_true, Bool.not_false, Bool.false_eq_true, Nat.reduceEqDiff, Nat.reduceAdd, Int.reduceEq, Int.reduceLT, Int.reduceLE, Int.reduceNeg, Int.reduceAdd, Int.reduceSub, Int.reduceMul, reduceCtorEq, iA, iS, iM, iD, iR, iN, lA, lS, lM, lD, lR, l0, l2, hM4.k, hM4.p12, hM4.a13, hM4.n13, o8]) ?_
  generalize vu w4 (M + 13) (4 * B + cnt) 999999 = w5 at *
  -- the bounds
  have hRA : ∃ RA : QV → Prop, (∀ w, RA w ↔ ((w (M + 8) (4 * B + cnt) = srt ∧ (oW.1 = 0 → srt = 2 → w (M + 9) (4 * B + cnt) = nmT v T i ∧ w (M + 10) (4 * B + cnt) = nmT v T (i + 1))) ∧ ((stp (fNu v T 1 1000) (stp (fKd v T 261) oW)).1 = 0 → w (M + 11) (4 * B + cnt) = nmT v T (stp (fKd v T 261) oW).2))) ∧ (∀ w1 w2, RA w1 → Fp M w1 w2 → RA w2) ∧ (∀ (w : QV) (a z : Int), (a = M + 12 ∨ a = M + 13) → RA w → RA (vu w a (4 * B + cnt) z)) := ⟨_, fun _ => Iff.rfl, fun w1 w2 q1 q2 => ⟨⟨pz _ _ (by omega) _ _ q1.1.1 q2, fun a b => ⟨pz _ _ (by omega) _ _ (q1.1.2 a b).1 q2, pz _ _ (by omega) _ _ (q1.1.2 a b).2 q2⟩⟩, fun a => pz _ _ (by omega) _ _ (q1.2 a) q2⟩, fun w a z ha q => ⟨⟨vz _ _ _ _ (by omega) _ q.1.1, fun c d => ⟨vz _ _ _ _ (by omega) _ (q.1.2 c d).1, vz _ _ _ _ (by omega) _ (q.1.2 c d).2⟩⟩, fun c => vz _ _ _ _ (by omega) _ (q.2 c)⟩⟩
  obtain ⟨RA, hRi, hRf, hRp⟩ := hRA
  have hm6 := hm5.cg (Q' := fun w => mrF u w M B cnt nn ∧ (RA w ∧ w (M + 12) (4 * B + cnt) = 0) ∧ w (M + 13) (4 * B + cnt) = 999999) (fun q => ⟨q.1, ⟨(hRi _).mpr q.2.1.1, q.2.1.2⟩, q.2.2⟩)
  have hmeB : meB v T srt i = meM v T (leT v T (stp (fNu v T 1 1000) (stp (fKd v T 261) oW)).2) (meL v T (stp (fNu v T 1 1000) (stp (fKd v T 261) oW))) := by unfold meB; rw [hW]
  have hback : (stp (fNu v T 1 1000) (stp (fKd v T 261) oW)).1 = 0 → oW = (0, meJ srt i) ∧ (stp (fKd v T 261) oW).2 = meJ srt i + 1 ∧ stp (fNu v T 1 1000) (stp (fKd v T 261) oW) = (0, meJ srt i + 2) := fun z => by
    obtain ⟨a1, a2, a3⟩ := stp_i z
    obtain ⟨b1, b2, b3⟩ := stp_i a1
    have hj := meW_2 (v := v) (T := T) (srt := srt) (i := i) (by rw [hW]; exact b1)
    rw [hW] at hj
    exact ⟨pair_e b1 hj, by rw [b3, hj], pair_e z (by rw [a3, b3, hj]; omega)⟩
  clear hm5 hm4 hm3 hm2 hm1
  generalize ho2 : stp (fNu v T 1 1000) (stp (fKd v T 261) oW) = o2 at *
  have hM5 := hm6.2.1.1
  -- least
  rw [wS_Seq]
  refine wS_mono (Q' := fun k _ L' w' => k = 0 ∧ L' = L'' ∧ Mm S v T M n (fun w => mrF u w M B cnt nn ∧ (RA w ∧ ((meL v T o2).1 = 0 → w (M + 12) (4 * B + cnt) = leT v T o2.2)) ∧ w (M + 13) (4 * B + cnt) = 999999) w' (meL v T o2)) ?_ ?_
  · have hi3 := m_isWordO hm6.2.1 hm6.1 (j := 3) (by decide)
    simp only [show (256 : Int) + (pmN 3 : Nat) = 262 from rfl, show (((3 : Nat)) : Int) = 3 from rfl] at hi3
    by_cases c : o2.1 = 0 ∧ kdT v T o2.2 = 262
    · rw [if_pos c] at hi3
      have hml : meL v T o2 = stp (fNu v T 0 999999) (0, o2.2 + 1) := by unfold meL; rw [if_pos c]
      have hle : leT v T o2.2 = nmT v T (o2.2 + 1) := by unfold leT; rw [if_pos c.2]
      have hmi : Mm S v T M n (fun w => mrF u w M B cnt nn ∧ (RA w ∧ w (M + 13) (4 * B + cnt) = 999999)) w5 (0, o2.2) := by
        have : o2 = (0, o2.2) := pair_e c.1 rfl
        rw [← this]
        exact hm6.cg (fun q => ⟨q.1, q.2.1.1, q.2.2⟩)
      have hqm : Qz M (fun w => mrF u w M B cnt nn ∧ (RA w ∧ w (M + 13) (4 * B + cnt) = 999999)) := mrF.qz (fun w1 w2 q1 q2 => ⟨hRf _ _ q1.1 q2, pz _ _ (by omega) _ _ q1.2 q2⟩)
      rw [hml, hle]
      simp only [wE_I, wE_V, wE_F, wE_A, wE_N, wE_1, wE_2, wE_D, wE_B, wE_If, wE_C, wE_CV, wE_SL, wE_SA, wA_0, wA_1, wC_B, wC_E, wC_And, wC_Or, wC_Not, wS_Skip, wS_Brk, wS_Cnt, wS_RetV, wS_Ret, wS_Seq, wS_Set, wS_Inc, wS_Do, wS_Put, wS_PutC, wS_Arr, wS_ArrC, wS_If, wS_Sw, wS_F0, wS_F1, wM_q, lu_ap, aL_ap, ct_0, ct_1, ct_2, ct_3, ct_4, ct_5, headD_1, List.mem_cons, List.not_mem_nil, or_false, false_or, or_true, true_or, true_and, and_true, false_and, and_false, not_true_eq_false, not_false_eq_true, if_true, if_false, nr_20, nr_24, nr_40, nr_41, nr_44, pt_lt, pt_ge, pt_eq, pt_ne, pt_gt, pt_le, pt_E, pt_N, pt_F, ite_10, ite_11, ne_eq, and_self, or_self, decide_true, decide_false, Bool.not_true, Bool.not_false, Bool.false_eq_true, Nat.reduceEqDiff, Nat.reduceAdd, Int.reduceEq, Int.reduceLT, Int.reduceLE, Int.reduceNeg, Int.reduceAdd, Int.reduceSub, Int.reduceMul, reduceCtorEq, iA, iS, iM, iD, iR, iN, lA, lS, lM, lD, lR, l0, l2, hM5.k, wM_of hi3]
      refine wM_mono (hmi.sc hc hqm (by rw [c.2]; decide)) ?_
      rintro r6 w6 e6 hm7
      have hM7 := hm7.2.1.1
      simp only [l0, l2, hM7.k, hM7.p11, wE_I, wE_V, wE_F, wE_A, wE_N, wE_1, wE_2, wE_D, wE_B, wE_If, wE_C, wE_CV, wE_SL, wE_SA, wA_0, wA_1, wC_B, wC_E, wC_And, wC_Or, wC_Not, wS_Skip, wS_Brk, wS_Cnt, wS_RetV, wS_Ret, wS_Seq, wS_Set, wS_Inc, wS_Do, wS_Put, wS_PutC, wS_Arr, wS_ArrC, wS_If, wS_Sw, wS_F0, wS_F1, wM_q, lu_ap, aL_ap, ct_0, ct_1, ct_2, ct_3, ct_4, ct_5, headD_1, List.mem_cons, List.not_mem_nil, or_false, false_or, or_true, true_or, true_and, and_true, false_and, and_false, not_true_eq_false, not_false_eq_true, if_true, if_false, nr_20, nr_24, nr_40, nr_41, nr_44, pt_lt, pt_ge, pt_eq, pt_ne, pt_gt, pt_le, pt_E, pt_N, pt_F, ite_10, ite_11, ne_eq, and_self, or_self, decide_true, decide_false, Bool.not_true, Bool.not_false, Bool.false_eq_true, Nat.reduceEqDiff, Nat.reduceAdd, Int.reduceEq, Int.reduceLT, Int.reduceLE, Int.reduceNeg, Int.reduceAdd, Int.reduceSub, Int.reduceMul, reduceCtorEq]
      refine wM_mono (hm7.nl hc hqm (lo := 0) (hi := 999999) (by decide)) ?_
      rintro r7 w7 e7 ⟨hm8, hr8⟩
      have hM8 := hm8.2.1.1
      have hm9 := hm8.cell (a := M + 12) (z := r7) (by omega) hM8.a12 (fun w q => ⟨hRp _ _ _ (Or.inl rfl) q.1, vz _ _ _ _ (by omega) _ q.2⟩)
      simp only [hM8.a12, hM8.n12, o8, wE_I, wE_V, wE_F, wE_A, wE_N, wE_1, wE_2, wE_D, wE_B, wE_If, wE_C, wE_CV, wE_SL, wE_SA, wA_0, wA_1, wC_B, wC_E, wC_And, wC_Or, wC_Not, wS_Skip, wS_Brk, wS_Cnt, wS_RetV, wS_Ret, wS_Seq, wS_Set, wS_Inc, wS_Do, wS_Put, wS_PutC, wS_Arr, wS_ArrC, wS_If, wS_Sw, wS_F0, wS_F1, wM_q, lu_ap, aL_ap, ct_0, ct_1, ct_2, ct_3, ct_4, ct_5, headD_1, List.mem_cons, List.not_mem_nil, or_false, false_or, or_true, true_or, true_and, and_true, false_and, and_false, not_true_eq_false, not_false_eq_true, if_true, if_false, nr_20, nr_24, nr_40, nr_41, nr_44, pt_lt, pt_ge, pt_eq, pt_ne, pt_gt, pt_le, pt_E, pt_N, pt_F, ite_10, ite_11, ne_eq, and_self, or_self, decide_true, decide_false, Bool.not_true, Bool.not_false, Bool.false_eq_true, Nat.reduceEqDiff, Nat.reduceAdd, Int.reduceEq, Int.reduceLT, Int.reduceLE, Int.reduceNeg, Int.reduceAdd, Int.reduceSub, Int.reduceMul, reduceCtorEq]
      exact hm9.cg (fun q => ⟨q.1, ⟨q.2.1.1, fun z => by rw [q.2.2]; exact hr8 z⟩, q.2.1.2⟩)
    · rw [if_neg c] at hi3
      have hml : meL v T o2 = o2 := by unfold meL; rw [if_neg c]
      rw [hml]
      simp only [wE_I, wE_V, wE_F, wE_A, wE_N, wE_1, wE_2, wE_D, wE_B, wE_If, wE_C, wE_CV, wE_SL, wE_SA, wA_0, wA_1, wC_B, wC_E, wC_And, wC_Or, wC_Not, wS_Skip, wS_Brk, wS_Cnt, wS_RetV, wS_Ret, wS_Seq, wS_Set, wS_Inc, wS_Do, wS_Put, wS_PutC, wS_Arr, wS_ArrC, wS_If, wS_Sw, wS_F0, wS_F1, wM_q, lu_ap, aL_ap, ct_0, ct_1, ct_2, ct_3, ct_4, ct_5, headD_1, List.mem_cons, List.not_mem_nil, or_false, false_or, or_true, true_or, true_and, and_true, false_and, and_false, not_true_eq_false, not_false_eq_true, if_true, if_false, nr_20, nr_24, nr_40, nr_41, nr_44, pt_lt, pt_ge, pt_eq, pt_ne, pt_gt, pt_le, pt_E, pt_N, pt_F, ite_10, ite_11, ne_eq, and_self, or_self, decide_true, decide_false, Bool.not_true, Bool.not_false, Bool.false_eq_true, Nat.reduceEqDiff, Nat.reduceAdd, Int.reduceEq, Int.reduceLT, Int.reduceLE, Int.reduceNeg, Int.reduceAdd, Int.reduceSub, Int.reduceMul, reduceCtorEq, iA, iS, iM, iD, iR, iN, lA, lS, lM, lD, lR, l0, hM5.k, wM_of hi3]
      exact hm6.cg (fun q => ⟨q.1, ⟨q.2.1.1, fun z => by rw [q.2.1.2]; unfold leT; rw [if_neg (fun y => c ⟨z, y⟩)]⟩, q.2.2⟩)
  rintro k z La w6 ⟨rfl, rfl, hm7⟩
  rw [if_pos rfl]
  have hL3 : (meL v T o2).1 = 0 → o2.1 = 0 := fun z => by
    by_cases c : o2.1 = 0
    · exact c
    · rw [meL_d c] at z; exact z
  generalize ho3 : meL v T o2 = o3 at *
  have hM6 := hm7.2.1.1
  -- most
  rw [wS_Seq]
  refine wS_mono (Q' := fun k _ L' w' => k = 0 ∧ L' = La ∧ Mm S v T M n (fun w => mrF u w M B cnt nn ∧ RA w ∧ ((meM v T (leT v T o2.2) o3).1 = 0 → w (M + 12) (4 * B + cnt) = leT v T o2.2 ∧ w (M + 13) (4 * B + cnt) = moT v T o3.2)) w' (meM v T (leT v T o2.2) o3)) ?_ ?_
  · have hi4 := m_isWordO hm7.2.1 hm7.1 (j := 4) (by decide)
    simp only [show (256 : Int) + (pmN 4 : Nat) = 263 from rfl, show (((4 : Nat)) : Int) = 4 from rfl] at hi4
    by_cases c : o3.1 = 0 ∧ kdT v T o3.2 = 263
    · rw [if_pos c] at hi4
      have hmm : meM v T (leT v T o2.2) o3 = stp (fNu v T (leT v T o2.2) 999999) (0, o3.2 + 1) := by unfold meM; rw [if_pos c]
      have hmo : moT v T o3.2 = nmT v T (o3.2 + 1) := by unfold moT; rw [if_pos c.2]
      have hmi : Mm S v T M n (fun w => mrF u w M B cnt nn ∧ (RA w ∧ w (M + 12) (4 * B + cnt) = leT v T o2.2)) w6 (0, o3.2) := by
        have : o3 = (0, o3.2) := pair_e c.1 rfl
        rw [← this]
        exact hm7.cg (fun q => ⟨q.1, q.2.1.1, q.2.1.2 c.1⟩)
      have hqm : Qz M (fun w => mrF u w M B cnt nn ∧ (RA w ∧ w (M + 12) (4 * B + cnt) = leT v T o2.2)) := mrF.qz (fun w1 w2 q1 q2 => ⟨hRf _ _ q1.1 q2, pz _ _ (by omega) _ _ q1.2 q2⟩)
      rw [hmm, hmo]
      simp only [wE_I, wE_V, wE_F, wE_A, wE_N, wE_1, wE_2, wE_D, wE_B, wE_If, wE_C, wE_CV, wE_SL, wE_SA, wA_0, wA_1, wC_B, wC_E, wC_And, wC_Or, wC_Not, wS_Skip, wS_Brk, wS_Cnt, wS_RetV, wS_Ret, wS_Seq, wS_Set, wS_Inc, wS_Do, wS_Put, wS_PutC, wS_Arr, wS_ArrC, wS_If, wS_Sw, wS_F0, wS_F1, wM_q, lu_ap, aL_ap, ct_0, ct_1, ct_2, ct_3, ct_4, ct_5, headD_1, List.mem_cons, List.not_mem_nil, or_false, false_or, or_true, true_or, true_and, and_true, false_and, and_false, not_true_eq_false, not_false_eq_true, if_true, if_false, nr_20, nr_24, nr_40, nr_41, nr_44, pt_lt, pt_ge, pt_eq, pt_ne, pt_gt, pt_le, pt_E, pt_N, pt_F, ite_10, ite_11, ne_eq, and_self, or_self, decide_true, decide_false, Bool.not_true, Bool.not_false, Bool.false_eq_true, Nat.reduceEqDiff, Nat.reduceAdd, Int.reduceEq, Int.reduceLT, Int.reduceLE, Int.reduceNeg, Int.reduceAdd, Int.reduceSub, Int.reduceMul, reduceCtorEq, iA, iS, iM, iD, iR, iN, lA, lS, lM, lD, lR, l0, l2, hM6.k, wM_of hi4]
      refine wM_mono (hmi.sc hc hqm (by rw [c.2]; decide)) ?_
      rintro r6 w7 e6 hm8
      have hM8 := hm8.2.1.1
      have y12 := hm8.2.2.2.2
      simp only [l0, l2, hM8.k, hM8.p11, hM8.p12, hM8.a12, hM8.n12, o8, y12, wE_I, wE_V, wE_F, wE_A, wE_N, wE_1, wE_2, wE_D, wE_B, wE_If, wE_C, wE_CV, wE_SL, wE_SA, wA_0, wA_1, wC_B, wC_E, wC_And, wC_Or, wC_Not, wS_Skip, wS_Brk, wS_Cnt, wS_RetV, wS_Ret, wS_Seq, wS_Set, wS_Inc, wS_Do, wS_Put, wS_PutC, wS_Arr, wS_ArrC, wS_If, wS_Sw, wS_F0, wS_F1, wM_q, lu_ap, aL_ap, ct_0, ct_1, ct_2, ct_3, ct_4, ct_5, headD_1, List.mem_cons, List.not_mem_nil, or_false, false_or, or_true, true_or, true_and, and_true, false_and, and_false, not_true_eq_false, not_false_eq_true, if_true, if_false, nr_20, nr_24, nr_40, nr_41, nr_44, pt_lt, pt_ge, pt_eq, pt_ne, pt_gt, pt_le, pt_E, pt_N, pt_F, ite_10, ite_11, ne_eq, and_self, or_self, decide_true, decide_false, Bool.not_true, Bool.not_false, Bool.false_eq_true, Nat.reduceEqDiff, Nat.reduceAdd, Int.reduceEq, Int.reduceLT, Int.reduceLE, Int.reduceNeg, Int.reduceAdd, Int.reduceSub, Int.reduceMul, reduceCtorEq]
      refine wM_mono (hm8.nl hc hqm (lo := leT v T o2.2) (hi := 999999) (by decide)) ?_
      rintro r7 w8 e7 ⟨hm9, hr9⟩
      have hM9 := hm9.2.1.1
      have hma := hm9.cell (a := M + 13) (z := r7) (by omega) hM9.a13 (fun w q => ⟨hRp _ _ _ (Or.inr rfl) q.1, vz _ _ _ _ (by omega) _ q.2⟩)
      simp only [hM9.a13, hM9.n13, o8, wE_I, wE_V, wE_F, wE_A, wE_N, wE_1, wE_2, wE_D, wE_B, wE_If, wE_C, wE_CV, wE_SL, wE_SA, wA_0, wA_1, wC_B, wC_E, wC_And, wC_Or, wC_Not, wS_Skip, wS_Brk, wS_Cnt, wS_RetV, wS_Ret, wS_Seq, wS_Set, wS_Inc, wS_Do, wS_Put, wS_PutC, wS_Arr, wS_ArrC, wS_If, wS_Sw, wS_F0, wS_F1, wM_q, lu_ap, aL_ap, ct_0, ct_1, ct_2, ct_3, ct_4, ct_5, headD_1, List.mem_cons, List.not_mem_nil, or_false, false_or, or_true, true_or, true_and, and_true, false_and, and_false, not_true_eq_false, not_false_eq_true, if_true, if_false, nr_20, nr_24, nr_40, nr_41, nr_44, pt_lt, pt_ge, pt_eq, pt_ne, pt_gt, pt_le, pt_E, pt_N, pt_F, ite_10, ite_11, ne_eq, and_self, or_self, decide_true, decide_false, Bool.not_true, Bool.not_false, Bool.false_eq_true, Nat.reduceEqDiff, Nat.reduceAdd, Int.reduceEq, Int.reduceLT, Int.reduceLE, Int.reduceNeg, Int.reduceAdd, Int.reduceSub, Int.reduceMul, reduceCtorEq]
      exact hma.cg (fun q => ⟨q.1, q.2.1.1, fun z => ⟨q.2.1.2, by rw [q.2.2]; exact hr9 z⟩⟩)
    · rw [if_neg c] at hi4
      have hmm : meM v T (leT v T o2.2) o3 = o3 := by unfold meM; rw [if_neg c]
      rw [hmm]
      simp only [wE_I, wE_V, wE_F, wE_A, wE_N, wE_1, wE_2, wE_D, wE_B, wE_If, wE_C, wE_CV, wE_SL, wE_SA, wA_0, wA_1, wC_B, wC_E, wC_And, wC_Or, wC_Not, wS_Skip, wS_Brk, wS_Cnt, wS_RetV, wS_Ret, wS_Seq, wS_Set, wS_Inc, wS_Do, wS_Put, wS_PutC, wS_Arr, wS_ArrC, wS_If, wS_Sw, wS_F0, wS_F1, wM_q, lu_ap, aL_ap, ct_0, ct_1, ct_2, ct_3, ct_4, ct_5, headD_1, List.mem_cons, List.not_mem_nil, or_false, false_or, or_true, true_or, true_and, and_true, false_and, and_false, not_true_eq_false, not_false_eq_true, if_true, if_false, nr_20, nr_24, nr_40, nr_41, nr_44, pt_lt, pt_ge, pt_eq, pt_ne, pt_gt, pt_le, pt_E, pt_N, pt_F, ite_10, ite_11, ne_eq, and_self, or_self, decide_true, decide_false, Bool.not_true, Bool.not_false, Bool.false_eq_true, Nat.reduceEqDiff, Nat.reduceAdd, Int.reduceEq, Int.reduceLT, Int.reduceLE, Int.reduceNeg, Int.reduceAdd, Int.reduceSub, Int.reduceMul, reduceCtorEq, iA, iS, iM, iD, iR, iN, lA, lS, lM, lD, lR, l0, hM6.k, wM_of hi4]
      exact hm7.cg (fun q => ⟨q.1, q.2.1.1, fun z => ⟨q.2.1.2 z, by rw [q.2.2]; unfold moT; rw [if_neg (fun y => c ⟨z, y⟩)]⟩⟩)
  rintro k z Lb w7 ⟨rfl, rfl, hm8⟩
  rw [if_pos rfl]
  refine hfin w7 ?_
  have hL4 : (meM v T (leT v T o2.2) o3).1 = 0 → o3.1 = 0 := fun z => by
    by_cases c : o3.1 = 0
    · exact c
    · rw [meM_d c] at z; exact z
  rw [hmeB]
  refine hm8.cg (fun q => ⟨q.1, fun z => ?_⟩)
  obtain ⟨⟨y8, yw⟩, y11⟩ := (hRi _).mp q.2.1
  have z2 := hL3 (hL4 z)
  obtain ⟨b1, b2, b3⟩ := hback z2
  obtain ⟨y12, y13⟩ := q.2.2 z
  rw [b1] at yw
  rw [← ho3, b3] at y13
  rw [b3] at y12
  exact ⟨y8, yw rfl, by rw [y11 z2, b2], y12, y13⟩
end MR2
