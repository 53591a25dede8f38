/-! A READING: the class's pass -/
section PA
variable {S : QS} {v w : QV} {b M P B s : Int} {f F : Int → Int} {K D O : Int → Int} {N : Int → Int → Int}
theorem c_hearMs {later nb : Int} {nm : Int → Int} (hSt : LSt S w s) (hPl : LPl S w P) (hPs : P + 16 < s) (hPR : PR v P M B) (hw : Fs s v w) (hl : 1 ≤ later ∧ later ≤ 1000) (hnb : S.1 nb = 20 ∧ S.2.1 nb = 4 ∧ s + 56 ≤ nb) (hnm : ∀ k, 0 ≤ k → k < 4 → v nb k = nm k) (h : HS v w P s f K D N O) {L : QL} (m0 : L 0 = s) (m1 : L 1 = P) (m2 : L 2 = later) (m3 : L 3 = nb) : wS (sSeq (sSet 4 (eI 0)) (sWhile cX8_pass_1 bX8_pass_1 uX8_pass_1)) L S w (fun k _ L' w' => k = 0 ∧ (∀ i, i ≠ 4 → L' i = L i) ∧ Kp S w w' ∧ (∀ m, 0 ≤ m → m < v P 1 → HMm w' (P + (9 + m)) (s + (4 + 6 * m)) (heF v M B later nm f) (3 + 12 * m) (K m)) ∧ ∀ q k, (∀ m, 0 ≤ m → m < 4 → q ≠ s + (4 + 6 * m)) → w' q k = w q k) := by
  obtain ⟨r1, r2, r3, r4, r5, r6, r7⟩ := hPR
  have hn4 : v (M + 3) B ≤ 4 := by omega
  obtain ⟨hnb1, hnb2, hnb3⟩ := hnb
  simp only [wE_I, wE_V, wE_F, wE_A, wE_N, wE_1, wE_2, wE_D, wE_B, wE_If, wE_C, wE_CV, wE_SL, wE_SA, wA_0, wA_1, wC_B, wC_E, wC_And, wC_Or, wC_Not, wS_Skip, wS_Brk, wS_Cnt, wS_RetV, wS_Ret, wS_Seq, wS_Set, wS_Inc, wS_Do, wS_Put, wS_PutC, wS_Arr, wS_ArrC, wS_If, wS_Sw, wS_F0, wS_F1, wM_q, lu_ap, aL_ap, ct_0, ct_1, ct_2, ct_3, ct_4, ct_5, headD_1, List.mem_cons, List.not_mem_nil, or_false, false_or, or_true, true_or, true_and, and_true, false_and, and_false, not_true_eq_false, not_false_eq_true, if_true, if_false, nr_20, nr_24, nr_40, nr_41, nr_44, pt_lt, pt_ge, pt_eq, pt_ne, pt_gt, pt_le, pt_E, pt_N, pt_F, ite_10, ite_11, ne_eq, and_self, or_self, decide_true, decide_false, Bool.not_true, Bool.not_false, Bool.false_eq_true, Nat.reduceEqDiff, Nat.reduceAdd, Int.reduceEq, Int.reduceLT, Int.reduceLE, Int.reduceNeg, Int.reduceAdd, Int.reduceSub, Int.reduceMul, reduceCtorEq, iA, iS, iM, iD, iR, iN, lA, lS, lM, lD, lR]
  refine wS_For (v P 1).toNat (fun j L' w' => ((∀ i, i ≠ 4 → L' i = L i) ∧ L' 4 = j) ∧ Kp S w w' ∧ (∀ m, 0 ≤ m → m < (j : Int) → HMm w' (P + (9 + m)) (s + (4 + 6 * m)) (heF v M B later nm f) (3 + 12 * m) (K m)) ∧ (∀ q k, (∀ m, 0 ≤ m → m < (j : Int) → q ≠ s + (4 + 6 * m)) → w' q k = w q k)) (by omega) ?_ ?_ ?_
  · exact ⟨⟨fun i hi => by simp [lu_ap, hi], by simp [lu_ap]⟩, Kp.rf, fun m q0 q1 => by omega, fun _ _ _ => rfl⟩
  · rintro j L' w' hj ⟨⟨lf, l4⟩, hk, hd, hf⟩
    have hjn : (j : Int) < v P 1 := by omega
    have hj4 : 0 ≤ (j : Int) ∧ (j : Int) < 4 := by omega
    have l0 : L' 0 = s := by rw [lf 0 (by decide)]; exact m0
    have l1 : L' 1 = P := by rw [lf 1 (by decide)]; exact m1
    have l2 : L' 2 = later := by rw [lf 2 (by decide)]; exact m2
    have l3 : L' 3 = nb := by rw [lf 3 (by decide)]; exact m3
    have e1 : w32 ((j : Int) + 1) = j + 1 := w32_e (by omega)
    have hSw := hSt.keep hk
    have hPw := hPl.keep hk
    have wo : ∀ q k, (q < s ∨ s + 56 ≤ q) → w' q k = v q k := fun q k hq => by rw [hf _ _ (fun m _ _ => by clear e1; omega)]; exact hw _ _ hq
    have wP1 : w' P 1 = v P 1 := wo _ _ (by clear e1; omega)
    have wn : w' nb j = nm j := by rw [wo _ _ (by clear e1; omega)]; exact hnm j hj4.1 hj4.2
    have htm := hSt.m j hj4.1 hj4.2
    have htp := hPl.m j hj4.1 hj4.2
    obtain ⟨t4, t3⟩ := heF_at (v := v) (M := M) (B := B) (later := later) (nm := nm) (f := f) (m := (j : Int)) (by clear e1; omega)
    have hmj := (h.2.1 j hj4.1 hjn).cong (w := w') (F := f) (fun k => hf _ _ (fun m _ _ => by clear e1; omega)) (fun k => hf _ _ (fun m _ _ => by clear e1; omega)) (fun _ _ _ => rfl)
    have cg := c_hear (S := S) (w := w') (v := v) (M := M) (B := B) (p := P + (9 + (j : Int))) (x := nm j) (F := heF v M B later nm f) htm htp (by clear e1; omega) (r5 j hj4.1 hjn) (fun k => wo _ _ (by clear e1; omega)) hl hmj t4 t3 (fun i i0 i1 i6 i7 => heF_fr hn4 (by clear e1; omega) (fun m _ _ => by clear e1; omega))
    simp only [cX8_pass_1, bX8_pass_1, uX8_pass_1, wE_I, wE_V, wE_F, wE_A, wE_N, wE_1, wE_2, wE_D, wE_B, wE_If, wE_C, wE_CV, wE_SL, wE_SA, wA_0, wA_1, wC_B, wC_E, wC_And, wC_Or, wC_Not, wS_Skip, wS_Brk, wS_Cnt, wS_RetV, wS_Ret, wS_Seq, wS_Set, wS_Inc, wS_Do, wS_Put, wS_PutC, wS_Arr, wS_ArrC, wS_If, wS_Sw, wS_F0, wS_F1, wM_q, lu_ap, aL_ap, ct_0, ct_1, ct_2, ct_3, ct_4, ct_5, headD_1, List.mem_cons, List.not_mem_nil, or_false, false_or, or_true, true_or, true_and, and_true, false_and, and_false, not_true_eq_false, not_false_eq_true, if_true, if_false, nr_20, nr_24, nr_40, nr_41, nr_44, pt_lt, pt_ge, pt_eq, pt_ne, pt_gt, pt_le, pt_E, pt_N, pt_F, ite_10, ite_11, ne_eq, and_self, or_self, decide_true, decide_false, Bool.not_true, Bool.not_false, Bool.false_eq_true, Nat.reduceEqDiff, Nat.reduceAdd, Int.reduceEq, Int.reduceLT, Int.reduceLE, Int.reduceNeg, Int.reduceAdd, Int.reduceSub, Int.reduceMul, reduceCtorEq, iA, iS, iM, iD, iR, iN, lA, lS, lM, lD, lR, l0, l1, l2, l3, l4, hPw.k, wP1, hjn, hSw.k, hSw.p2, hSw.a1, hSw.n1, hPw.p3, hPw.a1, hPw.n1, hj4, hSw.em j hj4.1 hj4.2, hPw.em j hj4.1 hj4.2, htm, hnb1, hnb2, wn, Nat.le_refl, e1]
    clear e1
    refine wM_mono cg ?_
    rintro r w2 e ⟨c1, c2⟩
    refine ⟨⟨fun i hi => ?_, rfl⟩, hk.tr (Kc.of kX3_hear e).p, fun m q0 q1 => ?_, fun q k hq => ?_⟩
    · simp only [hi, if_false]
      exact lf i hi
    · by_cases c : m = j
      · rw [c]; exact c1
      · exact (hd m q0 (by omega)).cong (fun k => c2 _ _ (by omega)) (fun k => c2 _ _ (by omega)) (fun _ _ _ => rfl)
    · rw [c2 _ _ (hq j hj4.1 (by omega))]
      exact hf q k (fun m q0 q1 => hq m q0 (by omega))
  · rintro L' w' ⟨⟨lf, l4⟩, hk, hd, hf⟩
    have l1 : L' 1 = P := by rw [lf 1 (by decide)]; exact m1
    have l42 : L' 4 = v P 1 := by omega
    have hPw := hPl.keep hk
    have wP1 : w' P 1 = v P 1 := by rw [hf _ _ (fun m _ _ => by omega)]; exact hw _ _ (by omega)
    simp only [cX8_pass_1, wE_I, wE_V, wE_F, wE_A, wE_N, wE_1, wE_2, wE_D, wE_B, wE_If, wE_C, wE_CV, wE_SL, wE_SA, wA_0, wA_1, wC_B, wC_E, wC_And, wC_Or, wC_Not, wS_Skip, wS_Brk, wS_Cnt, wS_RetV, wS_Ret, wS_Seq, wS_Set, wS_Inc, wS_Do, wS_Put, wS_PutC, wS_Arr, wS_ArrC, wS_If, wS_Sw, wS_F0, wS_F1, wM_q, lu_ap, aL_ap, ct_0, ct_1, ct_2, ct_3, ct_4, ct_5, headD_1, List.mem_cons, List.not_mem_nil, or_false, false_or, or_true, true_or, true_and, and_true, false_and, and_false, not_true_eq_false, not_false_eq_true, if_true, if_false, nr_20, nr_24, nr_40, nr_41, nr_44, pt_lt, pt_ge, pt_eq, pt_ne, pt_gt, pt_le, pt_E, pt_N, pt_F, ite_10, ite_11, ne_eq, and_self, or_self, decide_true, decide_false, Bool.not_true, Bool.not_false, Bool.false_eq_true, Nat.reduceEqDiff, Nat.reduceAdd, Int.reduceEq, Int.reduceLT, Int.reduceLE, Int.reduceNeg, Int.reduceAdd, Int.reduceSub, Int.reduceMul, reduceCtorEq, iA, iS, iM, iD, iR, iN, lA, lS, lM, lD, lR, l1, l42, hPw.k, wP1]
    have hlt : ¬ v P 1 < v P 1 := Int.lt_irrefl _
    simp only [hlt]
    simp only [decide_false, Bool.false_eq_true, if_false]
    exact ⟨lf, hk, fun m q0 q1 => hd m q0 (by omega), fun q k hq => hf q k (fun m q0 q1 => hq m q0 (by omega))⟩
theorem HS.he {w' : QV} {later : Int} {nm : Int → Int} (hPR : PR v P M B) (h : HS v w P s f K D N O) (hm : ∀ m, 0 ≤ m → m < v P 1 → HMm w' (P + (9 + m)) (s + (4 + 6 * m)) (heF v M B later nm f) (3 + 12 * m) (K m)) (hf : ∀ q k, (∀ m, 0 ≤ m → m < 4 → q ≠ s + (4 + 6 * m)) → w' q k = w q k) (hPs : P + 16 < s) : HS v (vu w' s 1 (f 2 + 1)) P s (heF v M B later nm f) K D N O := by
  obtain ⟨r1, r2, r3, r4, r5, r6, r7⟩ := hPR
  have hn4 : v (M + 3) B ≤ 4 := by omega
  obtain ⟨h1, h2, h3, h4⟩ := h
  have fr : ∀ k, 50 ≤ k → heF v M B later nm f k = f k := fun k hk => heF_fr hn4 (by omega) (fun m _ _ => by omega)
  refine ⟨⟨?_, by rw [vu_is, heF_2]⟩, fun m m0 m1 => ?_, fun a a0 a1 => ⟨?_, fun m m0 m1 => ?_⟩, fun m m0 m1 m2 => ?_⟩
  · rw [vu_ne (by simp), hf _ _ (fun m _ _ => by omega), heF_fr hn4 (by omega) (fun m _ _ => by omega)]
    exact h1.1
  · exact (hm m m0 m1).cong (fun k => vu_ne (by omega)) (fun k => vu_ne (by omega)) (fun _ _ _ => rfl)
  · exact (h3 a a0 a1).1.cong ⟨a0, by omega⟩ (by omega) (fun k => by rw [vu_ne (by omega), hf _ _ (fun m _ _ => by omega)]) (fr _ (by omega)) (fun k k0 k1 => fr _ (by omega))
  · exact ((h3 a a0 a1).2 m m0 m1).cong (fun k => by rw [vu_ne (by omega), hf _ _ (fun m _ _ => by omega)]) (fun i i0 i1 => fr _ (by omega))
  · exact (h4 m m0 m1 m2).cong (fun a k a0 a1 => by rw [vu_ne (by omega), hf _ _ (fun m' _ _ => by omega)]) (fun i i0 i1 => fr _ (by omega))
end PA
