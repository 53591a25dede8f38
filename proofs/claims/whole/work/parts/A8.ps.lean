/-! A READING: the class's whole -/
def HST (v w : QV) (P s : Int) (f : Int → Int) : Prop := HS v w P s f (fun _ => f 0 % v P 0) (fun a => f 1 / v (P + (13 + a)) 1) (fun a _ => f 1 % v (P + (13 + a)) 1) (fun _ => f 1)
section PS
variable {S : QS} {v w : QV} {b M P B s : Int} {f F : Int → Int} {K D O : Int → Int} {N : Int → Int → Int}
theorem HS.tk {w' : QV} {u : Nat} (hPR : PR v P M B) (h : HS v w P s f K D N O) (hm : ∀ m, 0 ≤ m → m < v P 1 → HMm w' (P + (9 + m)) (s + (4 + 6 * m)) (itF (fun _ => tkF v M B) u f) (3 + 12 * m) (K m + u)) (hf : ∀ q k, (∀ m, 0 ≤ m → m < 4 → q ≠ s + (4 + 6 * m)) → w' q k = w q k) (hPs : P + 16 < s) : HS v (vu w' s 0 (f 0 + u)) P s (itF (fun _ => tkF v M B) u f) (fun m => K m + u) D N O := by
  obtain ⟨r1, r2, r3, r4, r5, r6, r7⟩ := hPR
  have hn4 : v (M + 3) B ≤ 4 := by omega
  obtain ⟨h1, h2, h3, h4⟩ := h
  have fr : ∀ k, 50 ≤ k → itF (fun _ => tkF v M B) u f k = f k := fun k hk => tkN_fr (by omega) (fun m _ _ => by omega) hn4 u
  refine ⟨⟨by rw [vu_is, tkN_0], ?_⟩, fun m m0 m1 => ?_, fun a a0 a1 => ⟨?_, fun m m0 m1 => ?_⟩, fun m m0 m1 m2 => ?_⟩
  · rw [vu_ne (by simp), hf _ _ (fun m _ _ => by omega), tkN_fr (by omega) (fun m _ _ => by omega) hn4 u]
    exact h1.2
  · exact (hm m m0 m1).cong (fun k => vu_ne (by omega)) (fun k => vu_ne (by omega)) (fun _ _ _ => rfl)
  · exact (h3 a a0 a1).1.cong ⟨a0, by omega⟩ (by omega) (fun k => by rw [vu_ne (by omega), hf _ _ (fun m _ _ => by omega)]) (fr _ (by omega)) (fun k k0 k1 => fr _ (by omega))
  · exact ((h3 a a0 a1).2 m m0 m1).cong (fun k => by rw [vu_ne (by omega), hf _ _ (fun m _ _ => by omega)]) (fun i i0 i1 => fr _ (by omega))
  · exact (h4 m m0 m1 m2).cong (fun a k a0 a1 => by rw [vu_ne (by omega), hf _ _ (fun m' _ _ => by omega)]) (fun i i0 i1 => fr _ (by omega))
theorem c_gatherMs {u : Nat} (hSt : LSt S w s) (hPl : LPl S w P) (hPs : P + 16 < s) (hPR : PR v P M B) (hw : Fs s v w) (hu : u ≤ 60) (hK : ∀ m, 0 ≤ m → m < v P 1 → K m ≤ 60) (h : HS v w P s f K D N O) {L : QL} (m0 : L 0 = s) (m1 : L 1 = P) (m7 : L 7 = u) : wS (sSeq (sSet 8 (eI 0)) (sWhile cX8_pass_3 bX8_pass_3 uX8_pass_3)) L S w (fun k _ L' w' => k = 0 ∧ (∀ i, i ≠ 8 → L' i = L i) ∧ Kp S w w' ∧ (∀ m, 0 ≤ m → m < v P 1 → HMm w' (P + (9 + m)) (s + (4 + 6 * m)) (itF (fun _ => tkF v M B) u f) (3 + 12 * m) (K m + u)) ∧ ∀ q k, (∀ m, 0 ≤ m → m < 4 → q ≠ s + (4 + 6 * m)) → w' q k = w q k) := by
  obtain ⟨r1, r2, r3, r4, r5, r6, r7⟩ := hPR
  have hn4 : v (M + 3) B ≤ 4 := by omega
  simp only [wE_I, wE_V, wE_F, wE_A, wE_N, wE_1, wE_2, wE_D, wE_B, wE_If, wE_C, wE_CV, wE_SL, wE_SA, wA_0, wA_1, wC_B, wC_E, wC_And, wC_Or, wC_Not, wS_Skip, wS_Brk, wS_Cnt, wS_RetV, wS_Ret, wS_Seq, wS_Set, wS_Inc, wS_Do, wS_Put, wS_PutC, wS_Arr, wS_ArrC, wS_If, wS_Sw, wS_F0, wS_F1, wM_q, lu_ap, aL_ap, ct_0, ct_1, ct_2, ct_3, ct_4, ct_5, headD_1, List.mem_cons, List.not_mem_nil, or_false, false_or, or_true, true_or, true_and, and_true, false_and, and_false, not_true_eq_false, not_false_eq_true, if_true, if_false, nr_20, nr_24, nr_40, nr_41, nr_44, pt_lt, pt_ge, pt_eq, pt_ne, pt_gt, pt_le, pt_E, pt_N, pt_F, ite_10, ite_11, ne_eq, and_self, or_self, decide_true, decide_false, Bool.not_true, Bool.not_false, Bool.false_eq_true, Nat.reduceEqDiff, Nat.reduceAdd, Int.reduceEq, Int.reduceLT, Int.reduceLE, Int.reduceNeg, Int.reduceAdd, Int.reduceSub, Int.reduceMul, reduceCtorEq, iA, iS, iM, iD, iR, iN, lA, lS, lM, lD, lR]
  refine wS_For (v P 1).toNat (fun j L' w' => ((∀ i, i ≠ 8 → L' i = L i) ∧ L' 8 = j) ∧ Kp S w w' ∧ (∀ m, 0 ≤ m → m < (j : Int) → HMm w' (P + (9 + m)) (s + (4 + 6 * m)) (itF (fun _ => tkF v M B) u f) (3 + 12 * m) (K m + u)) ∧ (∀ q k, (∀ m, 0 ≤ m → m < (j : Int) → q ≠ s + (4 + 6 * m)) → w' q k = w q k)) (by omega) ?_ ?_ ?_
  · exact ⟨⟨fun i hi => by simp [lu_ap, hi], by simp [lu_ap]⟩, Kp.rf, fun m q0 q1 => by omega, fun _ _ _ => rfl⟩
  · rintro j L' w' hj ⟨⟨lf, l8⟩, hk, hd, hf⟩
    have hjn : (j : Int) < v P 1 := by omega
    have hj4 : 0 ≤ (j : Int) ∧ (j : Int) < 4 := by omega
    have l0 : L' 0 = s := by rw [lf 0 (by decide)]; exact m0
    have l1 : L' 1 = P := by rw [lf 1 (by decide)]; exact m1
    have l7 : L' 7 = u := by rw [lf 7 (by decide)]; exact m7
    have e1 : w32 ((j : Int) + 1) = j + 1 := w32_e (by omega)
    have hSw := hSt.keep hk
    have hPw := hPl.keep hk
    have wP1 : w' P 1 = v P 1 := by rw [hf _ _ (fun m _ _ => by clear e1; omega)]; exact hw _ _ (by clear e1; omega)
    have htm := hSt.m j hj4.1 hj4.2
    obtain ⟨t6, t7⟩ := tkN_at (v := v) (M := M) (B := B) (f := f) (m := (j : Int)) (by clear e1; omega) hn4 u
    have hmj := (h.2.1 j hj4.1 hjn).cong (w := w') (F := f) (fun k => hf _ _ (fun m _ _ => by clear e1; omega)) (fun k => hf _ _ (fun m _ _ => by clear e1; omega)) (fun _ _ _ => rfl)
    have cg := c_gather (S := S) (w := w') (p := P + (9 + (j : Int))) (u := (u : Int)) (F := itF (fun _ => tkF v M B) u f) htm (by clear e1; omega) (by clear e1; omega) (hK j hj4.1 hjn) hmj t6 t7 (fun i i0 i1 i6 i7 => tkN_fr (by clear e1; omega) (fun m _ _ => by clear e1; omega) hn4 u)
    simp only [cX8_pass_3, bX8_pass_3, uX8_pass_3, wE_I, wE_V, wE_F, wE_A, wE_N, wE_1, wE_2, wE_D, wE_B, wE_If, wE_C, wE_CV, wE_SL, wE_SA, wA_0, wA_1, wC_B, wC_E, wC_And, wC_Or, wC_Not, wS_Skip, wS_Brk, wS_Cnt, wS_RetV, wS_Ret, wS_Seq, wS_Set, wS_Inc, wS_Do, wS_Put, wS_PutC, wS_Arr, wS_ArrC, wS_If, wS_Sw, wS_F0, wS_F1, wM_q, lu_ap, aL_ap, ct_0, ct_1, ct_2, ct_3, ct_4, ct_5, headD_1, List.mem_cons, List.not_mem_nil, or_false, false_or, or_true, true_or, true_and, and_true, false_and, and_false, not_true_eq_false, not_false_eq_true, if_true, if_false, nr_20, nr_24, nr_40, nr_41, nr_44, pt_lt, pt_ge, pt_eq, pt_ne, pt_gt, pt_le, pt_E, pt_N, pt_F, ite_10, ite_11, ne_eq, and_self, or_self, decide_true, decide_false, Bool.not_true, Bool.not_false, Bool.false_eq_true, Nat.reduceEqDiff, Nat.reduceAdd, Int.reduceEq, Int.reduceLT, Int.reduceLE, Int.reduceNeg, Int.reduceAdd, Int.reduceSub, Int.reduceMul, reduceCtorEq, iA, iS, iM, iD, iR, iN, lA, lS, lM, lD, lR, l0, l1, l7, l8, hPw.k, wP1, hjn, hSw.k, hSw.p2, hSw.a1, hSw.n1, hj4, hSw.em j hj4.1 hj4.2, htm, e1]
    clear e1
    refine wM_mono cg ?_
    rintro r w2 e ⟨c1, c2⟩
    refine ⟨⟨fun i hi => ?_, rfl⟩, hk.tr (Kc.of kX3_gather e).p, fun m q0 q1 => ?_, fun q k hq => ?_⟩
    · simp only [hi, if_false]
      exact lf i hi
    · by_cases c : m = j
      · rw [c]; exact c1
      · exact (hd m q0 (by omega)).cong (fun k => c2 _ _ (by omega)) (fun k => c2 _ _ (by omega)) (fun _ _ _ => rfl)
    · rw [c2 _ _ (hq j hj4.1 (by omega))]
      exact hf q k (fun m q0 q1 => hq m q0 (by omega))
  · rintro L' w' ⟨⟨lf, l8⟩, hk, hd, hf⟩
    have l1 : L' 1 = P := by rw [lf 1 (by decide)]; exact m1
    have l82 : L' 8 = v P 1 := by omega
    have hPw := hPl.keep hk
    have wP1 : w' P 1 = v P 1 := by rw [hf _ _ (fun m _ _ => by omega)]; exact hw _ _ (by omega)
    simp only [cX8_pass_3, wE_I, wE_V, wE_F, wE_A, wE_N, wE_1, wE_2, wE_D, wE_B, wE_If, wE_C, wE_CV, wE_SL, wE_SA, wA_0, wA_1, wC_B, wC_E, wC_And, wC_Or, wC_Not, wS_Skip, wS_Brk, wS_Cnt, wS_RetV, wS_Ret, wS_Seq, wS_Set, wS_Inc, wS_Do, wS_Put, wS_PutC, wS_Arr, wS_ArrC, wS_If, wS_Sw, wS_F0, wS_F1, wM_q, lu_ap, aL_ap, ct_0, ct_1, ct_2, ct_3, ct_4, ct_5, headD_1, List.mem_cons, List.not_mem_nil, or_false, false_or, or_true, true_or, true_and, and_true, false_and, and_false, not_true_eq_false, not_false_eq_true, if_true, if_false, nr_20, nr_24, nr_40, nr_41, nr_44, pt_lt, pt_ge, pt_eq, pt_ne, pt_gt, pt_le, pt_E, pt_N, pt_F, ite_10, ite_11, ne_eq, and_self, or_self, decide_true, decide_false, Bool.not_true, Bool.not_false, Bool.false_eq_true, Nat.reduceEqDiff, Nat.reduceAdd, Int.reduceEq, Int.reduceLT, Int.reduceLE, Int.reduceNeg, Int.reduceAdd, Int.reduceSub, Int.reduceMul, reduceCtorEq, iA, iS, iM, iD, iR, iN, lA, lS, lM, lD, lR, l1, l82, hPw.k, wP1]
    exact ⟨Int.lt_irrefl _, lf, hk, fun m q0 q1 => hd m q0 (by omega), fun q k hq => hf q k (fun m q0 q1 => hq m q0 (by omega))⟩
end PS
