/-! A STEP ENDED: the class's measures -/
def HRa (v w : QV) (P s a : Int) (f : Int → Int) (D : Int) : Prop := (f (51 + a) = (if v (P + (13 + a)) 2 < D then v (P + (13 + a)) 2 else D) ∧ f (51 + a) ≤ 30) ∧ ∀ m, 0 ≤ m → m < v P 1 → ∀ i, 0 ≤ i → i < f (51 + a) → w (s + (28 + 7 * a) + 1) ((D - 1 - i) % 30 * 4 + m) = f (167 + 30 * (4 * a + m) + i) ∧ tv (f (167 + 30 * (4 * a + m) + i))
def HS (v w : QV) (P s : Int) (f : Int → Int) (K D : Int → Int) (N : Int → Int → Int) (O : Int → Int) : Prop := (w s 0 = f 0 ∧ w s 1 = f 2) ∧ (∀ m, 0 ≤ m → m < v P 1 → HMm w (P + (9 + m)) (s + (4 + 6 * m)) f (3 + 12 * m) (K m)) ∧ (∀ a, 0 ≤ a → a < v P 2 → HRa v w P s a f (D a) ∧ ∀ m, 0 ≤ m → m < v P 1 → HTt w (s + (28 + 7 * a) + (3 + m)) f (55 + 7 * (4 * a + m)) (N a m)) ∧ (∀ m, 0 ≤ m → m < v P 1 → 0 < v (P + (9 + m)) 6 → HOo w (s + (5 + 6 * m)) f (647 + 112 * m) (O m))
theorem HMm.more {v : QV} {p t g K K' : Int} {f : Int → Int} (h : HMm v p t f g K) (hK : K ≤ K') : HMm v p t f g K' := by
  obtain ⟨q1, q2, q3, q4, q5, q6, q7, q8⟩ := h
  exact ⟨q1, q2, q3, q4, q5, ⟨q6.1, q6.2.1, by omega⟩, q7, q8⟩
theorem HS.conv {v w : QV} {P s : Int} {f : Int → Int} {K D K' D' : Int → Int} {N N' : Int → Int → Int} {O O' : Int → Int} (h : HS v w P s f K D N O) (hK : ∀ m, 0 ≤ m → m < v P 1 → K m ≤ K' m) (hD : ∀ a, 0 ≤ a → a < v P 2 → D' a = D a) (hN : ∀ a m, 0 ≤ a → a < v P 2 → 0 ≤ m → m < v P 1 → N' a m = N a m) (hO : ∀ m, 0 ≤ m → m < v P 1 → O m ≤ O' m) : HS v w P s f K' D' N' O' := by
  obtain ⟨h1, h2, h3, h4⟩ := h
  refine ⟨h1, fun m m0 m1 => (h2 m m0 m1).more (hK m m0 m1), fun a a0 a1 => ⟨?_, fun m m0 m1 => ?_⟩, fun m m0 m1 m2 => (h4 m m0 m1 m2).more (hO m m0 m1)⟩
  · rw [hD a a0 a1]; exact (h3 a a0 a1).1
  · rw [hN a m a0 a1 m0 m1]; exact (h3 a a0 a1).2 m m0 m1
theorem HRa.cong {v w w' : QV} {P s a D : Int} {f F : Int → Int} (h : HRa v w P s a f D) (ha : 0 ≤ a ∧ a < 4) (hn : v P 1 ≤ 4) (hw : ∀ k, w' (s + (28 + 7 * a) + 1) k = w (s + (28 + 7 * a) + 1) k) (h1 : F (51 + a) = f (51 + a)) (h2 : ∀ k, 167 + 120 * a ≤ k → k < 167 + 120 * a + 120 → F k = f k) : HRa v w' P s a F D := by
  obtain ⟨q1, q2⟩ := h
  refine ⟨by rw [h1]; exact q1, fun m m0 m1 i i0 i1 => ?_⟩
  rw [h1] at i1
  rw [hw, h2 _ (by omega) (by omega)]
  exact q2 m m0 m1 i i0 i1
def Fs (s : Int) (v w : QV) : Prop := ∀ a k, a < s ∨ s + 56 ≤ a → w a k = v a k
theorem followF_v {v w : QV} {M B m x : Int} {f : Int → Int} (h : ∀ i k, 19 ≤ i → i ≤ 23 → w (M + i) k = v (M + i) k) : followF w M B m x f = followF v M B m x f := by
  unfold followF
  rw [h 19 _ (by decide) (by decide), h 20 _ (by decide) (by decide), h 21 _ (by decide) (by decide), h 22 _ (by decide) (by decide), h 23 _ (by decide) (by decide)]
theorem ws_call {e : QE} {t : QT} {L : QL} {S : QS} {v : QV} {Q : Nat → Int → QL → QV → Prop} (R : QV → Prop) (h1 : wE e L S v (fun _ w => R w)) (h2 : ∀ w, R w → wS t L S w Q) : wS (sSeq (sDo e) t) L S v Q := by
  rw [wS_Seq, wS_Do]
  refine wE_mono h1 (fun z w hr => ?_)
  rw [if_pos rfl]
  exact h2 w hr
section EM
variable {S : QS} {v w : QV} {b M P B s : Int} {f F : Int → Int} {K D O : Int → Int} {N : Int → Int → Int}
theorem c_addAll {j x u : Int} (hSt : LSt S w s) (hP2 : 0 ≤ v P 2 ∧ v P 2 ≤ 4) (hj : 0 ≤ j ∧ j < 4) (hx : tv x) (hu : ¬ x = -2147483648 → 1 ≤ u ∧ u ≤ 60) (hp : S.1 P = 7) (hPs : P < s) (hwP : w P 2 = v P 2) (h5 : w (s + (4 + 6 * j)) 5 = x) (hN : ∀ a, 0 ≤ a → a < v P 2 → N a j ≤ 12) (h : ∀ a, 0 ≤ a → a < v P 2 → HTt w (s + (28 + 7 * a) + (3 + j)) f (55 + 7 * (4 * a + j)) (N a j)) (hF : ∀ a, 0 ≤ a → a < v P 2 → ∀ i, 0 ≤ i → i < 7 → F (55 + 7 * (4 * a + j) + i) = gatherF a j x u f (55 + 7 * (4 * a + j) + i)) {L : QL} (m0 : L 0 = s) (m1 : L 1 = P) (m3 : L 3 = j) (m5 : L 5 = s + (4 + 6 * j)) (m6 : L 6 = u) : wS (sSeq (sSet 7 (eI 0)) (sWhile cX8_endStep_2 bX8_endStep_2 uX8_endStep_2)) L S w (fun k _ L' w' => k = 0 ∧ (∀ i, i ≠ 7 → L' i = L i) ∧ Kp S w w' ∧ (∀ a, 0 ≤ a → a < v P 2 → HTt w' (s + (28 + 7 * a) + (3 + j)) F (55 + 7 * (4 * a + j)) (N a j + 1)) ∧ ∀ q k, (q < s + 28 ∨ s + 56 ≤ q ∨ (q - s - 28) % 7 ≠ 3 + j) → w' q k = w q k) := by
  simp only [wE_I, wE_V, wE_F, wE_A, wE_N, wE_1, wE_2, wE_D, wE_B, wE_If, wE_C, wE_CV, wE_SL, wE_SA, wA_0, wA_1, wC_B, wC_E, wC_And, wC_Or, wC_Not, wS_Skip, wS_Brk, wS_Cnt, wS_RetV, wS_Ret, wS_Seq, wS_Set, wS_Inc, wS_Do, wS_Put, wS_PutC, wS_Arr, wS_ArrC, wS_If, wS_Sw, wS_F0, wS_F1, wM_q, lu_ap, aL_ap, ct_0, ct_1, ct_2, ct_3, ct_4, ct_5, headD_1, List.mem_cons, List.not_mem_nil, or_false, false_or, or_true, true_or, true_and, and_true, false_and, and_false, not_true_eq_false, not_false_eq_true, if_true, if_false, nr_20, nr_24, nr_40, nr_41, nr_44, pt_lt, pt_ge, pt_eq, pt_ne, pt_gt, pt_le, pt_E, pt_N, pt_F, ite_10, ite_11, ne_eq, and_self, or_self, decide_true, decide_false, Bool.not_true, Bool.not_false, Bool.false_eq_true, Nat.reduceEqDiff, Nat.reduceAdd, Int.reduceEq, Int.reduceLT, Int.reduceLE, Int.reduceNeg, Int.reduceAdd, Int.reduceSub, Int.reduceMul, reduceCtorEq, iA, iS, iM, iD, iR, iN, lA, lS, lM, lD, lR]
  refine wS_For (v P 2).toNat (fun i L' w' => ((∀ i, i ≠ 7 → L' i = L i) ∧ L' 7 = i) ∧ Kp S w w' ∧ (∀ a, 0 ≤ a → a < (i : Int) → HTt w' (s + (28 + 7 * a) + (3 + j)) F (55 + 7 * (4 * a + j)) (N a j + 1)) ∧ (∀ a, (i : Int) ≤ a → a < 4 → ∀ k, w' (s + (28 + 7 * a) + (3 + j)) k = w (s + (28 + 7 * a) + (3 + j)) k) ∧ ∀ q k, (q < s + 28 ∨ s + 56 ≤ q ∨ (q - s - 28) % 7 ≠ 3 + j) → w' q k = w q k) (by omega) ?_ ?_ ?_
  · exact ⟨⟨fun i hi => by simp [lu_ap, hi], by simp [lu_ap]⟩, Kp.rf, fun a a0 a1 => by omega, fun _ _ _ _ => rfl, fun _ _ _ => rfl⟩
  · rintro i L' w' hi ⟨⟨lf, l7⟩, hk, hd, ho, hf⟩
    have hi2 : (i : Int) < v P 2 := by omega
    have hi4 : 0 ≤ (i : Int) ∧ (i : Int) < 4 := by omega
    have hSw := hSt.keep hk
    have hRw := hSw.r i hi4.1 hi4.2
    have ht := hRw.t j hj.1 hj.2
    have e1 : w32 ((i : Int) + 1) = i + 1 := w32_e (by omega)
    have wP : w' P 2 = v P 2 := by rw [hf _ _ (by clear e1; omega)]; exact hwP
    have w5 : w' (s + (4 + 6 * j)) 5 = x := by rw [hf _ _ (by clear e1; omega)]; exact h5
    have l0 : L' 0 = s := by rw [lf 0 (by decide)]; exact m0
    have l1 : L' 1 = P := by rw [lf 1 (by decide)]; exact m1
    have l3 : L' 3 = j := by rw [lf 3 (by decide)]; exact m3
    have l5 : L' 5 = s + (4 + 6 * j) := by rw [lf 5 (by decide)]; exact m5
    have l6 : L' 6 = u := by rw [lf 6 (by decide)]; exact m6
    have hti := (h i hi4.1 hi2).cong (w := w') (F := f) (fun k => ho i (Int.le_refl _) hi4.2 k) (fun _ _ _ => rfl)
    have ca := c_add (S := S) (v := w') ht hx hu (hN i hi4.1 hi2) hti (hF i hi4.1 hi2)
    have htm := hSt.m j hj.1 hj.2
    have i4 : S.1 (s + (4 + 6 * j)) = 4 := htm
    simp only [cX8_endStep_2, bX8_endStep_2, uX8_endStep_2, wE_I, wE_V, wE_F, wE_A, wE_N, wE_1, wE_2, wE_D, wE_B, wE_If, wE_C, wE_CV, wE_SL, wE_SA, wA_0, wA_1, wC_B, wC_E, wC_And, wC_Or, wC_Not, wS_Skip, wS_Brk, wS_Cnt, wS_RetV, wS_Ret, wS_Seq, wS_Set, wS_Inc, wS_Do, wS_Put, wS_PutC, wS_Arr, wS_ArrC, wS_If, wS_Sw, wS_F0, wS_F1, wM_q, lu_ap, aL_ap, ct_0, ct_1, ct_2, ct_3, ct_4, ct_5, headD_1, List.mem_cons, List.not_mem_nil, or_false, false_or, or_true, true_or, true_and, and_true, false_and, and_false, not_true_eq_false, not_false_eq_true, if_true, if_false, nr_20, nr_24, nr_40, nr_41, nr_44, pt_lt, pt_ge, pt_eq, pt_ne, pt_gt, pt_le, pt_E, pt_N, pt_F, ite_10, ite_11, ne_eq, and_self, or_self, decide_true, decide_false, Bool.not_true, Bool.not_false, Bool.false_eq_true, Nat.reduceEqDiff, Nat.reduceAdd, Int.reduceEq, Int.reduceLT, Int.reduceLE, Int.reduceNeg, Int.reduceAdd, Int.reduceSub, Int.reduceMul, reduceCtorEq, iA, iS, iM, iD, iR, iN, lA, lS, lM, lD, lR, l0, l1, l3, l5, l6, l7, hp, wP, hi2, hi4, hj, hSw.k, hSw.p4, hSw.a3, hSw.n3, hSw.er i hi4.1 hi4.2, hRw.k, hRw.p1, hRw.a2, hRw.n2, hRw.e j hj.1 hj.2, i4, w5, ht, e1]
    clear e1
    refine wM_mono ca ?_
    rintro r w2 e ⟨c1, c2⟩
    refine ⟨?_, hk.tr (Kc.of kX9_add e).p, fun a a0 a1 => ?_, fun a a0 a1 k => ?_, fun q k hq => ?_⟩
    · refine ⟨fun q hq => ?_, rfl⟩
      simp only [hq, if_false]
      exact lf q hq
    · by_cases c : a = i
      · rw [c]; exact c1
      · exact (hd a a0 (by omega)).cong (fun k => c2 _ k (by omega)) (fun _ _ _ => rfl)
    · rw [c2 _ k (by omega)]
      exact ho a (by omega) a1 k
    · rw [c2 _ k (by omega)]
      exact hf q k hq
  · rintro L' w' ⟨⟨lf, l7⟩, hk, hd, ho, hf⟩
    have l1 : L' 1 = P := by rw [lf 1 (by decide)]; exact m1
    have l72 : L' 7 = v P 2 := by omega
    have wP : w' P 2 = v P 2 := by rw [hf _ _ (by omega)]; exact hwP
    simp only [cX8_endStep_2, wE_I, wE_V, wE_F, wE_A, wE_N, wE_1, wE_2, wE_D, wE_B, wE_If, wE_C, wE_CV, wE_SL, wE_SA, wA_0, wA_1, wC_B, wC_E, wC_And, wC_Or, wC_Not, wS_Skip, wS_Brk, wS_Cnt, wS_RetV, wS_Ret, wS_Seq, wS_Set, wS_Inc, wS_Do, wS_Put, wS_PutC, wS_Arr, wS_ArrC, wS_If, wS_Sw, wS_F0, wS_F1, wM_q, lu_ap, aL_ap, ct_0, ct_1, ct_2, ct_3, ct_4, ct_5, headD_1, List.mem_cons, List.not_mem_nil, or_false, false_or, or_true, true_or, true_and, and_true, false_and, and_false, not_true_eq_false, not_false_eq_true, if_true, if_false, nr_20, nr_24, nr_40, nr_41, nr_44, pt_lt, pt_ge, pt_eq, pt_ne, pt_gt, pt_le, pt_E, pt_N, pt_F, ite_10, ite_11, ne_eq, and_self, or_self, decide_true, decide_false, Bool.not_true, Bool.not_false, Bool.false_eq_true, Nat.reduceEqDiff, Nat.reduceAdd, Int.reduceEq, Int.reduceLT, Int.reduceLE, Int.reduceNeg, Int.reduceAdd, Int.reduceSub, Int.reduceMul, reduceCtorEq, iA, iS, iM, iD, iR, iN, lA, lS, lM, lD, lR, l1, l72, hp, wP]
    exact ⟨Int.lt_irrefl _, lf, hk, fun a a0 a1 => hd a a0 (by omega), hf⟩
end EM
