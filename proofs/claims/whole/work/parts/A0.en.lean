/-! A STEP ENDED: a measure of the class -/
section EN
variable {S : QS} {v w : QV} {b M P B s : Int} {f F : Int → Int} {K D O : Int → Int} {N : Int → Int → Int}
theorem c_endMeas {j : Int} (hSt : LSt S w s) (hPl : LPl S w P) (hPs : P + 16 < s) (hMs : s + 56 ≤ M) (hR : PR v P M B) (hw : Fs s v w) (hj : 0 ≤ j ∧ j < v P 1) (hf1 : 0 ≤ f 1 ∧ f 1 ≤ 100000) (h : HS v w P s f K D N O) (hK : K j = v P 0) (hN : ∀ a, 0 ≤ a → a < v P 2 → N a j ≤ 12) (hO : O j ≤ 100000) {L : QL} (m0 : L 0 = s) (m1 : L 1 = P) (m2 : L 2 = f 1 + 1) (m3 : L 3 = j) : wS bX8_endStep_1 L S w (fun k _ L' w' => k = 0 ∧ (L' 0 = s ∧ L' 1 = P ∧ L' 2 = f 1 + 1 ∧ L' 3 = j) ∧ Kp S w w' ∧ Fs s v w' ∧ HS v w' P s (measF v M B j f) (fun m => if m = j then 0 else K m) D (fun a m => if m = j then N a m + 1 else N a m) (fun m => if m = j then O m + 1 else O m)) := by
  obtain ⟨r1, r2, r3, r4, r5, r6, r7⟩ := hR
  obtain ⟨h1, h2, h3, h4⟩ := h
  have hj4 : 0 ≤ j ∧ j < 4 := by omega
  have hpm := r5 j hj.1 hj.2
  obtain ⟨pm1, pm2, pm3, pm4, pm5⟩ := hpm
  have hPf : ¬ v (M + 18) (4 * B + j) = 0 → PBf v M (4 * B + j) := fun q => by
    rcases pm5 with e | ⟨e0, e1, e2, e3, e4, e5⟩
    · omega
    · exact ⟨by omega, by omega, by omega, by omega, by omega⟩
  have hna : 0 ≤ v (M + 4) B ∧ v (M + 4) B ≤ 4 := by omega
  have wP : ∀ a k, P ≤ a → a ≤ P + 16 → w a k = v a k := fun a k q0 q1 => hw a k (by omega)
  have ht := hSt.m j hj4.1 hj4.2
  have hp := hPl.m j hj4.1 hj4.2
  have hm := h2 j hj.1 hj.2
  have hfi := hm.fi
  rw [hK] at hm hfi
  have hfi2 : FIm f (3 + 12 * j) (v (M + 2) B) := by rw [← r1.1]; exact hfi
  obtain ⟨vt1, vt2⟩ := valF_tv (v := v) (M := M) (B := B) (m := j) (f := f) (by omega) hfi2
  have hval : valF v M B j f = if 2 * (v P 0 - f (3 + 12 * j + 7)) < v P 0 then f (3 + 12 * j + 6) / f (3 + 12 * j + 7) else -2147483648 := by unfold valF; rw [r1.1]
  obtain ⟨⟨g5, g6, g7⟩, g8, g9, -⟩ := measF_m (v := v) (M := M) (B := B) (m := j) (f := f) hj4 hPf hna
  rw [← r1.1] at g8 g9
  have gfr : ∀ k, (k < 3 + 12 * j + 5 ∨ 3 + 12 * j + 11 ≤ k) → (∀ a, 0 ≤ a → a < 4 → k < 55 + 7 * (4 * a + j) ∨ 55 + 7 * (4 * a + j) + 7 ≤ k) → (k < 647 + 112 * j ∨ 647 + 112 * j + 112 ≤ k) → measF v M B j f k = f k := fun k q1 q2 q3 => measF_fr hna hPf q1 q2 q3
  have gg : ∀ a, 0 ≤ a → a < v P 2 → ∀ i, 0 ≤ i → i < 7 → measF v M B j f (55 + 7 * (4 * a + j) + i) = gatherF a j (valF v M B j f) (f (3 + 12 * j + 7)) f (55 + 7 * (4 * a + j) + i) := fun a a0 a1 => measF_g hj4 hPf ⟨a0, by omega⟩ (by omega)
  have gc := fun (q : ¬ v (M + 18) (4 * B + j) = 0) => measF_c (v := v) (M := M) (B := B) (m := j) (f := f) hj4 q (hPf q) hna
  generalize measF v M B j f = G at *
  unfold bX8_endStep_1
  have u6 := hm.2.2.2.2.2.1.1
  refine ws_step (L' := lu L 4 (P + (9 + j))) (w := w) (by simp only [wE_I, wE_V, wE_F, wE_A, wE_N, wE_1, wE_2, wE_D, wE_B, wE_If, wE_C, wE_CV, wE_SL, wE_SA, wA_0, wA_1, wC_B, wC_E, wC_And, wC_Or, wC_Not, wS_Skip, wS_Brk, wS_Cnt, wS_RetV, wS_Ret, wS_Seq, wS_Set, wS_Inc, wS_Do, wS_Put, wS_PutC, wS_Arr, wS_ArrC, wS_If, wS_Sw, wS_F0, wS_F1, wM_q, lu_ap, aL_ap, ct_0, ct_1, ct_2, ct_3, ct_4, ct_5, headD_1, List.mem_cons, List.not_mem_nil, or_false, false_or, or_true, true_or, true_and, and_true, false_and, and_false, not_true_eq_false, not_false_eq_true, if_true, if_false, nr_20, nr_24, nr_40, nr_41, nr_44, pt_lt, pt_ge, pt_eq, pt_ne, pt_gt, pt_le, pt_E, pt_N, pt_F, ite_10, ite_11, ne_eq, and_self, or_self, decide_true, decide_false, Bool.not_true, Bool.not_false, Bool.false_eq_true, Nat.reduceEqDiff, Nat.reduceAdd, Int.reduceEq, Int.reduceLT, Int.reduceLE, Int.reduceNeg, Int.reduceAdd, Int.reduceSub, Int.reduceMul, reduceCtorEq, iA, iS, iM, iD, iR, iN, lA, lS, lM, lD, lR, m0, m1, m3, hPl.k, hPl.p3, hPl.a1, hPl.n1, hj4, hPl.em j hj4.1 hj4.2]) ?_
  refine ws_step (L' := lu (lu L 4 (P + (9 + j))) 5 (s + (4 + 6 * j))) (w := w) (by simp only [wE_I, wE_V, wE_F, wE_A, wE_N, wE_1, wE_2, wE_D, wE_B, wE_If, wE_C, wE_CV, wE_SL, wE_SA, wA_0, wA_1, wC_B, wC_E, wC_And, wC_Or, wC_Not, wS_Skip, wS_Brk, wS_Cnt, wS_RetV, wS_Ret, wS_Seq, wS_Set, wS_Inc, wS_Do, wS_Put, wS_PutC, wS_Arr, wS_ArrC, wS_If, wS_Sw, wS_F0, wS_F1, wM_q, lu_ap, aL_ap, ct_0, ct_1, ct_2, ct_3, ct_4, ct_5, headD_1, List.mem_cons, List.not_mem_nil, or_false, false_or, or_true, true_or, true_and, and_true, false_and, and_false, not_true_eq_false, not_false_eq_true, if_true, if_false, nr_20, nr_24, nr_40, nr_41, nr_44, pt_lt, pt_ge, pt_eq, pt_ne, pt_gt, pt_le, pt_E, pt_N, pt_F, ite_10, ite_11, ne_eq, and_self, or_self, decide_true, decide_false, Bool.not_true, Bool.not_false, Bool.false_eq_true, Nat.reduceEqDiff, Nat.reduceAdd, Int.reduceEq, Int.reduceLT, Int.reduceLE, Int.reduceNeg, Int.reduceAdd, Int.reduceSub, Int.reduceMul, reduceCtorEq, iA, iS, iM, iD, iR, iN, lA, lS, lM, lD, lR, m0, m1, m3, hSt.k, hSt.p2, hSt.a1, hSt.n1, hj4, hSt.em j hj4.1 hj4.2]) ?_
  refine ws_step (L' := lu (lu (lu L 4 (P + (9 + j))) 5 (s + (4 + 6 * j))) 6 (f (3 + 12 * j + 7))) (w := w) (by simp only [wE_I, wE_V, wE_F, wE_A, wE_N, wE_1, wE_2, wE_D, wE_B, wE_If, wE_C, wE_CV, wE_SL, wE_SA, wA_0, wA_1, wC_B, wC_E, wC_And, wC_Or, wC_Not, wS_Skip, wS_Brk, wS_Cnt, wS_RetV, wS_Ret, wS_Seq, wS_Set, wS_Inc, wS_Do, wS_Put, wS_PutC, wS_Arr, wS_ArrC, wS_If, wS_Sw, wS_F0, wS_F1, wM_q, lu_ap, aL_ap, ct_0, ct_1, ct_2, ct_3, ct_4, ct_5, headD_1, List.mem_cons, List.not_mem_nil, or_false, false_or, or_true, true_or, true_and, and_true, false_and, and_false, not_true_eq_false, not_false_eq_true, if_true, if_false, nr_20, nr_24, nr_40, nr_41, nr_44, pt_lt, pt_ge, pt_eq, pt_ne, pt_gt, pt_le, pt_E, pt_N, pt_F, ite_10, ite_11, ne_eq, and_self, or_self, decide_true, decide_false, Bool.not_true, Bool.not_false, Bool.false_eq_true, Nat.reduceEqDiff, Nat.reduceAdd, Int.reduceEq, Int.reduceLT, Int.reduceLE, Int.reduceNeg, Int.reduceAdd, Int.reduceSub, Int.reduceMul, reduceCtorEq, iA, iS, iM, iD, iR, iN, lA, lS, lM, lD, lR, ht, u6]) ?_
  generalize hL6 : lu (lu (lu L 4 (P + (9 + j))) 5 (s + (4 + 6 * j))) 6 (f (3 + 12 * j + 7)) = L6
  have n0 : L6 0 = s := by rw [← hL6]; simp [lu_ap, m0]
  have n1 : L6 1 = P := by rw [← hL6]; simp [lu_ap, m1]
  have n2 : L6 2 = f 1 + 1 := by rw [← hL6]; simp [lu_ap, m2]
  have n3 : L6 3 = j := by rw [← hL6]; simp [lu_ap, m3]
  have n4 : L6 4 = P + (9 + j) := by rw [← hL6]; simp [lu_ap]
  have n5 : L6 5 = s + (4 + 6 * j) := by rw [← hL6]; simp [lu_ap]
  have n6 : L6 6 = f (3 + 12 * j + 7) := by rw [← hL6]; simp [lu_ap]
  clear hL6
  have wP0 : w P 0 = v P 0 := wP P 0 (by omega) (by omega)
  have ce := c_endM (S := S) (v := w) (F := G) ht (show P + (9 + j) ≠ s + (4 + 6 * j) by omega) r1.2 hval hm (fun i i0 i1 => gfr _ (by omega) (fun a _ _ => by omega) (by omega)) ⟨g5, g6, g7⟩ g8 g9
  refine ws_call (fun w1 => Kp S w w1 ∧ (HMm w1 (P + (9 + j)) (s + (4 + 6 * j)) G (3 + 12 * j) 0 ∧ w1 (s + (4 + 6 * j)) 5 = valF v M B j f) ∧ ∀ q k, q ≠ s + (4 + 6 * j) → w1 q k = w q k) ?_ ?_
  · simp only [wE_I, wE_V, wE_F, wE_A, wE_N, wE_1, wE_2, wE_D, wE_B, wE_If, wE_C, wE_CV, wE_SL, wE_SA, wA_0, wA_1, wC_B, wC_E, wC_And, wC_Or, wC_Not, wS_Skip, wS_Brk, wS_Cnt, wS_RetV, wS_Ret, wS_Seq, wS_Set, wS_Inc, wS_Do, wS_Put, wS_PutC, wS_Arr, wS_ArrC, wS_If, wS_Sw, wS_F0, wS_F1, wM_q, lu_ap, aL_ap, ct_0, ct_1, ct_2, ct_3, ct_4, ct_5, headD_1, List.mem_cons, List.not_mem_nil, or_false, false_or, or_true, true_or, true_and, and_true, false_and, and_false, not_true_eq_false, not_false_eq_true, if_true, if_false, nr_20, nr_24, nr_40, nr_41, nr_44, pt_lt, pt_ge, pt_eq, pt_ne, pt_gt, pt_le, pt_E, pt_N, pt_F, ite_10, ite_11, ne_eq, and_self, or_self, decide_true, decide_false, Bool.not_true, Bool.not_false, Bool.false_eq_true, Nat.reduceEqDiff, Nat.reduceAdd, Int.reduceEq, Int.reduceLT, Int.reduceLE, Int.reduceNeg, Int.reduceAdd, Int.reduceSub, Int.reduceMul, reduceCtorEq, iA, iS, iM, iD, iR, iN, lA, lS, lM, lD, lR, n1, n5, ht, hPl.k, wP0]
    refine wM_mono ce ?_
    rintro r w1 e hh
    exact ⟨(Kc.of kX3_endStep e).p, hh⟩
  rintro w1 ⟨hk1, ⟨hm1, hv5⟩, hf1'⟩
  have hS1 := hSt.keep hk1
  have hT1 : ∀ a, 0 ≤ a → a < v P 2 → HTt w1 (s + (28 + 7 * a) + (3 + j)) f (55 + 7 * (4 * a + j)) (N a j) := fun a a0 a1 => ((h3 a a0 a1).2 j hj.1 hj.2).cong (fun k => hf1' _ k (by omega)) (fun _ _ _ => rfl)
  have ca := c_addAll (P := P) (F := G) (x := valF v M B j f) (u := f (3 + 12 * j + 7)) hS1 r3.2 hj4 vt1 (fun q => by have := vt2 q; omega) hPl.k (by omega) (by rw [hf1' _ _ (by omega)]; exact wP P 2 (by omega) (by omega)) hv5 hN hT1 gg n0 n1 n3 n5 n6
  rw [wS_Seq]
  refine wS_mono ca ?_
  rintro k z L7 w2 ⟨rfl, lf, hk2, hT2, hf2⟩
  rw [if_pos rfl]
  have hk12 := hk1.tr hk2
  have hS2 := hSt.keep hk12
  have l0 : L7 0 = s := by rw [lf 0 (by decide)]; exact n0
  have l1 : L7 1 = P := by rw [lf 1 (by decide)]; exact n1
  have l2 : L7 2 = f 1 + 1 := by rw [lf 2 (by decide)]; exact n2
  have l3 : L7 3 = j := by rw [lf 3 (by decide)]; exact n3
  have l4 : L7 4 = P + (9 + j) := by rw [lf 4 (by decide)]; exact n4
  have l5 : L7 5 = s + (4 + 6 * j) := by rw [lf 5 (by decide)]; exact n5
  have w2v : ∀ a k, a < s ∨ s + 56 ≤ a → w2 a k = v a k := fun a k ha => by rw [hf2 _ _ (by omega), hf1' _ _ (by omega)]; exact hw a k ha
  have w25 : w2 (s + (4 + 6 * j)) 5 = valF v M B j f := by rw [hf2 _ _ (by omega)]; exact hv5
  have hm2 : HMm w2 (P + (9 + j)) (s + (4 + 6 * j)) G (3 + 12 * j) 0 := hm1.cong (fun k => hf2 _ _ (by omega)) (fun k => hf2 _ _ (by omega)) (fun _ _ _ => rfl)
  have fin : ∀ w3, (∀ a k, a < s + (5 + 6 * j) ∨ s + (5 + 6 * j) + 4 < a → w3 a k = w2 a k) → (0 < v (P + (9 + j)) 6 → HOo w3 (s + (5 + 6 * j)) G (647 + 112 * j) (O j + 1)) → Fs s v w3 ∧ HS v w3 P s G (fun m => if m = j then 0 else K m) D (fun a m => if m = j then N a m + 1 else N a m) (fun m => if m = j then O m + 1 else O m) := by
    intro w3 hf3 hO3
    have hall : ∀ q k, (q < s + (4 + 6 * j) ∨ s + (5 + 6 * j) + 4 < q) → (q < s + 28 ∨ s + 56 ≤ q ∨ (q - s - 28) % 7 ≠ 3 + j) → w3 q k = w q k := fun q k q1 q2 => by
      rw [hf3 _ _ (by omega), hf2 _ _ q2, hf1' _ _ (by omega)]
    refine ⟨fun a k ha => by rw [hf3 _ _ (by omega)]; exact w2v a k ha, ⟨?_, ?_⟩, fun m q0 q1 => ?_, fun a a0 a1 => ⟨?_, fun m q0 q1 => ?_⟩, fun m q0 q1 q2 => ?_⟩
    · rw [hall _ _ (by omega) (by omega), gfr 0 (by omega) (fun a _ _ => by omega) (by omega)]; exact h1.1
    · rw [hall _ _ (by omega) (by omega), gfr 2 (by omega) (fun a _ _ => by omega) (by omega)]; exact h1.2
    · by_cases c : m = j
      · subst c
        dsimp only
        rw [if_pos rfl]
        exact hm2.cong (fun k => hf3 _ _ (by omega)) (fun k => hf3 _ _ (by omega)) (fun _ _ _ => rfl)
      · simp only [c, if_false]
        exact (h2 m q0 q1).cong (fun k => hall _ _ (by omega) (by omega)) (fun k => hall _ _ (by omega) (by omega)) (fun i i0 i1 => gfr _ (by omega) (fun a _ _ => by omega) (by omega))
    · exact (h3 a a0 a1).1.cong ⟨a0, by omega⟩ (by omega) (fun k => hall _ _ (by omega) (by omega)) (gfr _ (by omega) (fun a _ _ => by omega) (by omega)) (fun k k0 k1 => gfr _ (by omega) (fun a _ _ => by omega) (by omega))
    · by_cases c : m = j
      · subst c
        dsimp only
        rw [if_pos rfl]
        exact (hT2 a a0 a1).cong (fun k => hf3 _ _ (by omega)) (fun _ _ _ => rfl)
      · simp only [c, if_false]
        exact ((h3 a a0 a1).2 m q0 q1).cong (fun k => hall _ _ (by omega) (by omega)) (fun i i0 i1 => gfr _ (by omega) (fun a _ _ => by omega) (by omega))
    · by_cases c : m = j
      · subst c
        dsimp only
        rw [if_pos rfl]
        exact hO3 q2
      · simp only [c, if_false]
        exact (h4 m q0 q1 q2).cong (fun a k a0 a1 => hall _ _ (by omega) (by omega)) (fun i i0 i1 => gfr _ (by omega) (fun a _ _ => by omega) (by omega))
  have wp2 : ∀ k, w2 (P + (9 + j)) k = v (P + (9 + j)) k := fun k => w2v _ k (by omega)
  by_cases c : 0 < v (P + (9 + j)) 6
  · rcases pm5 with e | ⟨e0, e1, e2, e3, e4, e5⟩
    · omega
    · have hc18 : ¬ v (M + 18) (4 * B + j) = 0 := by omega
      have hOo := (h4 j hj.1 hj.2 c).cong (w := w2) (F := f) (fun a k a0 a1 => by rw [hf2 _ _ (by omega), hf1' _ _ (by omega)]) (fun _ _ _ => rfl)
      have hMv : ∀ i k, 19 ≤ i → i ≤ 23 → w2 (M + i) k = v (M + i) k := fun i k i0 i1 => w2v _ _ (by omega)
      have hPf2 : PBf w2 M (4 * B + j) := by
        have := hPf hc18
        unfold PBf at this ⊢
        rw [hMv 19 _ (by decide) (by decide), hMv 20 _ (by decide) (by decide), hMv 21 _ (by decide) (by decide), hMv 22 _ (by decide) (by decide), hMv 23 _ (by decide) (by decide)]
        exact this
      have i1 : w32 (f 1 + 1 - 1) = f 1 := by rw [w32_e (by omega)]; omega
      have hrem := q_rem (S := S) (v := w2) (x := f 1) (y := v (P + (9 + j)) 6) (by omega) c
      have cf := c_follow (S := S) (v := w2) (M := M) (B := B) (f := f) (F := G) (o := s + (5 + 6 * j)) (p := P + (9 + j)) (pl := f 1 % v (P + (9 + j)) 6) (m := j) (x := valF v M B j f) (N := O j) (hS2.o j hj4.1 hj4.2) hp (by omega) (by rw [wp2, wp2, wp2, wp2, hMv 20 _ (by decide) (by decide), hMv 21 _ (by decide) (by decide), hMv 22 _ (by decide) (by decide), hMv 23 _ (by decide) (by decide)]; exact ⟨e2.1, e3.1, e4.1, e5.1⟩) hPf2 (by rw [hMv 19 _ (by decide) (by decide), e1.1]) vt1 hOo hO (fun i i0 i1 => by rw [followF_v hMv]; exact gc hc18 i i0 i1)
      simp only [wE_I, wE_V, wE_F, wE_A, wE_N, wE_1, wE_2, wE_D, wE_B, wE_If, wE_C, wE_CV, wE_SL, wE_SA, wA_0, wA_1, wC_B, wC_E, wC_And, wC_Or, wC_Not, wS_Skip, wS_Brk, wS_Cnt, wS_RetV, wS_Ret, wS_Seq, wS_Set, wS_Inc, wS_Do, wS_Put, wS_PutC, wS_Arr, wS_ArrC, wS_If, wS_Sw, wS_F0, wS_F1, wM_q, lu_ap, aL_ap, ct_0, ct_1, ct_2, ct_3, ct_4, ct_5, headD_1, List.mem_cons, List.not_mem_nil, or_false, false_or, or_true, true_or, true_and, and_true, false_and, and_false, not_true_eq_false, not_false_eq_true, if_true, if_false, nr_20, nr_24, nr_40, nr_41, nr_44, pt_lt, pt_ge, pt_eq, pt_ne, pt_gt, pt_le, pt_E, pt_N, pt_F, ite_10, ite_11, ne_eq, and_self, or_self, decide_true, decide_false, Bool.not_true, Bool.not_false, Bool.false_eq_true, Nat.reduceEqDiff, Nat.reduceAdd, Int.reduceEq, Int.reduceLT, Int.reduceLE, Int.reduceNeg, Int.reduceAdd, Int.reduceSub, Int.reduceMul, reduceCtorEq, iA, iS, iM, iD, iR, iN, lA, lS, lM, lD, lR, l0, l1, l2, l3, l4, l5, hp, wp2, c, hS2.k, hS2.p3, hS2.a2, hS2.n2, hj4, hS2.eo j hj4.1 hj4.2, (hS2.o j hj4.1 hj4.2).k, i1, wM_of hrem, ht, w25]
      clear i1
      refine wM_mono cf ?_
      rintro r w3 e ⟨x1, x2⟩
      have := fin w3 x2 (fun _ => x1)
      exact ⟨hk12.tr (Kc.of kX4_follow e).p, this⟩
  · simp only [wE_I, wE_V, wE_F, wE_A, wE_N, wE_1, wE_2, wE_D, wE_B, wE_If, wE_C, wE_CV, wE_SL, wE_SA, wA_0, wA_1, wC_B, wC_E, wC_And, wC_Or, wC_Not, wS_Skip, wS_Brk, wS_Cnt, wS_RetV, wS_Ret, wS_Seq, wS_Set, wS_Inc, wS_Do, wS_Put, wS_PutC, wS_Arr, wS_ArrC, wS_If, wS_Sw, wS_F0, wS_F1, wM_q, lu_ap, aL_ap, ct_0, ct_1, ct_2, ct_3, ct_4, ct_5, headD_1, List.mem_cons, List.not_mem_nil, or_false, false_or, or_true, true_or, true_and, and_true, false_and, and_false, not_true_eq_false, not_false_eq_true, if_true, if_false, nr_20, nr_24, nr_40, nr_41, nr_44, pt_lt, pt_ge, pt_eq, pt_ne, pt_gt, pt_le, pt_E, pt_N, pt_F, ite_10, ite_11, ne_eq, and_self, or_self, decide_true, decide_false, Bool.not_true, Bool.not_false, Bool.false_eq_true, Nat.reduceEqDiff, Nat.reduceAdd, Int.reduceEq, Int.reduceLT, Int.reduceLE, Int.reduceNeg, Int.reduceAdd, Int.reduceSub, Int.reduceMul, reduceCtorEq, iA, iS, iM, iD, iR, iN, lA, lS, lM, lD, lR, l0, l1, l2, l3, l4, hp, wp2, c]
    have := fin w2 (fun _ _ _ => rfl) (fun q => absurd q c)
    exact ⟨hk12, this⟩
end EN
