/-! A READING: the class's pass, chunk by chunk -/
section PC
variable {S : QS} {v w : QV} {b M P B s : Int} {f F : Int → Int} {K D O : Int → Int} {N : Int → Int → Int}
/-- one turn of the loop: from d units on -/
theorem c_chunk {x u : Int} (hSt : LSt S w s) (hPl : LPl S w P) (hPs : P + 16 < s) (hMs : s + 56 ≤ M) (hPR : PR v P M B) (hw : Fs s v w) (hx0 : f 0 = x) (hx : 0 ≤ x ∧ x < 100000) (h1 : f 1 = x / v P 0) (h : HST v w P s f) {later rest i stps : Int} (hr : 0 < rest ∧ rest ≤ 1000) (hu : u = if rest < v P 0 - x % v P 0 then rest else v P 0 - x % v P 0) (hst : 0 ≤ stps ∧ stps ≤ 1000000) {L : QL} (m0 : L 0 = s) (m1 : L 1 = P) (m2 : L 2 = later) (m4 : L 4 = stps) (m5 : L 5 = rest) (m6 : L 6 = i) : wS bX8_pass_2 L S w (fun k _ L' w' => k = 0 ∧ (L' 0 = s ∧ L' 1 = P ∧ L' 2 = later ∧ L' 4 = stps + ((x + u) / v P 0 - x / v P 0) ∧ L' 5 = rest - u ∧ L' 6 = i) ∧ Kp S w w' ∧ Fs s v w' ∧ HST v w' P s (itF (fun _ => stF v M B) u.toNat f)) := by
  obtain ⟨r1, r2, r3, r4, r5, r6, r7⟩ := id hPR
  have hn4 : v (M + 3) B ≤ 4 := by omega
  have hs : 0 < v P 0 := by omega
  have hx1 := Int.emod_nonneg x (show v P 0 ≠ 0 by omega)
  have hx2 := Int.emod_lt_of_pos x hs
  have hu1 : 1 ≤ u ∧ u ≤ rest ∧ x % v P 0 + u ≤ v P 0 := by rw [hu]; split <;> omega
  have hq0 := Int.ediv_nonneg hx.1 (Int.le_of_lt hs)
  have hq1 : x / v P 0 ≤ x := Int.ediv_le_self _ hx.1
  have hck := stN_ck (v := v) (M := M) (B := B) (f := f) (u := u) (by rw [← r1.1]; exact hs) (by rw [hx0, ← r1.1]; omega)
  rw [hx0, ← r1.1] at hck
  rw [hck]
  obtain ⟨n, hn⟩ : ∃ n : Nat, u = n := ⟨u.toNat, by omega⟩
  have hnn : u.toNat = n := by omega
  rw [hnn]
  have wo : ∀ q k, (q < s ∨ s + 56 ≤ q) → w q k = v q k := hw
  have w0 : w s 0 = x := by rw [h.1.1]; exact hx0
  have hmul := Int.mul_ediv_add_emod x (v P 0)
  have hdv : (x + u) / v P 0 = if x % v P 0 + u = v P 0 then x / v P 0 + 1 else x / v P 0 := by
    by_cases c : x % v P 0 + u = v P 0
    · rw [if_pos c]
      have e : x + u = v P 0 * (x / v P 0 + 1) := by rw [Int.mul_add, Int.mul_one]; omega
      rw [e, Int.mul_ediv_cancel_left _ (by omega)]
    · rw [if_neg c]
      have e : x + u = (x % v P 0 + u) + v P 0 * (x / v P 0) := by omega
      rw [e, Int.add_mul_ediv_left _ _ (by omega), Int.ediv_eq_zero_of_lt (by omega) (by omega)]
      omega
  have hmd : (x + u) % v P 0 = if x % v P 0 + u = v P 0 then 0 else x % v P 0 + u := by
    by_cases c : x % v P 0 + u = v P 0
    · rw [if_pos c]
      have e : x + u = v P 0 * (x / v P 0 + 1) := by rw [Int.mul_add, Int.mul_one]; omega
      rw [e, Int.mul_emod_right]
    · rw [if_neg c]
      have e : x + u = (x % v P 0 + u) + v P 0 * (x / v P 0) := by omega
      rw [e, Int.add_mul_emod_self_left]
      exact Int.emod_eq_of_lt (by omega) (by omega)
  have wP : ∀ a k, P ≤ a → a ≤ P + 16 → w a k = v a k := fun a k q0 q1 => hw a k (by omega)
  have hrem := q_rem (S := S) (v := w) (x := x) (y := v P 0) (by omega) hs
  have i1 : w32 (v P 0 - x % v P 0) = v P 0 - x % v P 0 := w32_e (by omega)
  have i2 : iMin rest (v P 0 - x % v P 0) = u := by clear i1; unfold iMin; rw [hu]; split <;> split <;> omega
  unfold bX8_pass_2
  refine ws_step (L' := lu L 7 u) (w := w) (by simp only [wE_I, wE_V, wE_F, wE_A, wE_N, wE_1, wE_2, wE_D, wE_B, wE_If, wE_C, wE_CV, wE_SL, wE_SA, wA_0, wA_1, wC_B, wC_E, wC_And, wC_Or, wC_Not, wS_Skip, wS_Brk, wS_Cnt, wS_RetV, wS_Ret, wS_Seq, wS_Set, wS_Inc, wS_Do, wS_Put, wS_PutC, wS_Arr, wS_ArrC, wS_If, wS_Sw, wS_F0, wS_F1, wM_q, lu_ap, aL_ap, ct_0, ct_1, ct_2, ct_3, ct_4, ct_5, headD_1, List.mem_cons, List.not_mem_nil, or_false, false_or, or_true, true_or, true_and, and_true, false_and, and_false, not_true_eq_false, not_false_eq_true, if_true, if_false, nr_20, nr_24, nr_40, nr_41, nr_44, pt_lt, pt_ge, pt_eq, pt_ne, pt_gt, pt_le, pt_E, pt_N, pt_F, ite_10, ite_11, ne_eq, and_self, or_self, decide_true, decide_false, Bool.not_true, Bool.not_false, Bool.false_eq_true, Nat.reduceEqDiff, Nat.reduceAdd, Int.reduceEq, Int.reduceLT, Int.reduceLE, Int.reduceNeg, Int.reduceAdd, Int.reduceSub, Int.reduceMul, reduceCtorEq, iA, iS, iM, iD, iR, iN, lA, lS, lM, lD, lR, m0, m1, m5, hSt.k, hPl.k, w0, wP P 0 (Int.le_refl _) (by clear i1; omega), wM_of hrem, i1, i2]) ?_
  clear i1 i2
  have h' := h
  unfold HST at h'
  rw [hx0, h1] at h'
  have n7 : lu L 7 u 7 = (n : Int) := by simp [lu_ap, hn]
  have cg := c_gatherMs (u := n) hSt hPl hPs hPR hw (by omega) (fun m q0 q1 => by show x % v P 0 ≤ 60; omega) h' (show lu L 7 u 0 = s by simp [lu_ap, m0]) (show lu L 7 u 1 = P by simp [lu_ap, m1]) n7
  rw [wS_Seq]
  refine wS_mono cg ?_
  rintro k z L1 w1 ⟨rfl, lf, hk1, hm1, hf1⟩
  rw [if_pos rfl]
  have htk := h'.tk hPR hm1 hf1 hPs
  have ef : x + (n : Int) = x + u := by omega
  rw [hx0] at htk
  rw [ef] at htk
  have l0 : L1 0 = s := by rw [lf 0 (by decide)]; simp [lu_ap, m0]
  have l1 : L1 1 = P := by rw [lf 1 (by decide)]; simp [lu_ap, m1]
  have l2 : L1 2 = later := by rw [lf 2 (by decide)]; simp [lu_ap, m2]
  have l4 : L1 4 = stps := by rw [lf 4 (by decide)]; simp [lu_ap, m4]
  have l5 : L1 5 = rest := by rw [lf 5 (by decide)]; simp [lu_ap, m5]
  have l6 : L1 6 = i := by rw [lf 6 (by decide)]; simp [lu_ap, m6]
  have l7 : L1 7 = u := by rw [lf 7 (by decide)]; simp [lu_ap]
  clear lf cg
  have w10 : w1 s 0 = x := by rw [hf1 _ _ (fun m _ _ => by omega)]; exact w0
  have i3 : w32 (x + u) = x + u := w32_e (by omega)
  have i4 : w32 (rest - u) = rest - u := by clear i3; exact w32_e (by omega)
  refine ws_step (L' := L1) (w := vu w1 s 0 (x + u)) (by simp only [wE_I, wE_V, wE_F, wE_A, wE_N, wE_1, wE_2, wE_D, wE_B, wE_If, wE_C, wE_CV, wE_SL, wE_SA, wA_0, wA_1, wC_B, wC_E, wC_And, wC_Or, wC_Not, wS_Skip, wS_Brk, wS_Cnt, wS_RetV, wS_Ret, wS_Seq, wS_Set, wS_Inc, wS_Do, wS_Put, wS_PutC, wS_Arr, wS_ArrC, wS_If, wS_Sw, wS_F0, wS_F1, wM_q, lu_ap, aL_ap, ct_0, ct_1, ct_2, ct_3, ct_4, ct_5, headD_1, List.mem_cons, List.not_mem_nil, or_false, false_or, or_true, true_or, true_and, and_true, false_and, and_false, not_true_eq_false, not_false_eq_true, if_true, if_false, nr_20, nr_24, nr_40, nr_41, nr_44, pt_lt, pt_ge, pt_eq, pt_ne, pt_gt, pt_le, pt_E, pt_N, pt_F, ite_10, ite_11, ne_eq, and_self, or_self, decide_true, decide_false, Bool.not_true, Bool.not_false, Bool.false_eq_true, Nat.reduceEqDiff, Nat.reduceAdd, Int.reduceEq, Int.reduceLT, Int.reduceLE, Int.reduceNeg, Int.reduceAdd, Int.reduceSub, Int.reduceMul, reduceCtorEq, iA, iS, iM, iD, iR, iN, lA, lS, lM, lD, lR, l0, l7, hSt.k, w10, i3]) ?_
  clear i3
  refine ws_step (L' := lu L1 5 (rest - u)) (w := vu w1 s 0 (x + u)) (by simp only [wE_I, wE_V, wE_F, wE_A, wE_N, wE_1, wE_2, wE_D, wE_B, wE_If, wE_C, wE_CV, wE_SL, wE_SA, wA_0, wA_1, wC_B, wC_E, wC_And, wC_Or, wC_Not, wS_Skip, wS_Brk, wS_Cnt, wS_RetV, wS_Ret, wS_Seq, wS_Set, wS_Inc, wS_Do, wS_Put, wS_PutC, wS_Arr, wS_ArrC, wS_If, wS_Sw, wS_F0, wS_F1, wM_q, lu_ap, aL_ap, ct_0, ct_1, ct_2, ct_3, ct_4, ct_5, headD_1, List.mem_cons, List.not_mem_nil, or_false, false_or, or_true, true_or, true_and, and_true, false_and, and_false, not_true_eq_false, not_false_eq_true, if_true, if_false, nr_20, nr_24, nr_40, nr_41, nr_44, pt_lt, pt_ge, pt_eq, pt_ne, pt_gt, pt_le, pt_E, pt_N, pt_F, ite_10, ite_11, ne_eq, and_self, or_self, decide_true, decide_false, Bool.not_true, Bool.not_false, Bool.false_eq_true, Nat.reduceEqDiff, Nat.reduceAdd, Int.reduceEq, Int.reduceLT, Int.reduceLE, Int.reduceNeg, Int.reduceAdd, Int.reduceSub, Int.reduceMul, reduceCtorEq, iA, iS, iM, iD, iR, iN, lA, lS, lM, lD, lR, l5, l7, i4]) ?_
  clear i4
  have hk2 : Kp S w (vu w1 s 0 (x + u)) := hk1.vuc (by rw [hSt.k]; rfl)
  have hf2 : Fs s v (vu w1 s 0 (x + u)) := fun a k ha => by rw [vu_ne (by omega), hf1 _ _ (fun m _ _ => by omega)]; exact hw a k ha
  have w20 : vu w1 s 0 (x + u) s 0 = x + u := vu_is
  generalize vu w1 s 0 (x + u) = w2 at *
  have hSt2 := hSt.keep hk2
  have hPl2 := hPl.keep hk2
  have wP0 : w2 P 0 = v P 0 := hf2 _ _ (by omega)
  have hrem2 := q_rem (S := S) (v := w2) (x := x + u) (y := v P 0) (by omega) hs
  have hquo2 := q_quo (S := S) (v := w2) (x := x + u) (y := v P 0) (by omega) hs
  have t0 : itF (fun _ => tkF v M B) n f 0 = x + u := by rw [tkN_0, hx0]; omega
  have t1 : itF (fun _ => tkF v M B) n f 1 = x / v P 0 := by rw [tkN_fr (by omega) (fun m _ _ => by omega) hn4 n]; exact h1
  generalize itF (fun _ => tkF v M B) n f = G at *
  by_cases c : x % v P 0 + u = v P 0
  · rw [if_pos c] at hdv hmd
    rw [if_pos c]
    rw [hmd] at hrem2
    rw [hdv] at hquo2
    have i5 : w32 (stps + 1) = stps + 1 := w32_e (by omega)
    have ce := c_endStep (x := x / v P 0) hSt2 hPl2 hPs hMs hPR hf2 (by clear i5; omega) t1 (htk.conv (fun m q0 q1 => by clear i5; omega) (fun _ _ _ => rfl) (fun _ _ _ _ _ _ => rfl) (fun _ _ _ => Int.le_refl _))
    have c0 : closeF v M B G 0 = x + u := by rw [closeF_0 hPR.pb (Or.inl rfl)]; exact t0
    have c1 : closeF v M B G 1 = x / v P 0 + 1 := by
      rw [closeF_eq, rwI_fr hn4 _ (fun a a0 a1 => by clear i5; omega), fu_is, measI_fr (by clear i5; omega) _ (fun m m0 m1 => ⟨hPR.pb.2.2.2.1 m m0 (by clear i5; omega), by clear i5; omega, fun a _ _ => by clear i5; omega, by clear i5; omega⟩), t1]
    simp only [wE_I, wE_V, wE_F, wE_A, wE_N, wE_1, wE_2, wE_D, wE_B, wE_If, wE_C, wE_CV, wE_SL, wE_SA, wA_0, wA_1, wC_B, wC_E, wC_And, wC_Or, wC_Not, wS_Skip, wS_Brk, wS_Cnt, wS_RetV, wS_Ret, wS_Seq, wS_Set, wS_Inc, wS_Do, wS_Put, wS_PutC, wS_Arr, wS_ArrC, wS_If, wS_Sw, wS_F0, wS_F1, wM_q, lu_ap, aL_ap, ct_0, ct_1, ct_2, ct_3, ct_4, ct_5, headD_1, List.mem_cons, List.not_mem_nil, or_false, false_or, or_true, true_or, true_and, and_true, false_and, and_false, not_true_eq_false, not_false_eq_true, if_true, if_false, nr_20, nr_24, nr_40, nr_41, nr_44, pt_lt, pt_ge, pt_eq, pt_ne, pt_gt, pt_le, pt_E, pt_N, pt_F, ite_10, ite_11, ne_eq, and_self, or_self, decide_true, decide_false, Bool.not_true, Bool.not_false, Bool.false_eq_true, Nat.reduceEqDiff, Nat.reduceAdd, Int.reduceEq, Int.reduceLT, Int.reduceLE, Int.reduceNeg, Int.reduceAdd, Int.reduceSub, Int.reduceMul, reduceCtorEq, iA, iS, iM, iD, iR, iN, lA, lS, lM, lD, lR, l0, l1, l4, hSt2.k, hPl2.k, w20, wP0, wM_of hrem2, wM_of hquo2]
    refine wM_mono ce ?_
    rintro r w3 e ⟨hk3, hf3, hh3⟩
    simp only [if_true, i5]
    clear i5
    refine ⟨⟨l2, ?_, l6⟩, hk2.tr hk3, hf3, ?_⟩
    · rw [hdv]; omega
    · unfold HST
      rw [c0, c1, hmd]
      exact hh3
  · rw [if_neg c] at hdv hmd
    rw [if_neg c]
    rw [hmd] at hrem2
    have c0 : ¬ x % v P 0 + u = 0 := by omega
    simp only [wE_I, wE_V, wE_F, wE_A, wE_N, wE_1, wE_2, wE_D, wE_B, wE_If, wE_C, wE_CV, wE_SL, wE_SA, wA_0, wA_1, wC_B, wC_E, wC_And, wC_Or, wC_Not, wS_Skip, wS_Brk, wS_Cnt, wS_RetV, wS_Ret, wS_Seq, wS_Set, wS_Inc, wS_Do, wS_Put, wS_PutC, wS_Arr, wS_ArrC, wS_If, wS_Sw, wS_F0, wS_F1, wM_q, lu_ap, aL_ap, ct_0, ct_1, ct_2, ct_3, ct_4, ct_5, headD_1, List.mem_cons, List.not_mem_nil, or_false, false_or, or_true, true_or, true_and, and_true, false_and, and_false, not_true_eq_false, not_false_eq_true, if_true, if_false, nr_20, nr_24, nr_40, nr_41, nr_44, pt_lt, pt_ge, pt_eq, pt_ne, pt_gt, pt_le, pt_E, pt_N, pt_F, ite_10, ite_11, ne_eq, and_self, or_self, decide_true, decide_false, Bool.not_true, Bool.not_false, Bool.false_eq_true, Nat.reduceEqDiff, Nat.reduceAdd, Int.reduceEq, Int.reduceLT, Int.reduceLE, Int.reduceNeg, Int.reduceAdd, Int.reduceSub, Int.reduceMul, reduceCtorEq, iA, iS, iM, iD, iR, iN, lA, lS, lM, lD, lR, l0, l1, l2, l4, l6, hSt2.k, hPl2.k, w20, wP0, wM_of hrem2, c0]
    refine ⟨by rw [hdv]; omega, hk2, hf2, ?_⟩
    unfold HST
    rw [t0, t1, hmd]
    exact htk.conv (fun m q0 q1 => by omega) (fun _ _ _ => rfl) (fun _ _ _ _ _ _ => rfl) (fun _ _ _ => Int.le_refl _)
end PC
