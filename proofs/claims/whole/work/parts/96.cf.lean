/-! A FORECAST FOLLOWS: the class's -/
def HOo (v : QV) (o : Int) (f : Int → Int) (g N : Int) : Prop := (v o 0 = f (g + 2) ∧ ((v o 0 = 0 ∧ f (g + 0) = 0) ∨ v o 0 = 1)) ∧ (v o 1 = f (g + 0) ∧ -2000000000 ≤ v o 1 ∧ v o 1 ≤ 2000000000) ∧ (v o 2 = f (g + 1) ∧ -2000000000 ≤ v o 2 ∧ v o 2 ≤ 2000000000) ∧ (0 ≤ v o 7 ∧ v o 7 ≤ N ∧ f (g + 3) = cKo v o) ∧ (∀ j, 0 ≤ j → j < 24 → (v (o + 1) j = f (g + (4 + j)) ∧ -2000000000 ≤ v (o + 1) j ∧ v (o + 1) j ≤ 2000000000) ∧ (v (o + 2) j = f (g + (28 + j)) ∧ 0 ≤ v (o + 2) j ∧ v (o + 2) j ≤ 2000000000)) ∧ (∀ i, 0 ≤ i → i < cKo v o → (cTo v o i = f (g + (52 + i)) ∧ -2000000000 ≤ cTo v o i ∧ cTo v o i ≤ 2000000000) ∧ (cOd v o i = f (g + (82 + i)) ∧ (cOd v o i = 0 ∨ cOd v o i = 1)))
theorem HOo.cong {v w : QV} {o g N : Int} {f F : Int → Int} (h : HOo v o f g N) (hv : ∀ a k, o ≤ a → a ≤ o + 4 → w a k = v a k) (hf : ∀ i, 0 ≤ i → i < 112 → F (g + i) = f (g + i)) : HOo w o F g N := by
  obtain ⟨o1, o2, o3, o4, o5, o6⟩ := h
  have e0 : ∀ k, w o k = v o k := fun k => hv _ _ (by omega) (by omega)
  have eK : cKo w o = cKo v o := by unfold cKo; rw [e0]
  have hK : cKo v o ≤ 30 := by unfold cKo; split <;> omega
  refine ⟨?_, ?_, ?_, ?_, fun j j0 j1 => ?_, fun i i0 i1 => ?_⟩
  · rw [e0, hf 2 (by decide) (by decide), hf 0 (by decide) (by decide)]; exact o1
  · rw [e0, hf 0 (by decide) (by decide)]; exact o2
  · rw [e0, hf 1 (by decide) (by decide)]; exact o3
  · rw [e0, hf 3 (by decide) (by decide), eK]; exact o4
  · rw [hv (o + 1) _ (by omega) (by omega), hv (o + 2) _ (by omega) (by omega), hf (4 + j) (by omega) (by omega), hf (28 + j) (by omega) (by omega)]
    exact o5 j j0 j1
  · rw [eK] at i1
    have eT : cTo w o i = cTo v o i := by unfold cTo; rw [e0, hv _ _ (by omega) (by omega)]
    have eO : cOd w o i = cOd v o i := by unfold cOd; rw [e0, hv _ _ (by omega) (by omega)]
    rw [eT, eO, hf (52 + i) (by omega) (by omega), hf (82 + i) (by omega) (by omega)]
    exact o6 i i0 i1
theorem HOo.fi {v : QV} {o g N : Int} {f : Int → Int} (h : HOo v o f g N) : FIf f g := by
  obtain ⟨o1, o2, o3, o4, o5, o6⟩ := h
  refine ⟨?_, ?_, fun j j0 j1 => ?_, ?_⟩
  · rw [← o2.1]; exact o2.2
  · rw [← o3.1]; exact o3.2
  · obtain ⟨a1, a2⟩ := o5 j j0 j1
    rw [← a1.1, ← a2.1]
    exact ⟨a1.2, a2.2⟩
  · rw [o4.2.2]; unfold cKo; split <;> omega
theorem HOo.upd {v w : QV} {o g N : Int} {f F : Int → Int} (h : HOo v o f g N) (c1 : w o 0 = F (g + 2) ∧ ((w o 0 = 0 ∧ F (g + 0) = 0) ∨ w o 0 = 1)) (c2 : w o 1 = F (g + 0) ∧ -2000000000 ≤ w o 1 ∧ w o 1 ≤ 2000000000) (c3 : w o 2 = F (g + 1) ∧ -2000000000 ≤ w o 2 ∧ w o 2 ≤ 2000000000) (c7 : w o 7 = v o 7) (cA : ∀ j, 0 ≤ j → j < 24 → (w (o + 1) j = F (g + (4 + j)) ∧ -2000000000 ≤ w (o + 1) j ∧ w (o + 1) j ≤ 2000000000) ∧ (w (o + 2) j = F (g + (28 + j)) ∧ 0 ≤ w (o + 2) j ∧ w (o + 2) j ≤ 2000000000)) (ht : ∀ k, w (o + 3) k = v (o + 3) k ∧ w (o + 4) k = v (o + 4) k) (hf3 : F (g + 3) = f (g + 3)) (hf : ∀ i, 52 ≤ i → i < 112 → F (g + i) = f (g + i)) : HOo w o F g N := by
  obtain ⟨o1, o2, o3, o4, o5, o6⟩ := h
  have eK : cKo w o = cKo v o := by unfold cKo; rw [c7]
  have hK : cKo v o ≤ 30 := by unfold cKo; split <;> omega
  refine ⟨c1, c2, c3, ?_, cA, fun i i0 i1 => ?_⟩
  · rw [c7, hf3, eK]; exact o4
  · rw [eK] at i1
    have eT : cTo w o i = cTo v o i := by unfold cTo; rw [c7, (ht _).1]
    have eO : cOd w o i = cOd v o i := by unfold cOd; rw [c7, (ht _).2]
    rw [eT, eO, hf (52 + i) (by omega) (by omega), hf (82 + i) (by omega) (by omega)]
    exact o6 i i0 i1
theorem HOo.kp {v : QV} {o g N t z : Int} {f : Int → Int} (h : HOo v o f g N) (ht : -2000000000 ≤ t ∧ t ≤ 2000000000) (hz : z = 0 ∨ z = 1) : HOo (vu (vu (vu v (o + 3) (v o 7 % 30) t) (o + 4) (v o 7 % 30) z) o 7 (v o 7 + 1)) o (keepF g t z f) g (N + 1) := by
  obtain ⟨o1, o2, o3, o4, o5, o6⟩ := h
  have lo : ∀ k, k < g + 52 → k ≠ g + 3 → keepF g t z f k = f k := fun k q q3 => keepF_lo (Or.inl q) q3
  generalize hT : v o 7 = T at *
  have e0 : ∀ k, k ≠ 7 → vu (vu (vu v (o + 3) (T % 30) t) (o + 4) (T % 30) z) o 7 (T + 1) o k = v o k := fun k q => by
    rw [vu_ne (by omega), vu_ne (by omega), vu_ne (by omega)]
  have e7 : vu (vu (vu v (o + 3) (T % 30) t) (o + 4) (T % 30) z) o 7 (T + 1) o 7 = T + 1 := vu_is
  have e1 : ∀ k, vu (vu (vu v (o + 3) (T % 30) t) (o + 4) (T % 30) z) o 7 (T + 1) (o + 1) k = v (o + 1) k := fun k => by
    rw [vu_ne (by omega), vu_ne (by omega), vu_ne (by omega)]
  have e2 : ∀ k, vu (vu (vu v (o + 3) (T % 30) t) (o + 4) (T % 30) z) o 7 (T + 1) (o + 2) k = v (o + 2) k := fun k => by
    rw [vu_ne (by omega), vu_ne (by omega), vu_ne (by omega)]
  have e3 : ∀ k, vu (vu (vu v (o + 3) (T % 30) t) (o + 4) (T % 30) z) o 7 (T + 1) (o + 3) k = if k = T % 30 then t else v (o + 3) k := fun k => by
    rw [vu_ne (by omega), vu_ne (by omega), vu_ap]
    by_cases q : k = T % 30
    · rw [if_pos ⟨rfl, q⟩, if_pos q]
    · rw [if_neg (fun x => q x.2), if_neg q]
  have e4 : ∀ k, vu (vu (vu v (o + 3) (T % 30) t) (o + 4) (T % 30) z) o 7 (T + 1) (o + 4) k = if k = T % 30 then z else v (o + 4) k := fun k => by
    rw [vu_ne (by omega), vu_ap]
    by_cases q : k = T % 30
    · rw [if_pos ⟨rfl, q⟩, if_pos q]
    · rw [if_neg (fun x => q x.2), if_neg q, vu_ne (by omega)]
  generalize vu (vu (vu v (o + 3) (T % 30) t) (o + 4) (T % 30) z) o 7 (T + 1) = w at *
  have eK : cKo w o = if 30 < T + 1 then 30 else T + 1 := by unfold cKo; rw [e7]
  have eK0 : cKo v o = if 30 < T then 30 else T := by unfold cKo; rw [hT]
  refine ⟨?_, ?_, ?_, ?_, fun j j0 j1 => ?_, fun i i0 i1 => ?_⟩
  · rw [e0 0 (by decide), lo _ (by omega) (by omega), lo _ (by omega) (by omega)]; exact o1
  · rw [e0 1 (by decide), lo _ (by omega) (by omega)]; exact o2
  · rw [e0 2 (by decide), lo _ (by omega) (by omega)]; exact o3
  · rw [e7, eK]
    refine ⟨by omega, by omega, ?_⟩
    unfold keepF
    rw [if_neg (by omega), if_neg (by omega), if_pos rfl, o4.2.2, eK0]
    split <;> split <;> split <;> omega
  · rw [e1, e2, lo _ (by omega) (by omega), lo _ (by omega) (by omega)]
    exact o5 j j0 j1
  · have cT : cTo w o i = if (T - i) % 30 = T % 30 then t else v (o + 3) ((T - i) % 30) := by
      unfold cTo
      rw [e7, show T + 1 - 1 - i = T - i by omega, e3]
    have cO : cOd w o i = if (T - i) % 30 = T % 30 then z else v (o + 4) ((T - i) % 30) := by
      unfold cOd
      rw [e7, show T + 1 - 1 - i = T - i by omega, e4]
    have i30 : i < 30 := by rw [eK] at i1; split at i1 <;> omega
    by_cases q : i = 0
    · subst q
      rw [cT, cO, if_pos (by omega), if_pos (by omega)]
      unfold keepF
      rw [if_pos (by omega), if_neg (by omega), if_pos (by omega)]
      refine ⟨⟨rfl, ht⟩, ?_⟩
      rcases hz with rfl | rfl
      · exact ⟨by rw [if_pos rfl], Or.inl rfl⟩
      · exact ⟨by rw [if_neg (by decide)], Or.inr rfl⟩
    · have hn : ¬ (T - i) % 30 = T % 30 := by omega
      rw [cT, cO, if_neg hn, if_neg hn]
      have i2 : i - 1 < cKo v o := by
        rw [eK0]
        rw [eK] at i1
        split at i1 <;> split <;> omega
      obtain ⟨x1, x2⟩ := o6 (i - 1) (by omega) i2
      unfold cTo at x1
      unfold cOd at x2
      rw [hT, show T - 1 - (i - 1) = T - i by omega] at x1 x2
      have k1 : keepF g t z f (g + (52 + i)) = f (g + (52 + (i - 1))) := by
        unfold keepF
        rw [if_neg (by omega), if_neg (by omega), if_neg (by omega), if_pos (by omega)]
        congr 1
        omega
      have k2 : keepF g t z f (g + (82 + i)) = f (g + (82 + (i - 1))) := by
        unfold keepF
        rw [if_neg (by omega), if_neg (by omega), if_neg (by omega), if_pos (by omega)]
        congr 1
        omega
      rw [k1, k2]
      exact ⟨x1, x2⟩
section CF
variable {S : QS} {v w : QV} {b M P B s : Int} {f F : Int → Int}
theorem q_mixed {z x y : Int} (hz : 0 ≤ z ∧ z ≤ 16) (hx : -8000000000 ≤ x ∧ x ≤ 8000000000) (hy : -8000000000 ≤ y ∧ y ≤ 8000000000) : mX4_mixed [z, x, y] S v = some (mixF z x y, v) := by
  have b1 := mul_16 hz hx
  have b2 := mul_16 (z := 16 - z) (by omega) hy
  have e0 : w32 (16 - z) = 16 - z := w32_e (by omega)
  have e1 : w64 (z * x) = z * x := by clear e0; exact w64_e (by omega)
  have e2 : w64 ((16 - z) * y) = (16 - z) * y := by clear e0 e1; exact w64_e (by omega)
  unfold mixF
  generalize hp : z * x = p at *
  generalize hq : (16 - z) * y = q at *
  have e3 : w64 (p + q) = p + q := by clear e0 e1 e2; exact w64_e (by omega)
  have ht := td16 (n := p + q)
  generalize hT : (p + q).tdiv 16 = T at *
  have e4 : w64 T = T := by clear e0 e1 e2 e3; exact w64_e (by omega)
  apply wM_eq
  simp only [mX4_mixed, sX4_mixed, wE_I, wE_V, wE_F, wE_A, wE_N, wE_1, wE_2, wE_D, wE_B, wE_If, wE_C, wE_CV, wE_SL, wE_SA, wA_0, wA_1, wC_B, wC_E, wC_And, wC_Or, wC_Not, wS_Skip, wS_Brk, wS_Cnt, wS_RetV, wS_Ret, wS_Seq, wS_Set, wS_Inc, wS_Do, wS_Put, wS_PutC, wS_Arr, wS_ArrC, wS_If, wS_Sw, wS_F0, wS_F1, wM_q, lu_ap, aL_ap, ct_0, ct_1, ct_2, ct_3, ct_4, ct_5, headD_1, List.mem_cons, List.not_mem_nil, or_false, false_or, or_true, true_or, true_and, and_true, false_and, and_false, not_true_eq_false, not_false_eq_true, if_true, if_false, nr_20, nr_24, nr_40, nr_41, nr_44, pt_lt, pt_ge, pt_eq, pt_ne, pt_gt, pt_le, pt_E, pt_N, pt_F, ite_10, ite_11, ne_eq, and_self, or_self, decide_true, decide_false, Bool.not_true, Bool.not_false, Bool.false_eq_true, Nat.reduceEqDiff, Nat.reduceAdd, Int.reduceEq, Int.reduceLT, Int.reduceLE, Int.reduceNeg, Int.reduceAdd, Int.reduceSub, Int.reduceMul, reduceCtorEq, iA, iS, iM, iD, iR, iN, lA, lS, lM, lD, lR, e0, hp, hq, e1, e2, e3, hT, e4, wM_of q_held]
theorem q_keep {o t z : Int} (hO : LOu S v o) (hr : 0 ≤ v o 7 ∧ v o 7 ≤ 200000) (hz : z = 0 ∨ z = 1) : mX4_keep [o, t, z] S v = some (0, vu (vu (vu v (o + 3) (v o 7 % 30) t) (o + 4) (v o 7 % 30) z) o 7 (v o 7 + 1)) := by
  generalize hT : v o 7 = T at *
  have e1 : w32 (T % 30) = T % 30 := w32_e (by omega)
  have e2 : w32 (T + 1) = T + 1 := by clear e1; exact w32_e (by omega)
  have r1 : 0 ≤ T % 30 ∧ T % 30 < 30 := by clear e1 e2; omega
  have z2 : z % 2 = z := by clear e1 e2; omega
  have n1 : ¬ o = o + 3 := by clear e1 e2; omega
  have n2 : ¬ o = o + 4 := by clear e1 e2; omega
  apply wM_eq
  simp only [mX4_keep, sX4_keep, wE_I, wE_V, wE_F, wE_A, wE_N, wE_1, wE_2, wE_D, wE_B, wE_If, wE_C, wE_CV, wE_SL, wE_SA, wA_0, wA_1, wC_B, wC_E, wC_And, wC_Or, wC_Not, wS_Skip, wS_Brk, wS_Cnt, wS_RetV, wS_Ret, wS_Seq, wS_Set, wS_Inc, wS_Do, wS_Put, wS_PutC, wS_Arr, wS_ArrC, wS_If, wS_Sw, wS_F0, wS_F1, wM_q, lu_ap, aL_ap, ct_0, ct_1, ct_2, ct_3, ct_4, ct_5, headD_1, List.mem_cons, List.not_mem_nil, or_false, false_or, or_true, true_or, true_and, and_true, false_and, and_false, not_true_eq_false, not_false_eq_true, if_true, if_false, nr_20, nr_24, nr_40, nr_41, nr_44, pt_lt, pt_ge, pt_eq, pt_ne, pt_gt, pt_le, pt_E, pt_N, pt_F, ite_10, ite_11, ne_eq, and_self, or_self, decide_true, decide_false, Bool.not_true, Bool.not_false, Bool.false_eq_true, Nat.reduceEqDiff, Nat.reduceAdd, Int.reduceEq, Int.reduceLT, Int.reduceLE, Int.reduceNeg, Int.reduceAdd, Int.reduceSub, Int.reduceMul, reduceCtorEq, iA, iS, iM, iD, iR, iN, lA, lS, lM, lD, lR, hO.k, hT, tmod_n hr.1, e1, hO.p5, hO.p6, hO.a3, hO.n3, hO.a4, hO.n4, r1, z2, vu_ne, n1, n2, e2]
end CF
