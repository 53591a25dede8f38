/-! A FORECAST LEARNS: the reference's -/
theorem hd_in (x : Int) : -2000000000 ≤ hd x ∧ hd x ≤ 2000000000 := by
  unfold hd
  split
  · omega
  · split <;> omega
theorem mixF_b (z x y : Int) : -2000000000 ≤ mixF z x y ∧ mixF z x y ≤ 2000000000 := hd_in _
def learnF (lb tb sb C p x off : Int) (f : Int → Int) : Int → Int :=
  fu (fu (fu (fu f (C + 0) (mixF lb (x - f (C + (4 + p))) (f (C + 0) + f (C + 1)))) (C + 1) (mixF tb (mixF lb (x - f (C + (4 + p))) (f (C + 0) + f (C + 1)) - f (C + 0)) (f (C + 1)))) (C + (4 + p)) (mixF sb (x - mixF lb (x - f (C + (4 + p))) (f (C + 0) + f (C + 1))) (f (C + (4 + p))))) (C + (28 + p)) (mixF sb off (f (C + (28 + p))))
section LN
variable {S : QS} {v w : QV} {b M P B s : Int} {f : Int → Int}
theorem m_learn (h : LMo S v M) (hB : v M 28 = B) (hB2 : B = 0 ∨ B = 1) {m p x off : Int} (hm : 0 ≤ m ∧ m < 4) (hp : 0 ≤ p ∧ p < 24) (hx : 0 ≤ x ∧ x ≤ 999999000) (ho : 0 ≤ off ∧ off ≤ 4000000000) (hl : 0 ≤ v (M + 20) (4 * B + m) ∧ v (M + 20) (4 * B + m) ≤ 16) (ht : 0 ≤ v (M + 21) (4 * B + m) ∧ v (M + 21) (4 * B + m) ≤ 16) (hs : 0 ≤ v (M + 22) (4 * B + m) ∧ v (M + 22) (4 * B + m) ≤ 16)
    (h0 : in2 (f (647 + 112 * m + 0))) (h1 : in2 (f (647 + 112 * m + 1))) (h2 : in2 (f (647 + 112 * m + (4 + p)))) (h3 : in2 (f (647 + 112 * m + (28 + p)))) : mX12_learn [M, m, p, x, off] S (vf v (M + 1) f) = some (0, vf v (M + 1) (learnF (v (M + 20) (4 * B + m)) (v (M + 21) (4 * B + m)) (v (M + 22) (4 * B + m)) (647 + 112 * m) p x off f)) := by
  unfold in2 at h0 h1 h2 h3
  have hw := fun g => h.keep (Kp.vf h (f := g))
  have aF := fun g z (q : 0 ≤ z ∧ z < 112) => m_atForecast (S := S) (v := vf v (M + 1) g) hm q
  have qF : ∀ z, 0 ≤ z ∧ z < 112 → 0 ≤ 647 + 112 * m + z ∧ 647 + 112 * m + z < 1095 := fun z q => by omega
  have hown := fun g => m_own (S := S) (v := vf v (M + 1) g) hB2 (show 0 ≤ m ∧ m ≤ 1000 by omega)
  have o1 : 0 ≤ 4 * B + m ∧ 4 * B + m < 8 := by omega
  have eB : ∀ g, vf v (M + 1) g M 28 = B := fun g => by rw [vf_ne (by omega)]; exact hB
  have e20 : ∀ g, vf v (M + 1) g (M + 20) (4 * B + m) = v (M + 20) (4 * B + m) := fun g => vf_ne (by omega)
  have e21 : ∀ g, vf v (M + 1) g (M + 21) (4 * B + m) = v (M + 21) (4 * B + m) := fun g => vf_ne (by omega)
  have e22 : ∀ g, vf v (M + 1) g (M + 22) (4 * B + m) = v (M + 22) (4 * B + m) := fun g => vf_ne (by omega)
  have i1 : w32 (4 + p) = 4 + p := w32_e (by omega)
  have i2 : w32 (28 + p) = 28 + p := by clear i1; exact w32_e (by omega)
  have r0 : 0 ≤ (0 : Int) ∧ (0 : Int) < 112 := by decide
  have r1 : 0 ≤ (1 : Int) ∧ (1 : Int) < 112 := by decide
  have r2 : 0 ≤ 4 + p ∧ 4 + p < 112 := by clear i1 i2; omega
  have r3 : 0 ≤ 28 + p ∧ 28 + p < 112 := by clear i1 i2; omega
  generalize hC : 647 + 112 * m = C at *
  generalize v (M + 20) (4 * B + m) = lb at *
  generalize v (M + 21) (4 * B + m) = tb at *
  generalize v (M + 22) (4 * B + m) = sb at *
  unfold learnF
  have lvb := mixF_b lb (x - f (C + (4 + p))) (f (C + 0) + f (C + 1))
  have mm1 := fun u : QV => m_mixed (S := S) (v := u) (z := lb) (x := x - f (C + (4 + p))) (y := f (C + 0) + f (C + 1)) hl (by clear i1 i2; omega) (by clear i1 i2; omega)
  generalize mixF lb (x - f (C + (4 + p))) (f (C + 0) + f (C + 1)) = lv at *
  have mm2 := fun u : QV => m_mixed (S := S) (v := u) (z := tb) (x := lv - f (C + 0)) (y := f (C + 1)) ht (by clear i1 i2; omega) (by clear i1 i2; omega)
  have mm3 := fun u : QV => m_mixed (S := S) (v := u) (z := sb) (x := x - lv) (y := f (C + (4 + p))) hs (by clear i1 i2; omega) (by clear i1 i2; omega)
  have mm4 := fun u : QV => m_mixed (S := S) (v := u) (z := sb) (x := off) (y := f (C + (28 + p))) hs (by clear i1 i2; omega) (by clear i1 i2; omega)
  have i3 : w64 (x - f (C + (4 + p))) = x - f (C + (4 + p)) := by clear i1 i2; exact w64_e (by omega)
  have i4 : w64 (f (C + 0) + f (C + 1)) = f (C + 0) + f (C + 1) := by clear i1 i2 i3; exact w64_e (by omega)
  have i5 : w64 (lv - f (C + 0)) = lv - f (C + 0) := by clear i1 i2 i3 i4; exact w64_e (by omega)
  have i6 : w64 (x - lv) = x - lv := by clear i1 i2 i3 i4 i5; exact w64_e (by omega)
  have f1 : ∀ y1 y2 y3, fu (fu (fu f (C + 0) y1) (C + 1) y2) (C + (4 + p)) y3 (C + (28 + p)) = f (C + (28 + p)) := fun y1 y2 y3 => by
    clear i1 i2 i3 i4 i5 i6
    rw [fu_ne (by omega), fu_ne (by omega), fu_ne (by omega)]
  apply wM_eq
  simp only [mX12_learn, sX12_learn, wE_I, wE_V, wE_F, wE_A, wE_N, wE_1, wE_2, wE_D, wE_B, wE_If, wE_C, wE_CV, wE_SL, wE_SA, wA_0, wA_1, wC_B, wC_E, wC_And, wC_Or, wC_Not, wS_Skip, wS_Brk, wS_Cnt, wS_RetV, wS_Ret, wS_Seq, wS_Set, wS_Inc, wS_Do, wS_Put, wS_PutC, wS_Arr, wS_ArrC, wS_If, wS_Sw, wS_F0, wS_F1, wM_q, lu_ap, aL_ap, ct_0, ct_1, ct_2, ct_3, ct_4, ct_5, headD_1, List.mem_cons, List.not_mem_nil, or_false, false_or, or_true, true_or, true_and, and_true, false_and, and_false, not_true_eq_false, not_false_eq_true, if_true, if_false, nr_20, nr_24, nr_40, nr_41, nr_44, pt_lt, pt_ge, pt_eq, pt_ne, pt_gt, pt_le, pt_E, pt_N, pt_F, ite_10, ite_11, ne_eq, and_self, or_self, decide_true, decide_false, Bool.not_true, Bool.not_false, Bool.false_eq_true, Nat.reduceEqDiff, Nat.reduceAdd, Int.reduceEq, Int.reduceLT, Int.reduceLE, Int.reduceNeg, Int.reduceAdd, Int.reduceSub, Int.reduceMul, reduceCtorEq, iA, iS, iM, iD, iR, iN, lA, lS, lM, lD, lR, h.k, (hw _).p0, h.a1, h.n1, (hw _).p19, h.a20, h.n20, (hw _).p20, h.a21, h.n21, (hw _).p21, h.a22, h.n22, vf_is, vf_vu, eB, e20, e21, e22, o1, wM_of (hown _), i1, i2, i3, i4, i5, i6, f1, wM_of (aF _ _ r0), wM_of (aF _ _ r1), wM_of (aF _ _ r2), wM_of (aF _ _ r3), qF _ r0, qF _ r1, qF _ r2, qF _ r3, wM_of (mm1 _), wM_of (mm2 _), wM_of (mm3 _), wM_of (mm4 _)]
end LN
