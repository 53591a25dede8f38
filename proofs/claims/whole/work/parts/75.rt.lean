/-! RATES -/
def p2 (k : Int) : Int := 2 ^ k.toNat
theorem p2_b {k : Int} (h : 4 ≤ k ∧ k ≤ 20) : 16 ≤ p2 k ∧ p2 k ≤ 1048576 := by
  have : k = 4 ∨ k = 5 ∨ k = 6 ∨ k = 7 ∨ k = 8 ∨ k = 9 ∨ k = 10 ∨ k = 11 ∨ k = 12 ∨ k = 13 ∨ k = 14 ∨ k = 15 ∨ k = 16 ∨ k = 17 ∨ k = 18 ∨ k = 19 ∨ k = 20 := by omega
  unfold p2
  rcases this with rfl | rfl | rfl | rfl | rfl | rfl | rfl | rfl | rfl | rfl | rfl | rfl | rfl | rfl | rfl | rfl | rfl <;> decide
theorem p2_lt {k l : Int} (h : 4 ≤ k ∧ k < l ∧ l ≤ 20) : 2 * p2 k ≤ p2 l := by
  obtain ⟨n, hn⟩ : ∃ n : Nat, l.toNat = k.toNat + 1 + n := ⟨l.toNat - (k.toNat + 1), by omega⟩
  unfold p2
  rw [hn, Int.pow_add, Int.pow_succ]
  have h1 : (1 : Int) ≤ 2 ^ n := by
    have := Nat.one_le_two_pow (n := n)
    have e : ((2 ^ n : Nat) : Int) = 2 ^ n := by simp
    omega
  have h2 : (0 : Int) ≤ 2 ^ k.toNat := Int.le_of_lt (Int.pow_pos (by decide))
  have h3 := Int.mul_le_mul_of_nonneg_left h1 (show (0 : Int) ≤ 2 ^ k.toNat * 2 by omega)
  rw [Int.mul_one] at h3
  omega
theorem iSh_p {k : Int} (h : 4 ≤ k ∧ k ≤ 20) : iSh 1 k = p2 k := by
  have hb := p2_b h
  unfold iSh
  have e : k % 32 = k := by omega
  rw [e, Int.one_mul]
  exact w32_e (z := p2 k) (by omega)
theorem lSh_p {k : Int} (h : 4 ≤ k ∧ k ≤ 20) : lSh 1 k = p2 k := by
  have hb := p2_b h
  unfold lSh
  have e : k % 64 = k := by omega
  rw [e, Int.one_mul]
  exact w64_e (z := p2 k) (by omega)
/-- by how much a counter went on -/
def wo (n last one two : Int) : Int := if last ≤ n then n - last else if 0 ≤ n - last + p2 one then n - last + p2 one else n - last + p2 two
def isN (sort two n : Int) : Prop := (0 ≤ n ∧ n ≤ 999999) ∧ (sort = 2 → n < p2 two)
/-- thousandths for a unit -/
def rI_ (sort last one two span n : Int) : Int := if sort = 0 then 1000 * n else if sort = 1 then 1000 * n / span else 1000 * wo n last one two / span
/-- a rate is known -/
def rK (sil lea mos sort last one two span n : Int) : Prop := (span ≤ sil ∧ isN sort two n ∧ (sort = 2 → 0 ≤ last)) ∧ 1000 * lea ≤ rI_ sort last one two span n ∧ rI_ sort last one two span n ≤ 1000 * mos
/-- what a line and a state may be -/
def rOk (lea mos sort last one two span : Int) : Prop := (0 ≤ sort ∧ sort ≤ 2) ∧ (0 ≤ lea ∧ lea ≤ mos ∧ mos ≤ 999999) ∧ (-1 ≤ last ∧ last ≤ 999999) ∧ (sort = 2 → 4 ≤ one ∧ one < two ∧ two ≤ 20 ∧ last < p2 two) ∧ (1 ≤ span ∧ span ≤ 1000)
theorem wo_b {n last one two : Int} (hn : 0 ≤ n ∧ n < p2 two) (hl : 0 ≤ last ∧ last < p2 two) (h : 4 ≤ one ∧ one < two ∧ two ≤ 20) : 0 ≤ wo n last one two ∧ wo n last one two ≤ 1048576 := by
  have b1 := p2_b (k := one) (by omega)
  have b2 := p2_b (k := two) (by omega)
  unfold wo
  split
  · omega
  · split <;> omega
section RT
variable {S : QS} {v w : QV} {b M P B s : Int}
theorem q_numberMost {p : Int} (hp : S.1 p = 3) (h2 : v p 0 = 2 → 4 ≤ v p 2 ∧ v p 2 ≤ 20) : mX2_numberMost [p] S v = some (if v p 0 = 2 then (if p2 (v p 2) - 1 < 999999 then p2 (v p 2) - 1 else 999999) else 999999, v) := by
  apply wM_eq
  by_cases h0 : v p 0 = 2
  · have hk := h2 h0
    have hb := p2_b hk
    have e1 : w32 (p2 (v p 2) - 1) = p2 (v p 2) - 1 := w32_e (by omega)
    simp only [mX2_numberMost, sX2_numberMost, wE_I, wE_V, wE_F, wE_A, wE_N, wE_1, wE_2, wE_D, wE_B, wE_If, wE_C, wE_CV, wE_SL, wE_SA, wA_0, wA_1, wC_B, wC_E, wC_And, wC_Or, wC_Not, wS_Skip, wS_Brk, wS_Cnt, wS_RetV, wS_Ret, wS_Seq, wS_Set, wS_Inc, wS_Do, wS_Put, wS_PutC, wS_Arr, wS_ArrC, wS_If, wS_Sw, wS_F0, wS_F1, wM_q, lu_ap, aL_ap, ct_0, ct_1, ct_2, ct_3, ct_4, ct_5, headD_1, List.mem_cons, List.not_mem_nil, or_false, false_or, or_true, true_or, true_and, and_true, false_and, and_false, not_true_eq_false, not_false_eq_true, if_true, if_false, nr_20, nr_24, nr_40, nr_41, nr_44, pt_lt, pt_ge, pt_eq, pt_ne, pt_gt, pt_le, pt_E, pt_N, pt_F, ite_10, ite_11, ne_eq, and_self, or_self, decide_true, decide_false, Bool.not_true, Bool.not_false, Bool.false_eq_true, Nat.reduceEqDiff, Nat.reduceAdd, Int.reduceEq, Int.reduceLT, Int.reduceLE, Int.reduceNeg, Int.reduceAdd, Int.reduceSub, Int.reduceMul, reduceCtorEq, iA, iS, iM, iD, iR, iN, lA, lS, lM, lD, lR, hp, h0, iSh_p hk, e1, iMin]
  · simp only [mX2_numberMost, sX2_numberMost, wE_I, wE_V, wE_F, wE_A, wE_N, wE_1, wE_2, wE_D, wE_B, wE_If, wE_C, wE_CV, wE_SL, wE_SA, wA_0, wA_1, wC_B, wC_E, wC_And, wC_Or, wC_Not, wS_Skip, wS_Brk, wS_Cnt, wS_RetV, wS_Ret, wS_Seq, wS_Set, wS_Inc, wS_Do, wS_Put, wS_PutC, wS_Arr, wS_ArrC, wS_If, wS_Sw, wS_F0, wS_F1, wM_q, lu_ap, aL_ap, ct_0, ct_1, ct_2, ct_3, ct_4, ct_5, headD_1, List.mem_cons, List.not_mem_nil, or_false, false_or, or_true, true_or, true_and, and_true, false_and, and_false, not_true_eq_false, not_false_eq_true, if_true, if_false, nr_20, nr_24, nr_40, nr_41, nr_44, pt_lt, pt_ge, pt_eq, pt_ne, pt_gt, pt_le, pt_E, pt_N, pt_F, ite_10, ite_11, ne_eq, and_self, or_self, decide_true, decide_false, Bool.not_true, Bool.not_false, Bool.false_eq_true, Nat.reduceEqDiff, Nat.reduceAdd, Int.reduceEq, Int.reduceLT, Int.reduceLE, Int.reduceNeg, Int.reduceAdd, Int.reduceSub, Int.reduceMul, reduceCtorEq, iA, iS, iM, iD, iR, iN, lA, lS, lM, lD, lR, hp, h0]
theorem q_risen {t p n : Int} (ht : S.1 t = 4) (hp : S.1 p = 3) (hn : 0 ≤ n ∧ n < p2 (v p 2)) (hl : 0 ≤ v t 3 ∧ v t 3 < p2 (v p 2)) (h : 4 ≤ v p 1 ∧ v p 1 < v p 2 ∧ v p 2 ≤ 20) : mX3_risen [t, p, n] S v = some (wo n (v t 3) (v p 1) (v p 2), v) := by
  have b1 := p2_b (k := v p 1) (by omega)
  have b2 := p2_b (k := v p 2) (by omega)
  have e1 : w32 (n - v t 3) = n - v t 3 := w32_e (by omega)
  have e2 : w32 (n - v t 3 + p2 (v p 1)) = n - v t 3 + p2 (v p 1) := by clear e1; exact w32_e (by omega)
  have e3 : w32 (n - v t 3 + p2 (v p 2)) = n - v t 3 + p2 (v p 2) := by clear e1 e2; exact w32_e (by omega)
  have h1 : 4 ≤ v p 1 ∧ v p 1 ≤ 20 := by clear e1 e2 e3; omega
  have h2 : 4 ≤ v p 2 ∧ v p 2 ≤ 20 := by clear e1 e2 e3; omega
  apply wM_eq
  simp only [mX3_risen, sX3_risen, wE_I, wE_V, wE_F, wE_A, wE_N, wE_1, wE_2, wE_D, wE_B, wE_If, wE_C, wE_CV, wE_SL, wE_SA, wA_0, wA_1, wC_B, wC_E, wC_And, wC_Or, wC_Not, wS_Skip, wS_Brk, wS_Cnt, wS_RetV, wS_Ret, wS_Seq, wS_Set, wS_Inc, wS_Do, wS_Put, wS_PutC, wS_Arr, wS_ArrC, wS_If, wS_Sw, wS_F0, wS_F1, wM_q, lu_ap, aL_ap, ct_0, ct_1, ct_2, ct_3, ct_4, ct_5, headD_1, List.mem_cons, List.not_mem_nil, or_false, false_or, or_true, true_or, true_and, and_true, false_and, and_false, not_true_eq_false, not_false_eq_true, if_true, if_false, nr_20, nr_24, nr_40, nr_41, nr_44, pt_lt, pt_ge, pt_eq, pt_ne, pt_gt, pt_le, pt_E, pt_N, pt_F, ite_10, ite_11, ne_eq, and_self, or_self, decide_true, decide_false, Bool.not_true, Bool.not_false, Bool.false_eq_true, Nat.reduceEqDiff, Nat.reduceAdd, Int.reduceEq, Int.reduceLT, Int.reduceLE, Int.reduceNeg, Int.reduceAdd, Int.reduceSub, Int.reduceMul, reduceCtorEq, iA, iS, iM, iD, iR, iN, lA, lS, lM, lD, lR, ht, hp, e1, iSh_p h1, iSh_p h2, e2, e3, wo]
  clear e1 e2 e3
  by_cases q : v t 3 ≤ n
  · have q' : 0 ≤ n - v t 3 := by omega
    simp [q, q']
  · have q' : ¬ 0 ≤ n - v t 3 := by omega
    by_cases q2 : 0 ≤ n - v t 3 + p2 (v p 1) <;> simp [q, q', q2]
theorem q_rateBy {t p n span : Int} (ht : S.1 t = 4) (hp : S.1 p = 3) (hr : rOk (v t 1) (v t 2) (v p 0) (v t 3) (v p 1) (v p 2) span) [Decidable (rK (v t 0) (v t 1) (v t 2) (v p 0) (v t 3) (v p 1) (v p 2) span n)] : mX3_rateBy [t, p, span, n] S v = some (if rK (v t 0) (v t 1) (v t 2) (v p 0) (v t 3) (v p 1) (v p 2) span n then rI_ (v p 0) (v t 3) (v p 1) (v p 2) span n else -2147483648, v) := by
  obtain ⟨r1, r2, r3, r4, r5⟩ := hr
  apply wM_eq
  have hnm := q_numberMost (S := S) (v := v) hp (fun q => by have := r4 q; omega)
  have hN : (v t 0 < span ∨ n < 0 ∨ (if v p 0 = 2 then (if p2 (v p 2) - 1 < 999999 then p2 (v p 2) - 1 else 999999) else 999999) < n) ↔ ¬ (span ≤ v t 0 ∧ isN (v p 0) (v p 2) n) := by
    unfold isN
    by_cases q : v p 0 = 2
    · rw [if_pos q]
      simp only [q, true_implies]
      split <;> omega
    · rw [if_neg q]
      simp only [q, false_implies, and_true]
      omega
  by_cases hA : span ≤ v t 0 ∧ isN (v p 0) (v p 2) n
  · have hA' : ¬ (v t 0 < span ∨ n < 0 ∨ (if v p 0 = 2 then (if p2 (v p 2) - 1 < 999999 then p2 (v p 2) - 1 else 999999) else 999999) < n) := fun q => (hN.mp q) hA
    have a1 : ¬ v t 0 < span := fun q => hA' (Or.inl q)
    have a2 : ¬ n < 0 := fun q => hA' (Or.inr (Or.inl q))
    have a3 : ¬ (if v p 0 = 2 then (if p2 (v p 2) - 1 < 999999 then p2 (v p 2) - 1 else 999999) else 999999) < n := fun q => hA' (Or.inr (Or.inr q))
    clear hA' hN
    have hi := hA.2.1
    have c1 : w64 (v t 1 * 1000) = 1000 * v t 1 := by rw [w64_e (by omega)]; omega
    have c2 : w64 (v t 2 * 1000) = 1000 * v t 2 := by clear c1; rw [w64_e (by omega)]; omega
    by_cases hs : v p 0 = 2
    · have r4' := r4 hs
      have hn2 := hA.2.2 hs
      by_cases hl : v t 3 = -1
      · have : ¬ rK (v t 0) (v t 1) (v t 2) (v p 0) (v t 3) (v p 1) (v p 2) span n := by
          intro q
          have := q.1.2.2 hs
          omega
        rw [if_pos hs] at a3
        rw [if_neg this]
        rw [if_pos hs] at hnm
        simp only [mX3_rateBy, sX3_rateBy, wE_I, wE_V, wE_F, wE_A, wE_N, wE_1, wE_2, wE_D, wE_B, wE_If, wE_C, wE_CV, wE_SL, wE_SA, wA_0, wA_1, wC_B, wC_E, wC_And, wC_Or, wC_Not, wS_Skip, wS_Brk, wS_Cnt, wS_RetV, wS_Ret, wS_Seq, wS_Set, wS_Inc, wS_Do, wS_Put, wS_PutC, wS_Arr, wS_ArrC, wS_If, wS_Sw, wS_F0, wS_F1, wM_q, lu_ap, aL_ap, ct_0, ct_1, ct_2, ct_3, ct_4, ct_5, headD_1, List.mem_cons, List.not_mem_nil, or_false, false_or, or_true, true_or, true_and, and_true, false_and, and_false, not_true_eq_false, not_false_eq_true, if_true, if_false, nr_20, nr_24, nr_40, nr_41, nr_44, pt_lt, pt_ge, pt_eq, pt_ne, pt_gt, pt_le, pt_E, pt_N, pt_F, ite_10, ite_11, ne_eq, and_self, or_self, decide_true, decide_false, Bool.not_true, Bool.not_false, Bool.false_eq_true, Nat.reduceEqDiff, Nat.reduceAdd, Int.reduceEq, Int.reduceLT, Int.reduceLE, Int.reduceNeg, Int.reduceAdd, Int.reduceSub, Int.reduceMul, reduceCtorEq, iA, iS, iM, iD, iR, iN, lA, lS, lM, lD, lR, ht, hp, wM_of hnm, a1, a2, a3, hs, hl]
      · have hl0 : 0 ≤ v t 3 := by clear c1 c2; omega
        have hw := wo_b (n := n) (last := v t 3) (one := v p 1) (two := v p 2) ⟨by clear c1 c2; omega, hn2⟩ ⟨hl0, r4'.2.2.2⟩ ⟨r4'.1, r4'.2.1, r4'.2.2.1⟩
        have hq := q_risen (S := S) (v := v) (n := n) ht hp ⟨by clear c1 c2; omega, hn2⟩ ⟨hl0, r4'.2.2.2⟩ ⟨r4'.1, r4'.2.1, r4'.2.2.1⟩
        have hI : rI_ (v p 0) (v t 3) (v p 1) (v p 2) span n = 1000 * wo n (v t 3) (v p 1) (v p 2) / span := by
          unfold rI_
          rw [if_neg (by clear c1 c2; omega), if_neg (by clear c1 c2; omega)]
        have hK : rK (v t 0) (v t 1) (v t 2) (v p 0) (v t 3) (v p 1) (v p 2) span n ↔ (1000 * v t 1 ≤ 1000 * wo n (v t 3) (v p 1) (v p 2) / span ∧ 1000 * wo n (v t 3) (v p 1) (v p 2) / span ≤ 1000 * v t 2) := by
          unfold rK
          rw [hI]
          exact ⟨fun q => q.2, fun q => ⟨⟨hA.1, hA.2, fun _ => hl0⟩, q⟩⟩
        have d0 : 0 ≤ 1000 * wo n (v t 3) (v p 1) (v p 2) := by clear c1 c2; omega
        have d1 := Int.ediv_nonneg d0 (show 0 ≤ span by clear c1 c2; omega)
        have d2 := Int.ediv_le_self span d0
        rw [hI]
        simp only [hK]
        generalize wo n (v t 3) (v p 1) (v p 2) = W at *
        have e1 : w64 (W * 1000) = 1000 * W := by clear c1 c2; rw [w64_e (by omega)]; omega
        generalize hZ : 1000 * W / span = Z at *
        have e2 : w64 ((1000 * W).tdiv span) = Z := by clear c1 c2 e1; rw [tdiv_n d0, hZ]; exact w64_e (by omega)
        have e3 : w32 Z = Z ∨ ¬ (1000 * v t 1 ≤ Z ∧ Z ≤ 1000 * v t 2) := by
          clear c1 c2 e1 e2
          by_cases q : 1000 * v t 1 ≤ Z ∧ Z ≤ 1000 * v t 2
          · exact Or.inl (w32_e (by omega))
          · exact Or.inr q
        have s0 : ¬ (2 : Int) = 0 := by decide
        rw [if_pos hs] at a3 hnm
        simp only [mX3_rateBy, sX3_rateBy, wE_I, wE_V, wE_F, wE_A, wE_N, wE_1, wE_2, wE_D, wE_B, wE_If, wE_C, wE_CV, wE_SL, wE_SA, wA_0, wA_1, wC_B, wC_E, wC_And, wC_Or, wC_Not, wS_Skip, wS_Brk, wS_Cnt, wS_RetV, wS_Ret, wS_Seq, wS_Set, wS_Inc, wS_Do, wS_Put, wS_PutC, wS_Arr, wS_ArrC, wS_If, wS_Sw, wS_F0, wS_F1, wM_q, lu_ap, aL_ap, ct_0, ct_1, ct_2, ct_3, ct_4, ct_5, headD_1, List.mem_cons, List.not_mem_nil, or_false, false_or, or_true, true_or, true_and, and_true, false_and, and_false, not_true_eq_false, not_false_eq_true, if_true, if_false, nr_20, nr_24, nr_40, nr_41, nr_44, pt_lt, pt_ge, pt_eq, pt_ne, pt_gt, pt_le, pt_E, pt_N, pt_F, ite_10, ite_11, ne_eq, and_self, or_self, decide_true, decide_false, Bool.not_true, Bool.not_false, Bool.false_eq_true, Nat.reduceEqDiff, Nat.reduceAdd, Int.reduceEq, Int.reduceLT, Int.reduceLE, Int.reduceNeg, Int.reduceAdd, Int.reduceSub, Int.reduceMul, reduceCtorEq, iA, iS, iM, iD, iR, iN, lA, lS, lM, lD, lR, ht, hp, wM_of hnm, a1, a2, a3, hs, hl, wM_of hq, s0, wM_of q_quotient, e1, e2, c1, c2]
        clear c1 c2 e1 e2
        by_cases q1 : Z < 1000 * v t 1
        · have : ¬ 1000 * v t 1 ≤ Z := by omega
          simp [q1, this]
        · by_cases q2 : 1000 * v t 2 < Z
          · have : ¬ Z ≤ 1000 * v t 2 := by omega
            simp [q1, q2, this]
          · have q3 : 1000 * v t 1 ≤ Z := by omega
            have q4 : Z ≤ 1000 * v t 2 := by omega
            rcases e3 with e3 | e3
            · simp [q1, q2, q3, q4, e3]
            · exact absurd ⟨q3, q4⟩ e3
    · have e0 : w64 (n * 1000) = 1000 * n := by clear c1 c2; rw [w64_e (by omega)]; omega
      rw [if_neg hs] at a3 hnm
      have d0 : 0 ≤ 1000 * n := by clear c1 c2 e0; omega
      by_cases h0 : v p 0 = 0
      · have hI : rI_ (v p 0) (v t 3) (v p 1) (v p 2) span n = 1000 * n := by unfold rI_; rw [if_pos h0]
        have hK : rK (v t 0) (v t 1) (v t 2) (v p 0) (v t 3) (v p 1) (v p 2) span n ↔ (1000 * v t 1 ≤ 1000 * n ∧ 1000 * n ≤ 1000 * v t 2) := by
          unfold rK
          rw [hI]
          exact ⟨fun q => q.2, fun q => ⟨⟨hA.1, hA.2, fun z => absurd z hs⟩, q⟩⟩
        have e2 : w64 ((1000 * n).tdiv 1) = 1000 * n := by clear c1 c2 e0; rw [Int.tdiv_one]; exact w64_e (by omega)
        have e3 : w32 (1000 * n) = 1000 * n := by clear c1 c2 e0 e2; exact w32_e (by omega)
        rw [hI]
        simp only [hK]
        have s2 : ¬ (0 : Int) = 2 := by decide
        simp only [mX3_rateBy, sX3_rateBy, wE_I, wE_V, wE_F, wE_A, wE_N, wE_1, wE_2, wE_D, wE_B, wE_If, wE_C, wE_CV, wE_SL, wE_SA, wA_0, wA_1, wC_B, wC_E, wC_And, wC_Or, wC_Not, wS_Skip, wS_Brk, wS_Cnt, wS_RetV, wS_Ret, wS_Seq, wS_Set, wS_Inc, wS_Do, wS_Put, wS_PutC, wS_Arr, wS_ArrC, wS_If, wS_Sw, wS_F0, wS_F1, wM_q, lu_ap, aL_ap, ct_0, ct_1, ct_2, ct_3, ct_4, ct_5, headD_1, List.mem_cons, List.not_mem_nil, or_false, false_or, or_true, true_or, true_and, and_true, false_and, and_false, not_true_eq_false, not_false_eq_true, if_true, if_false, nr_20, nr_24, nr_40, nr_41, nr_44, pt_lt, pt_ge, pt_eq, pt_ne, pt_gt, pt_le, pt_E, pt_N, pt_F, ite_10, ite_11, ne_eq, and_self, or_self, decide_true, decide_false, Bool.not_true, Bool.not_false, Bool.false_eq_true, Nat.reduceEqDiff, Nat.reduceAdd, Int.reduceEq, Int.reduceLT, Int.reduceLE, Int.reduceNeg, Int.reduceAdd, Int.reduceSub, Int.reduceMul, reduceCtorEq, iA, iS, iM, iD, iR, iN, lA, lS, lM, lD, lR, ht, hp, wM_of hnm, a1, a2, a3, h0, s2, wM_of q_quotient, e0, e2, c1, c2]
        clear c1 c2 e0 e2
        by_cases q1 : 1000 * n < 1000 * v t 1
        · have : ¬ 1000 * v t 1 ≤ 1000 * n := by clear e3; omega
          simp only [q1, this, wE_I, wE_V, wE_F, wE_A, wE_N, wE_1, wE_2, wE_D, wE_B, wE_If, wE_C, wE_CV, wE_SL, wE_SA, wA_0, wA_1, wC_B, wC_E, wC_And, wC_Or, wC_Not, wS_Skip, wS_Brk, wS_Cnt, wS_RetV, wS_Ret, wS_Seq, wS_Set, wS_Inc, wS_Do, wS_Put, wS_PutC, wS_Arr, wS_ArrC, wS_If, wS_Sw, wS_F0, wS_F1, wM_q, lu_ap, aL_ap, ct_0, ct_1, ct_2, ct_3, ct_4, ct_5, headD_1, List.mem_cons, List.not_mem_nil, or_false, false_or, or_true, true_or, true_and, and_true, false_and, and_false, not_true_eq_false, not_false_eq_true, if_true, if_false, nr_20, nr_24, nr_40, nr_41, nr_44, pt_lt, pt_ge, pt_eq, pt_ne, pt_gt, pt_le, pt_E, pt_N, pt_F, ite_10, ite_11, ne_eq, and_self, or_self, decide_true, decide_false, Bool.not_true, Bool.not_false, Bool.false_eq_true, Nat.reduceEqDiff, Nat.reduceAdd, Int.reduceEq, Int.reduceLT, Int.reduceLE, Int.reduceNeg, Int.reduceAdd, Int.reduceSub, Int.reduceMul, reduceCtorEq]
        · by_cases q2 : 1000 * v t 2 < 1000 * n
          · have : ¬ 1000 * n ≤ 1000 * v t 2 := by clear e3; omega
            simp only [q1, q2, this, wE_I, wE_V, wE_F, wE_A, wE_N, wE_1, wE_2, wE_D, wE_B, wE_If, wE_C, wE_CV, wE_SL, wE_SA, wA_0, wA_1, wC_B, wC_E, wC_And, wC_Or, wC_Not, wS_Skip, wS_Brk, wS_Cnt, wS_RetV, wS_Ret, wS_Seq, wS_Set, wS_Inc, wS_Do, wS_Put, wS_PutC, wS_Arr, wS_ArrC, wS_If, wS_Sw, wS_F0, wS_F1, wM_q, lu_ap, aL_ap, ct_0, ct_1, ct_2, ct_3, ct_4, ct_5, headD_1, List.mem_cons, List.not_mem_nil, or_false, false_or, or_true, true_or, true_and, and_true, false_and, and_false, not_true_eq_false, not_false_eq_true, if_true, if_false, nr_20, nr_24, nr_40, nr_41, nr_44, pt_lt, pt_ge, pt_eq, pt_ne, pt_gt, pt_le, pt_E, pt_N, pt_F, ite_10, ite_11, ne_eq, and_self, or_self, decide_true, decide_false, Bool.not_true, Bool.not_false, Bool.false_eq_true, Nat.reduceEqDiff, Nat.reduceAdd, Int.reduceEq, Int.reduceLT, Int.reduceLE, Int.reduceNeg, Int.reduceAdd, Int.reduceSub, Int.reduceMul, reduceCtorEq]
          · have q3 : 1000 * v t 1 ≤ 1000 * n := by clear e3; omega
            have q4 : 1000 * n ≤ 1000 * v t 2 := by clear e3; omega
            simp only [q1, q2, q3, q4, e3, wE_I, wE_V, wE_F, wE_A, wE_N, wE_1, wE_2, wE_D, wE_B, wE_If, wE_C, wE_CV, wE_SL, wE_SA, wA_0, wA_1, wC_B, wC_E, wC_And, wC_Or, wC_Not, wS_Skip, wS_Brk, wS_Cnt, wS_RetV, wS_Ret, wS_Seq, wS_Set, wS_Inc, wS_Do, wS_Put, wS_PutC, wS_Arr, wS_ArrC, wS_If, wS_Sw, wS_F0, wS_F1, wM_q, lu_ap, aL_ap, ct_0, ct_1, ct_2, ct_3, ct_4, ct_5, headD_1, List.mem_cons, List.not_mem_nil, or_false, false_or, or_true, true_or, true_and, and_true, false_and, and_false, not_true_eq_false, not_false_eq_true, if_true, if_false, nr_20, nr_24, nr_40, nr_41, nr_44, pt_lt, pt_ge, pt_eq, pt_ne, pt_gt, pt_le, pt_E, pt_N, pt_F, ite_10, ite_11, ne_eq, and_self, or_self, decide_true, decide_false, Bool.not_true, Bool.not_false, Bool.false_eq_true, Nat.reduceEqDiff, Nat.reduceAdd, Int.reduceEq, Int.reduceLT, Int.reduceLE, Int.reduceNeg, Int.reduceAdd, Int.reduceSub, Int.reduceMul, reduceCtorEq]
      · have h1 : v p 0 = 1 := by clear c1 c2 e0; omega
        have hI : rI_ (v p 0) (v t 3) (v p 1) (v p 2) span n = 1000 * n / span := by unfold rI_; rw [if_neg h0, if_pos h1]
        have hK : rK (v t 0) (v t 1) (v t 2) (v p 0) (v t 3) (v p 1) (v p 2) span n ↔ (1000 * v t 1 ≤ 1000 * n / span ∧ 1000 * n / span ≤ 1000 * v t 2) := by
          unfold rK
          rw [hI]
          exact ⟨fun q => q.2, fun q => ⟨⟨hA.1, hA.2, fun z => absurd z hs⟩, q⟩⟩
        have d1 := Int.ediv_nonneg d0 (show 0 ≤ span by clear c1 c2 e0; omega)
        have d2 := Int.ediv_le_self span d0
        rw [hI]
        simp only [hK]
        generalize hZ : 1000 * n / span = Z at *
        have e2 : w64 ((1000 * n).tdiv span) = Z := by clear c1 c2 e0; rw [tdiv_n d0, hZ]; exact w64_e (by omega)
        have e3 : w32 Z = Z := by clear c1 c2 e0 e2; exact w32_e (by omega)
        have s2 : ¬ (1 : Int) = 2 := by decide
        have s0 : ¬ (1 : Int) = 0 := by decide
        simp only [mX3_rateBy, sX3_rateBy, wE_I, wE_V, wE_F, wE_A, wE_N, wE_1, wE_2, wE_D, wE_B, wE_If, wE_C, wE_CV, wE_SL, wE_SA, wA_0, wA_1, wC_B, wC_E, wC_And, wC_Or, wC_Not, wS_Skip, wS_Brk, wS_Cnt, wS_RetV, wS_Ret, wS_Seq, wS_Set, wS_Inc, wS_Do, wS_Put, wS_PutC, wS_Arr, wS_ArrC, wS_If, wS_Sw, wS_F0, wS_F1, wM_q, lu_ap, aL_ap, ct_0, ct_1, ct_2, ct_3, ct_4, ct_5, headD_1, List.mem_cons, List.not_mem_nil, or_false, false_or, or_true, true_or, true_and, and_true, false_and, and_false, not_true_eq_false, not_false_eq_true, if_true, if_false, nr_20, nr_24, nr_40, nr_41, nr_44, pt_lt, pt_ge, pt_eq, pt_ne, pt_gt, pt_le, pt_E, pt_N, pt_F, ite_10, ite_11, ne_eq, and_self, or_self, decide_true, decide_false, Bool.not_true, Bool.not_false, Bool.false_eq_true, Nat.reduceEqDiff, Nat.reduceAdd, Int.reduceEq, Int.reduceLT, Int.reduceLE, Int.reduceNeg, Int.reduceAdd, Int.reduceSub, Int.reduceMul, reduceCtorEq, iA, iS, iM, iD, iR, iN, lA, lS, lM, lD, lR, ht, hp, wM_of hnm, a1, a2, a3, h1, s2, s0, wM_of q_quotient, e0, e2, c1, c2]
        clear c1 c2 e0 e2
        by_cases q1 : Z < 1000 * v t 1
        · have : ¬ 1000 * v t 1 ≤ Z := by clear e3; omega
          simp only [q1, this, wE_I, wE_V, wE_F, wE_A, wE_N, wE_1, wE_2, wE_D, wE_B, wE_If, wE_C, wE_CV, wE_SL, wE_SA, wA_0, wA_1, wC_B, wC_E, wC_And, wC_Or, wC_Not, wS_Skip, wS_Brk, wS_Cnt, wS_RetV, wS_Ret, wS_Seq, wS_Set, wS_Inc, wS_Do, wS_Put, wS_PutC, wS_Arr, wS_ArrC, wS_If, wS_Sw, wS_F0, wS_F1, wM_q, lu_ap, aL_ap, ct_0, ct_1, ct_2, ct_3, ct_4, ct_5, headD_1, List.mem_cons, List.not_mem_nil, or_false, false_or, or_true, true_or, true_and, and_true, false_and, and_false, not_true_eq_false, not_false_eq_true, if_true, if_false, nr_20, nr_24, nr_40, nr_41, nr_44, pt_lt, pt_ge, pt_eq, pt_ne, pt_gt, pt_le, pt_E, pt_N, pt_F, ite_10, ite_11, ne_eq, and_self, or_self, decide_true, decide_false, Bool.not_true, Bool.not_false, Bool.false_eq_true, Nat.reduceEqDiff, Nat.reduceAdd, Int.reduceEq, Int.reduceLT, Int.reduceLE, Int.reduceNeg, Int.reduceAdd, Int.reduceSub, Int.reduceMul, reduceCtorEq]
        · by_cases q2 : 1000 * v t 2 < Z
          · have : ¬ Z ≤ 1000 * v t 2 := by clear e3; omega
            simp only [q1, q2, this, wE_I, wE_V, wE_F, wE_A, wE_N, wE_1, wE_2, wE_D, wE_B, wE_If, wE_C, wE_CV, wE_SL, wE_SA, wA_0, wA_1, wC_B, wC_E, wC_And, wC_Or, wC_Not, wS_Skip, wS_Brk, wS_Cnt, wS_RetV, wS_Ret, wS_Seq, wS_Set, wS_Inc, wS_Do, wS_Put, wS_PutC, wS_Arr, wS_ArrC, wS_If, wS_Sw, wS_F0, wS_F1, wM_q, lu_ap, aL_ap, ct_0, ct_1, ct_2, ct_3, ct_4, ct_5, headD_1, List.mem_cons, List.not_mem_nil, or_false, false_or, or_true, true_or, true_and, and_true, false_and, and_false, not_true_eq_false, not_false_eq_true, if_true, if_false, nr_20, nr_24, nr_40, nr_41, nr_44, pt_lt, pt_ge, pt_eq, pt_ne, pt_gt, pt_le, pt_E, pt_N, pt_F, ite_10, ite_11, ne_eq, and_self, or_self, decide_true, decide_false, Bool.not_true, Bool.not_false, Bool.false_eq_true, Nat.reduceEqDiff, Nat.reduceAdd, Int.reduceEq, Int.reduceLT, Int.reduceLE, Int.reduceNeg, Int.reduceAdd, Int.reduceSub, Int.reduceMul, reduceCtorEq]
          · have q3 : 1000 * v t 1 ≤ Z := by clear e3; omega
            have q4 : Z ≤ 1000 * v t 2 := by clear e3; omega
            simp only [q1, q2, q3, q4, e3, wE_I, wE_V, wE_F, wE_A, wE_N, wE_1, wE_2, wE_D, wE_B, wE_If, wE_C, wE_CV, wE_SL, wE_SA, wA_0, wA_1, wC_B, wC_E, wC_And, wC_Or, wC_Not, wS_Skip, wS_Brk, wS_Cnt, wS_RetV, wS_Ret, wS_Seq, wS_Set, wS_Inc, wS_Do, wS_Put, wS_PutC, wS_Arr, wS_ArrC, wS_If, wS_Sw, wS_F0, wS_F1, wM_q, lu_ap, aL_ap, ct_0, ct_1, ct_2, ct_3, ct_4, ct_5, headD_1, List.mem_cons, List.not_mem_nil, or_false, false_or, or_true, true_or, true_and, and_true, false_and, and_false, not_true_eq_false, not_false_eq_true, if_true, if_false, nr_20, nr_24, nr_40, nr_41, nr_44, pt_lt, pt_ge, pt_eq, pt_ne, pt_gt, pt_le, pt_E, pt_N, pt_F, ite_10, ite_11, ne_eq, and_self, or_self, decide_true, decide_false, Bool.not_true, Bool.not_false, Bool.false_eq_true, Nat.reduceEqDiff, Nat.reduceAdd, Int.reduceEq, Int.reduceLT, Int.reduceLE, Int.reduceNeg, Int.reduceAdd, Int.reduceSub, Int.reduceMul, reduceCtorEq]
  · have hA' := hN.mpr hA
    have : ¬ rK (v t 0) (v t 1) (v t 2) (v p 0) (v t 3) (v p 1) (v p 2) span n := fun q => hA ⟨q.1.1, q.1.2.1⟩
    simp only [mX3_rateBy, sX3_rateBy, wE_I, wE_V, wE_F, wE_A, wE_N, wE_1, wE_2, wE_D, wE_B, wE_If, wE_C, wE_CV, wE_SL, wE_SA, wA_0, wA_1, wC_B, wC_E, wC_And, wC_Or, wC_Not, wS_Skip, wS_Brk, wS_Cnt, wS_RetV, wS_Ret, wS_Seq, wS_Set, wS_Inc, wS_Do, wS_Put, wS_PutC, wS_Arr, wS_ArrC, wS_If, wS_Sw, wS_F0, wS_F1, wM_q, lu_ap, aL_ap, ct_0, ct_1, ct_2, ct_3, ct_4, ct_5, headD_1, List.mem_cons, List.not_mem_nil, or_false, false_or, or_true, true_or, true_and, and_true, false_and, and_false, not_true_eq_false, not_false_eq_true, if_true, if_false, nr_20, nr_24, nr_40, nr_41, nr_44, pt_lt, pt_ge, pt_eq, pt_ne, pt_gt, pt_le, pt_E, pt_N, pt_F, ite_10, ite_11, ne_eq, and_self, or_self, decide_true, decide_false, Bool.not_true, Bool.not_false, Bool.false_eq_true, Nat.reduceEqDiff, Nat.reduceAdd, Int.reduceEq, Int.reduceLT, Int.reduceLE, Int.reduceNeg, Int.reduceAdd, Int.reduceSub, Int.reduceMul, reduceCtorEq, iA, iS, iM, iD, iR, iN, lA, lS, lM, lD, lR, ht, hp, wM_of hnm, this]
    rcases hA' with q | q | q
    · simp [q]
    · by_cases q1 : v t 0 < span <;> simp [q, q1]
    · by_cases q1 : v t 0 < span
      · simp [q1]
      · by_cases q2 : n < 0
        · simp [q1, q2]
        · simp only [q, q1, q2, wE_I, wE_V, wE_F, wE_A, wE_N, wE_1, wE_2, wE_D, wE_B, wE_If, wE_C, wE_CV, wE_SL, wE_SA, wA_0, wA_1, wC_B, wC_E, wC_And, wC_Or, wC_Not, wS_Skip, wS_Brk, wS_Cnt, wS_RetV, wS_Ret, wS_Seq, wS_Set, wS_Inc, wS_Do, wS_Put, wS_PutC, wS_Arr, wS_ArrC, wS_If, wS_Sw, wS_F0, wS_F1, wM_q, lu_ap, aL_ap, ct_0, ct_1, ct_2, ct_3, ct_4, ct_5, headD_1, List.mem_cons, List.not_mem_nil, or_false, false_or, or_true, true_or, true_and, and_true, false_and, and_false, not_true_eq_false, not_false_eq_true, if_true, if_false, nr_20, nr_24, nr_40, nr_41, nr_44, pt_lt, pt_ge, pt_eq, pt_ne, pt_gt, pt_le, pt_E, pt_N, pt_F, ite_10, ite_11, ne_eq, and_self, or_self, decide_true, decide_false, Bool.not_true, Bool.not_false, Bool.false_eq_true, Nat.reduceEqDiff, Nat.reduceAdd, Int.reduceEq, Int.reduceLT, Int.reduceLE, Int.reduceNeg, Int.reduceAdd, Int.reduceSub, Int.reduceMul, reduceCtorEq]
end RT
