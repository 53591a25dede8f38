/-! THE CLASS'S QUESTIONS over rows, one by one -/
def uP (ρ : Int → Int) (x i : Int) : Bool := !decide (ρ i = -2147483648) && decide (ρ i ≤ x)
/-- the first that p; -1 -/
def fP (p : Int → Bool) : Nat → Int → Int
  | 0, _ => -1
  | n + 1, i => if p i = true then i else fP p n (i + 1)
def ra (U D t i : Int) : Bool := decide ((D - i) * U - U < t ∧ t ≤ (D - i) * U)
def fOver (U D : Int) (K : Nat) (ρ : Int → Int) (f t x : Int) : Int :=
  if x = 0 then nP (wi U D f t) K else if x = 1 then nP (wk U D f t ρ) K else if x = 2 then (if nP (wk U D f t ρ) K = 0 then -2147483648 else w32 (w64 ((sP (wk U D f t ρ) ρ K).tdiv (nP (wk U D f t ρ) K)))) else if x = 3 then gP (wk U D f t ρ) ρ K else if x = 4 then lP (wk U D f t ρ) ρ K else if x = 5 then w32 (w32 (nP (wi U D f t) K - nP (wk U D f t ρ) K) * U) else -2147483648
def fTotal (U D : Int) (K : Nat) (ρ : Int → Int) (f t : Int) : Int := w64 ((w64 (sP (wk U D f t ρ) ρ K * U)).tdiv 1000)
def shp (K : Nat) (ρ : Int → Int) (h : Int) (i : Int) : Bool := !decide (ρ i = -2147483648) && decide (w32 (h * nP (uP ρ 2000000000) K) ≤ w32 (100 * nP (uP ρ (ρ i)) K))
def fShare (K : Nat) (ρ : Int → Int) (h : Int) : Int := lP (shp K ρ h) ρ K
/-- a row beyond those kept is not known -/
def cut (K : Nat) (ρ : Int → Int) (i j : Int) : Int := if i + j < K then ρ (i + j) else -2147483648
def kn (ρ : Int → Int) (i : Int) : Bool := !decide (ρ i = -2147483648)
def fSmooth (K : Nat) (ρ : Int → Int) (n : Nat) (i : Int) : Int := if nP (kn (cut K ρ i)) n = 0 then -2147483648 else w32 (w64 ((sP (kn (cut K ρ i)) (cut K ρ i) n).tdiv (nP (kn (cut K ρ i)) n)))
def wy (ρ : Int → Int) (i : Int) : Int := if ρ i = -2147483648 ∨ ρ (i + 1) = -2147483648 ∨ ρ i = ρ (i + 1) then 0 else if ρ (i + 1) < ρ i then 1 else -1
def alp (ρ σ : Int → Int) (i : Int) : Bool := decide (¬ wy ρ i = 0 ∧ wy ρ i = wy σ i)
/-- a run of unknown rows: how long it is now; the longest; where that is -/
def gr (ρ : Int → Int) : Nat → Int
  | 0 => 0
  | j + 1 => if ρ j = -2147483648 then gr ρ j + 1 else 0
def gm (ρ : Int → Int) : Nat → Int
  | 0 => 0
  | j + 1 => if gm ρ j < gr ρ (j + 1) then gr ρ (j + 1) else gm ρ j
def ga (ρ : Int → Int) : Nat → Int
  | 0 => -1
  | j + 1 => if gm ρ j < gr ρ (j + 1) then j - gr ρ (j + 1) + 1 else ga ρ j
theorem gr_b (ρ : Int → Int) : ∀ j : Nat, 0 ≤ gr ρ j ∧ gr ρ j ≤ j
  | 0 => ⟨Int.le_refl 0, Int.le_refl 0⟩
  | j + 1 => by
    have := gr_b ρ j
    unfold gr
    split <;> omega
theorem fP_s {p : Int → Bool} {n : Nat} {i : Int} : fP p (n + 1) i = if p i = true then i else fP p n (i + 1) := rfl
theorem fP_spec (p : Int → Bool) : ∀ (n : Nat) (i : Int), fP p n i = -1 ∨ p (fP p n i) = true
  | 0, _ => Or.inl rfl
  | n + 1, i => by
    unfold fP
    split
    · rename_i h; exact Or.inr h
    · exact fP_spec p n (i + 1)
section CM
variable {S : QS} {v w : QV} {b P s : Int}
theorem q_rowsUpTo (h : RC S v b P s) {a m x : Int} (ha : 0 ≤ a ∧ a < v P 2) (hm : 0 ≤ m ∧ m < v P 1) : mX11_rowsUpTo [b, a, m, x] S v = some (nP (uP (cR v P s a m) x) (cK v P s a).toNat, v) := by
  have hk := cK_b h ha
  apply wM_eq
  generalize hK : cK v P s a = K at hk ⊢
  generalize hρ : cR v P s a m = ρ
  simp only [mX11_rowsUpTo, sX11_rowsUpTo, wE_I, wE_V, wE_F, wE_A, wE_N, wE_1, wE_2, wE_D, wE_B, wE_If, wE_C, wE_CV, wE_SL, wE_SA, wA_0, wA_1, wC_B, wC_E, wC_And, wC_Or, wC_Not, wS_Skip, wS_Brk, wS_Cnt, wS_RetV, wS_Ret, wS_Seq, wS_Set, wS_Inc, wS_Do, wS_Put, wS_PutC, wS_Arr, wS_ArrC, wS_If, wS_Sw, wS_F0, wS_F1, wM_q, lu_ap, aL_ap, ct_0, ct_1, ct_2, ct_3, ct_4, ct_5, headD_1, List.mem_cons, List.not_mem_nil, or_false, false_or, or_true, true_or, true_and, and_true, false_and, and_false, not_true_eq_false, not_false_eq_true, if_true, if_false, nr_20, nr_24, nr_40, nr_41, nr_44, pt_lt, pt_ge, pt_eq, pt_ne, pt_gt, pt_le, pt_E, pt_N, pt_F, ite_10, ite_11, ne_eq, and_self, or_self, decide_true, decide_false, Bool.not_true, Bool.not_false, Bool.false_eq_true, Nat.reduceEqDiff, Nat.reduceAdd, Int.reduceEq, Int.reduceLT, Int.reduceLE, Int.reduceNeg, Int.reduceAdd, Int.reduceSub, Int.reduceMul, reduceCtorEq, iA, iS, iM, iD, iR, iN, lA, lS, lM, lD, lR, h.1.k, wM_of (q_keptRows h ha), hK]
  refine wS_For K.toNat (fun j M w => (M 0 = b ∧ M 1 = a ∧ M 2 = m ∧ M 3 = x ∧ M 4 = K ∧ M 5 = nP (uP ρ x) j ∧ M 6 = j) ∧ v = w) (by omega) ?_ ?_ ?_
  · simp [lu_ap, aL_ap, ct_0, ct_2, nP]
  · rintro j M w hj ⟨⟨m0, m1, m2, m3, m4, m5, m6⟩, rfl⟩
    have hjK : 0 ≤ (j : Int) ∧ (j : Int) < K := by omega
    simp only [cX11_rowsUpTo_1, bX11_rowsUpTo_1, uX11_rowsUpTo_1, wE_I, wE_V, wE_F, wE_A, wE_N, wE_1, wE_2, wE_D, wE_B, wE_If, wE_C, wE_CV, wE_SL, wE_SA, wA_0, wA_1, wC_B, wC_E, wC_And, wC_Or, wC_Not, wS_Skip, wS_Brk, wS_Cnt, wS_RetV, wS_Ret, wS_Seq, wS_Set, wS_Inc, wS_Do, wS_Put, wS_PutC, wS_Arr, wS_ArrC, wS_If, wS_Sw, wS_F0, wS_F1, wM_q, lu_ap, aL_ap, ct_0, ct_1, ct_2, ct_3, ct_4, ct_5, headD_1, List.mem_cons, List.not_mem_nil, or_false, false_or, or_true, true_or, true_and, and_true, false_and, and_false, not_true_eq_false, not_false_eq_true, if_true, if_false, nr_20, nr_24, nr_40, nr_41, nr_44, pt_lt, pt_ge, pt_eq, pt_ne, pt_gt, pt_le, pt_E, pt_N, pt_F, ite_10, ite_11, ne_eq, and_self, or_self, decide_true, decide_false, Bool.not_true, Bool.not_false, Bool.false_eq_true, Nat.reduceEqDiff, Nat.reduceAdd, Int.reduceEq, Int.reduceLT, Int.reduceLE, Int.reduceNeg, Int.reduceAdd, Int.reduceSub, Int.reduceMul, reduceCtorEq, iA, iS, iM, iD, iR, iN, lA, lS, lM, lD, lR, h.1.k, m0, m1, m2, m3, m4, m5, m6, wM_of (q_rowTold h ha hm), hK, hρ, hjK, w32_s (show j < 1000 by omega), w32_n _ (show j < 1000 by omega)]
    by_cases h1 : ρ j = -2147483648 <;> by_cases h2 : ρ j ≤ x <;> simp [h1, h2, nP, uP]
  · rintro M w ⟨⟨m0, m1, m2, m3, m4, m5, m6⟩, rfl⟩
    simp only [cX11_rowsUpTo_1, wE_I, wE_V, wE_F, wE_A, wE_N, wE_1, wE_2, wE_D, wE_B, wE_If, wE_C, wE_CV, wE_SL, wE_SA, wA_0, wA_1, wC_B, wC_E, wC_And, wC_Or, wC_Not, wS_Skip, wS_Brk, wS_Cnt, wS_RetV, wS_Ret, wS_Seq, wS_Set, wS_Inc, wS_Do, wS_Put, wS_PutC, wS_Arr, wS_ArrC, wS_If, wS_Sw, wS_F0, wS_F1, wM_q, lu_ap, aL_ap, ct_0, ct_1, ct_2, ct_3, ct_4, ct_5, headD_1, List.mem_cons, List.not_mem_nil, or_false, false_or, or_true, true_or, true_and, and_true, false_and, and_false, not_true_eq_false, not_false_eq_true, if_true, if_false, nr_20, nr_24, nr_40, nr_41, nr_44, pt_lt, pt_ge, pt_eq, pt_ne, pt_gt, pt_le, pt_E, pt_N, pt_F, ite_10, ite_11, ne_eq, and_self, or_self, decide_true, decide_false, Bool.not_true, Bool.not_false, Bool.false_eq_true, Nat.reduceEqDiff, Nat.reduceAdd, Int.reduceEq, Int.reduceLT, Int.reduceLE, Int.reduceNeg, Int.reduceAdd, Int.reduceSub, Int.reduceMul, reduceCtorEq, iA, iS, iM, iD, iR, iN, lA, lS, lM, lD, lR, m4, m5, m6]
    omega
theorem q_share (h : RC S v b P s) {a m x : Int} : mX11_share [b, a, m, x] S v = some (if ((0 ≤ a ∧ a < v P 2) ∧ (0 ≤ m ∧ m < v P 1)) ∧ 0 ≤ x ∧ x ≤ 100 then fShare (cK v P s a).toNat (cR v P s a m) x else -2147483648, v) := by
  apply wM_eq
  by_cases h0 : (0 ≤ a ∧ a < v P 2) ∧ (0 ≤ m ∧ m < v P 1)
  · obtain ⟨ha, hm⟩ := h0
    simp only [mX11_share, sX11_share, wE_I, wE_V, wE_F, wE_A, wE_N, wE_1, wE_2, wE_D, wE_B, wE_If, wE_C, wE_CV, wE_SL, wE_SA, wA_0, wA_1, wC_B, wC_E, wC_And, wC_Or, wC_Not, wS_Skip, wS_Brk, wS_Cnt, wS_RetV, wS_Ret, wS_Seq, wS_Set, wS_Inc, wS_Do, wS_Put, wS_PutC, wS_Arr, wS_ArrC, wS_If, wS_Sw, wS_F0, wS_F1, wM_q, lu_ap, aL_ap, ct_0, ct_1, ct_2, ct_3, ct_4, ct_5, headD_1, List.mem_cons, List.not_mem_nil, or_false, false_or, or_true, true_or, true_and, and_true, false_and, and_false, not_true_eq_false, not_false_eq_true, if_true, if_false, nr_20, nr_24, nr_40, nr_41, nr_44, pt_lt, pt_ge, pt_eq, pt_ne, pt_gt, pt_le, pt_E, pt_N, pt_F, ite_10, ite_11, ne_eq, and_self, or_self, decide_true, decide_false, Bool.not_true, Bool.not_false, Bool.false_eq_true, Nat.reduceEqDiff, Nat.reduceAdd, Int.reduceEq, Int.reduceLT, Int.reduceLE, Int.reduceNeg, Int.reduceAdd, Int.reduceSub, Int.reduceMul, reduceCtorEq, iA, iS, iM, iD, iR, iN, lA, lS, lM, lD, lR, h.1.k, wM_of (q_hasRows h), ha, hm]
    by_cases hx : 0 ≤ x ∧ x ≤ 100
    · have e1 : ¬ x < 0 := by omega
      have e2 : ¬ 100 < x := by omega
      have hk := cK_b h ha
      generalize hK : cK v P s a = K at hk ⊢
      generalize hρ : cR v P s a m = ρ
      simp only [e1, e2, hx, wE_I, wE_V, wE_F, wE_A, wE_N, wE_1, wE_2, wE_D, wE_B, wE_If, wE_C, wE_CV, wE_SL, wE_SA, wA_0, wA_1, wC_B, wC_E, wC_And, wC_Or, wC_Not, wS_Skip, wS_Brk, wS_Cnt, wS_RetV, wS_Ret, wS_Seq, wS_Set, wS_Inc, wS_Do, wS_Put, wS_PutC, wS_Arr, wS_ArrC, wS_If, wS_Sw, wS_F0, wS_F1, wM_q, lu_ap, aL_ap, ct_0, ct_1, ct_2, ct_3, ct_4, ct_5, headD_1, List.mem_cons, List.not_mem_nil, or_false, false_or, or_true, true_or, true_and, and_true, false_and, and_false, not_true_eq_false, not_false_eq_true, if_true, if_false, nr_20, nr_24, nr_40, nr_41, nr_44, pt_lt, pt_ge, pt_eq, pt_ne, pt_gt, pt_le, pt_E, pt_N, pt_F, ite_10, ite_11, ne_eq, and_self, or_self, decide_true, decide_false, Bool.not_true, Bool.not_false, Bool.false_eq_true, Nat.reduceEqDiff, Nat.reduceAdd, Int.reduceEq, Int.reduceLT, Int.reduceLE, Int.reduceNeg, Int.reduceAdd, Int.reduceSub, Int.reduceMul, reduceCtorEq, iA, iS, iM, iD, iR, iN, lA, lS, lM, lD, lR, wM_of (q_rowsUpTo h ha hm), wM_of (q_keptRows h ha), hK, hρ]
      refine wS_For K.toNat (fun j M w => (M 0 = b ∧ M 1 = a ∧ M 2 = m ∧ M 3 = x ∧ M 4 = nP (uP ρ 2000000000) K.toNat ∧ M 5 = K ∧ M 6 = lP (shp K.toNat ρ x) ρ j ∧ M 7 = j) ∧ v = w) (by omega) ?_ ?_ ?_
      · simp [lu_ap, aL_ap, ct_0, ct_2, lP]
      · rintro j M w hj ⟨⟨m0, m1, m2, m3, m4, m5, m6, m7⟩, rfl⟩
        have hjK : 0 ≤ (j : Int) ∧ (j : Int) < K := by omega
        simp only [cX11_share_1, bX11_share_1, uX11_share_1, wE_I, wE_V, wE_F, wE_A, wE_N, wE_1, wE_2, wE_D, wE_B, wE_If, wE_C, wE_CV, wE_SL, wE_SA, wA_0, wA_1, wC_B, wC_E, wC_And, wC_Or, wC_Not, wS_Skip, wS_Brk, wS_Cnt, wS_RetV, wS_Ret, wS_Seq, wS_Set, wS_Inc, wS_Do, wS_Put, wS_PutC, wS_Arr, wS_ArrC, wS_If, wS_Sw, wS_F0, wS_F1, wM_q, lu_ap, aL_ap, ct_0, ct_1, ct_2, ct_3, ct_4, ct_5, headD_1, List.mem_cons, List.not_mem_nil, or_false, false_or, or_true, true_or, true_and, and_true, false_and, and_false, not_true_eq_false, not_false_eq_true, if_true, if_false, nr_20, nr_24, nr_40, nr_41, nr_44, pt_lt, pt_ge, pt_eq, pt_ne, pt_gt, pt_le, pt_E, pt_N, pt_F, ite_10, ite_11, ne_eq, and_self, or_self, decide_true, decide_false, Bool.not_true, Bool.not_false, Bool.false_eq_true, Nat.reduceEqDiff, Nat.reduceAdd, Int.reduceEq, Int.reduceLT, Int.reduceLE, Int.reduceNeg, Int.reduceAdd, Int.reduceSub, Int.reduceMul, reduceCtorEq, iA, iS, iM, iD, iR, iN, lA, lS, lM, lD, lR, h.1.k, m0, m1, m2, m3, m4, m5, m6, m7, wM_of (q_rowTold h ha hm), wM_of (q_rowsUpTo h ha hm), hK, hρ, hjK, w32_s (show j < 1000 by omega)]
        by_cases h1 : ρ j = -2147483648
        · simp [h1, lP, shp]
        · by_cases h2 : w32 (x * nP (uP ρ 2000000000) K.toNat) ≤ w32 (100 * nP (uP ρ (ρ j)) K.toNat)
          · have hp : shp K.toNat ρ x j = true := by simp [shp, h1, h2]
            simp only [h1, h2, lP, hp, wE_I, wE_V, wE_F, wE_A, wE_N, wE_1, wE_2, wE_D, wE_B, wE_If, wE_C, wE_CV, wE_SL, wE_SA, wA_0, wA_1, wC_B, wC_E, wC_And, wC_Or, wC_Not, wS_Skip, wS_Brk, wS_Cnt, wS_RetV, wS_Ret, wS_Seq, wS_Set, wS_Inc, wS_Do, wS_Put, wS_PutC, wS_Arr, wS_ArrC, wS_If, wS_Sw, wS_F0, wS_F1, wM_q, lu_ap, aL_ap, ct_0, ct_1, ct_2, ct_3, ct_4, ct_5, headD_1, List.mem_cons, List.not_mem_nil, or_false, false_or, or_true, true_or, true_and, and_true, false_and, and_false, not_true_eq_false, not_false_eq_true, if_true, if_false, nr_20, nr_24, nr_40, nr_41, nr_44, pt_lt, pt_ge, pt_eq, pt_ne, pt_gt, pt_le, pt_E, pt_N, pt_F, ite_10, ite_11, ne_eq, and_self, or_self, decide_true, decide_false, Bool.not_true, Bool.not_false, Bool.false_eq_true, Nat.reduceEqDiff, Nat.reduceAdd, Int.reduceEq, Int.reduceLT, Int.reduceLE, Int.reduceNeg, Int.reduceAdd, Int.reduceSub, Int.reduceMul, reduceCtorEq]
            by_cases h3 : lP (shp K.toNat ρ x) ρ j = -2147483648
            · simp [h3]
            · by_cases h4 : ρ j < lP (shp K.toNat ρ x) ρ j <;> simp [h3, h4]
          · have hp : shp K.toNat ρ x j = false := by simp [shp, h2]
            simp [h1, h2, lP, hp]
      · rintro M w ⟨⟨m0, m1, m2, m3, m4, m5, m6, m7⟩, rfl⟩
        simp only [cX11_share_1, wE_I, wE_V, wE_F, wE_A, wE_N, wE_1, wE_2, wE_D, wE_B, wE_If, wE_C, wE_CV, wE_SL, wE_SA, wA_0, wA_1, wC_B, wC_E, wC_And, wC_Or, wC_Not, wS_Skip, wS_Brk, wS_Cnt, wS_RetV, wS_Ret, wS_Seq, wS_Set, wS_Inc, wS_Do, wS_Put, wS_PutC, wS_Arr, wS_ArrC, wS_If, wS_Sw, wS_F0, wS_F1, wM_q, lu_ap, aL_ap, ct_0, ct_1, ct_2, ct_3, ct_4, ct_5, headD_1, List.mem_cons, List.not_mem_nil, or_false, false_or, or_true, true_or, true_and, and_true, false_and, and_false, not_true_eq_false, not_false_eq_true, if_true, if_false, nr_20, nr_24, nr_40, nr_41, nr_44, pt_lt, pt_ge, pt_eq, pt_ne, pt_gt, pt_le, pt_E, pt_N, pt_F, ite_10, ite_11, ne_eq, and_self, or_self, decide_true, decide_false, Bool.not_true, Bool.not_false, Bool.false_eq_true, Nat.reduceEqDiff, Nat.reduceAdd, Int.reduceEq, Int.reduceLT, Int.reduceLE, Int.reduceNeg, Int.reduceAdd, Int.reduceSub, Int.reduceMul, reduceCtorEq, iA, iS, iM, iD, iR, iN, lA, lS, lM, lD, lR, m5, m6, m7, fShare]
        omega
    · by_cases h1 : x < 0
      · simp [h1, hx]
      · have h2 : 100 < x := by omega
        simp [h1, h2, hx]
  · simp only [mX11_share, sX11_share, wE_I, wE_V, wE_F, wE_A, wE_N, wE_1, wE_2, wE_D, wE_B, wE_If, wE_C, wE_CV, wE_SL, wE_SA, wA_0, wA_1, wC_B, wC_E, wC_And, wC_Or, wC_Not, wS_Skip, wS_Brk, wS_Cnt, wS_RetV, wS_Ret, wS_Seq, wS_Set, wS_Inc, wS_Do, wS_Put, wS_PutC, wS_Arr, wS_ArrC, wS_If, wS_Sw, wS_F0, wS_F1, wM_q, lu_ap, aL_ap, ct_0, ct_1, ct_2, ct_3, ct_4, ct_5, headD_1, List.mem_cons, List.not_mem_nil, or_false, false_or, or_true, true_or, true_and, and_true, false_and, and_false, not_true_eq_false, not_false_eq_true, if_true, if_false, nr_20, nr_24, nr_40, nr_41, nr_44, pt_lt, pt_ge, pt_eq, pt_ne, pt_gt, pt_le, pt_E, pt_N, pt_F, ite_10, ite_11, ne_eq, and_self, or_self, decide_true, decide_false, Bool.not_true, Bool.not_false, Bool.false_eq_true, Nat.reduceEqDiff, Nat.reduceAdd, Int.reduceEq, Int.reduceLT, Int.reduceLE, Int.reduceNeg, Int.reduceAdd, Int.reduceSub, Int.reduceMul, reduceCtorEq, iA, iS, iM, iD, iR, iN, lA, lS, lM, lD, lR, h.1.k, wM_of (q_hasRows h), h0]
theorem q_wayOf (h : RC S v b P s) {a m i : Int} (ha : 0 ≤ a ∧ a < v P 2) (hm : 0 ≤ m ∧ m < v P 1) (hi : 0 ≤ i ∧ i + 1 < cK v P s a) : mX11_wayOf [b, a, m, i] S v = some (wy (cR v P s a m) i, v) := by
  have hk := cK_b h ha
  apply wM_eq
  generalize hK : cK v P s a = K at hk hi ⊢
  generalize hρ : cR v P s a m = ρ
  have h1 : 0 ≤ i ∧ i < K := by omega
  have h2 : 0 ≤ i + 1 ∧ i + 1 < K := by omega
  have e : w32 (i + 1) = i + 1 := w32_e (by omega)
  simp only [mX11_wayOf, sX11_wayOf, wE_I, wE_V, wE_F, wE_A, wE_N, wE_1, wE_2, wE_D, wE_B, wE_If, wE_C, wE_CV, wE_SL, wE_SA, wA_0, wA_1, wC_B, wC_E, wC_And, wC_Or, wC_Not, wS_Skip, wS_Brk, wS_Cnt, wS_RetV, wS_Ret, wS_Seq, wS_Set, wS_Inc, wS_Do, wS_Put, wS_PutC, wS_Arr, wS_ArrC, wS_If, wS_Sw, wS_F0, wS_F1, wM_q, lu_ap, aL_ap, ct_0, ct_1, ct_2, ct_3, ct_4, ct_5, headD_1, List.mem_cons, List.not_mem_nil, or_false, false_or, or_true, true_or, true_and, and_true, false_and, and_false, not_true_eq_false, not_false_eq_true, if_true, if_false, nr_20, nr_24, nr_40, nr_41, nr_44, pt_lt, pt_ge, pt_eq, pt_ne, pt_gt, pt_le, pt_E, pt_N, pt_F, ite_10, ite_11, ne_eq, and_self, or_self, decide_true, decide_false, Bool.not_true, Bool.not_false, Bool.false_eq_true, Nat.reduceEqDiff, Nat.reduceAdd, Int.reduceEq, Int.reduceLT, Int.reduceLE, Int.reduceNeg, Int.reduceAdd, Int.reduceSub, Int.reduceMul, reduceCtorEq, iA, iS, iM, iD, iR, iN, lA, lS, lM, lD, lR, h.1.k, wM_of (q_rowTold h ha hm), hK, hρ, h1, h2, e]
  unfold wy
  by_cases q1 : ρ i = -2147483648
  · simp [q1]
  · by_cases q2 : ρ (i + 1) = -2147483648
    · simp [q1, q2]
    · by_cases q3 : ρ i = ρ (i + 1)
      · simp [q2, q3]
      · by_cases q4 : ρ (i + 1) < ρ i <;> simp [q1, q2, q3, q4]
theorem q_alike (h : RC S v b P s) {a m n : Int} : mX11_alike [b, a, m, n] S v = some (if ((0 ≤ a ∧ a < v P 2) ∧ (0 ≤ m ∧ m < v P 1)) ∧ 0 ≤ n ∧ n < v P 1 then nP (alp (cR v P s a m) (cR v P s a n)) ((cK v P s a).toNat - 1) else -1, v) := by
  apply wM_eq
  by_cases h0 : (0 ≤ a ∧ a < v P 2) ∧ (0 ≤ m ∧ m < v P 1)
  · obtain ⟨ha, hm⟩ := h0
    simp only [mX11_alike, sX11_alike, wE_I, wE_V, wE_F, wE_A, wE_N, wE_1, wE_2, wE_D, wE_B, wE_If, wE_C, wE_CV, wE_SL, wE_SA, wA_0, wA_1, wC_B, wC_E, wC_And, wC_Or, wC_Not, wS_Skip, wS_Brk, wS_Cnt, wS_RetV, wS_Ret, wS_Seq, wS_Set, wS_Inc, wS_Do, wS_Put, wS_PutC, wS_Arr, wS_ArrC, wS_If, wS_Sw, wS_F0, wS_F1, wM_q, lu_ap, aL_ap, ct_0, ct_1, ct_2, ct_3, ct_4, ct_5, headD_1, List.mem_cons, List.not_mem_nil, or_false, false_or, or_true, true_or, true_and, and_true, false_and, and_false, not_true_eq_false, not_false_eq_true, if_true, if_false, nr_20, nr_24, nr_40, nr_41, nr_44, pt_lt, pt_ge, pt_eq, pt_ne, pt_gt, pt_le, pt_E, pt_N, pt_F, ite_10, ite_11, ne_eq, and_self, or_self, decide_true, decide_false, Bool.not_true, Bool.not_false, Bool.false_eq_true, Nat.reduceEqDiff, Nat.reduceAdd, Int.reduceEq, Int.reduceLT, Int.reduceLE, Int.reduceNeg, Int.reduceAdd, Int.reduceSub, Int.reduceMul, reduceCtorEq, iA, iS, iM, iD, iR, iN, lA, lS, lM, lD, lR, h.1.k, wM_of (q_hasRows h), wM_of (q_isMeasure h), ha, hm]
    by_cases hn : 0 ≤ n ∧ n < v P 1
    · have hk := cK_b h ha
      simp only [hn, wE_I, wE_V, wE_F, wE_A, wE_N, wE_1, wE_2, wE_D, wE_B, wE_If, wE_C, wE_CV, wE_SL, wE_SA, wA_0, wA_1, wC_B, wC_E, wC_And, wC_Or, wC_Not, wS_Skip, wS_Brk, wS_Cnt, wS_RetV, wS_Ret, wS_Seq, wS_Set, wS_Inc, wS_Do, wS_Put, wS_PutC, wS_Arr, wS_ArrC, wS_If, wS_Sw, wS_F0, wS_F1, wM_q, lu_ap, aL_ap, ct_0, ct_1, ct_2, ct_3, ct_4, ct_5, headD_1, List.mem_cons, List.not_mem_nil, or_false, false_or, or_true, true_or, true_and, and_true, false_and, and_false, not_true_eq_false, not_false_eq_true, if_true, if_false, nr_20, nr_24, nr_40, nr_41, nr_44, pt_lt, pt_ge, pt_eq, pt_ne, pt_gt, pt_le, pt_E, pt_N, pt_F, ite_10, ite_11, ne_eq, and_self, or_self, decide_true, decide_false, Bool.not_true, Bool.not_false, Bool.false_eq_true, Nat.reduceEqDiff, Nat.reduceAdd, Int.reduceEq, Int.reduceLT, Int.reduceLE, Int.reduceNeg, Int.reduceAdd, Int.reduceSub, Int.reduceMul, reduceCtorEq, iA, iS, iM, iD, iR, iN, lA, lS, lM, lD, lR, wM_of (q_keptRows h ha)]
      refine wS_For ((cK v P s a).toNat - 1) (fun j M w => (M 0 = b ∧ M 1 = a ∧ M 2 = m ∧ M 3 = n ∧ M 4 = cK v P s a ∧ M 5 = nP (alp (cR v P s a m) (cR v P s a n)) j ∧ M 6 = j) ∧ v = w) (by omega) ?_ ?_ ?_
      · simp [lu_ap, aL_ap, ct_0, ct_2, nP]
      · rintro j M w hj ⟨⟨m0, m1, m2, m3, m4, m5, m6⟩, rfl⟩
        have hjK : 0 ≤ (j : Int) ∧ (j : Int) + 1 < cK v P s a := by omega
        have e : ((j + 1 : Nat) : Int) < cK v P s a := by omega
        simp only [cX11_alike_1, bX11_alike_1, uX11_alike_1, wE_I, wE_V, wE_F, wE_A, wE_N, wE_1, wE_2, wE_D, wE_B, wE_If, wE_C, wE_CV, wE_SL, wE_SA, wA_0, wA_1, wC_B, wC_E, wC_And, wC_Or, wC_Not, wS_Skip, wS_Brk, wS_Cnt, wS_RetV, wS_Ret, wS_Seq, wS_Set, wS_Inc, wS_Do, wS_Put, wS_PutC, wS_Arr, wS_ArrC, wS_If, wS_Sw, wS_F0, wS_F1, wM_q, lu_ap, aL_ap, ct_0, ct_1, ct_2, ct_3, ct_4, ct_5, headD_1, List.mem_cons, List.not_mem_nil, or_false, false_or, or_true, true_or, true_and, and_true, false_and, and_false, not_true_eq_false, not_false_eq_true, if_true, if_false, nr_20, nr_24, nr_40, nr_41, nr_44, pt_lt, pt_ge, pt_eq, pt_ne, pt_gt, pt_le, pt_E, pt_N, pt_F, ite_10, ite_11, ne_eq, and_self, or_self, decide_true, decide_false, Bool.not_true, Bool.not_false, Bool.false_eq_true, Nat.reduceEqDiff, Nat.reduceAdd, Int.reduceEq, Int.reduceLT, Int.reduceLE, Int.reduceNeg, Int.reduceAdd, Int.reduceSub, Int.reduceMul, reduceCtorEq, iA, iS, iM, iD, iR, iN, lA, lS, lM, lD, lR, h.1.k, m0, m1, m2, m3, m4, m5, m6, wM_of (q_wayOf h ha hm hjK), wM_of (q_wayOf h ha hn hjK), w32_s (show j < 1000 by omega), w32_n _ (show j < 1000 by omega), e]
        generalize cR v P s a m = ρ
        generalize cR v P s a n = σ
        by_cases h1 : wy ρ j = 0
        · simp [h1, nP, alp]
        · by_cases h2 : wy ρ j = wy σ j
          · have h3 : ¬ wy σ j = 0 := h2 ▸ h1
            simp [h2, h3, nP, alp]
          · simp [h1, h2, nP, alp]
      · rintro M w ⟨⟨m0, m1, m2, m3, m4, m5, m6⟩, rfl⟩
        have e := w32_s (show (cK v P s a).toNat - 1 < 1000 by omega)
        simp only [cX11_alike_1, wE_I, wE_V, wE_F, wE_A, wE_N, wE_1, wE_2, wE_D, wE_B, wE_If, wE_C, wE_CV, wE_SL, wE_SA, wA_0, wA_1, wC_B, wC_E, wC_And, wC_Or, wC_Not, wS_Skip, wS_Brk, wS_Cnt, wS_RetV, wS_Ret, wS_Seq, wS_Set, wS_Inc, wS_Do, wS_Put, wS_PutC, wS_Arr, wS_ArrC, wS_If, wS_Sw, wS_F0, wS_F1, wM_q, lu_ap, aL_ap, ct_0, ct_1, ct_2, ct_3, ct_4, ct_5, headD_1, List.mem_cons, List.not_mem_nil, or_false, false_or, or_true, true_or, true_and, and_true, false_and, and_false, not_true_eq_false, not_false_eq_true, if_true, if_false, nr_20, nr_24, nr_40, nr_41, nr_44, pt_lt, pt_ge, pt_eq, pt_ne, pt_gt, pt_le, pt_E, pt_N, pt_F, ite_10, ite_11, ne_eq, and_self, or_self, decide_true, decide_false, Bool.not_true, Bool.not_false, Bool.false_eq_true, Nat.reduceEqDiff, Nat.reduceAdd, Int.reduceEq, Int.reduceLT, Int.reduceLE, Int.reduceNeg, Int.reduceAdd, Int.reduceSub, Int.reduceMul, reduceCtorEq, iA, iS, iM, iD, iR, iN, lA, lS, lM, lD, lR, m4, m5, m6, e]
        clear e
        omega
    · simp only [hn, wE_I, wE_V, wE_F, wE_A, wE_N, wE_1, wE_2, wE_D, wE_B, wE_If, wE_C, wE_CV, wE_SL, wE_SA, wA_0, wA_1, wC_B, wC_E, wC_And, wC_Or, wC_Not, wS_Skip, wS_Brk, wS_Cnt, wS_RetV, wS_Ret, wS_Seq, wS_Set, wS_Inc, wS_Do, wS_Put, wS_PutC, wS_Arr, wS_ArrC, wS_If, wS_Sw, wS_F0, wS_F1, wM_q, lu_ap, aL_ap, ct_0, ct_1, ct_2, ct_3, ct_4, ct_5, headD_1, List.mem_cons, List.not_mem_nil, or_false, false_or, or_true, true_or, true_and, and_true, false_and, and_false, not_true_eq_false, not_false_eq_true, if_true, if_false, nr_20, nr_24, nr_40, nr_41, nr_44, pt_lt, pt_ge, pt_eq, pt_ne, pt_gt, pt_le, pt_E, pt_N, pt_F, ite_10, ite_11, ne_eq, and_self, or_self, decide_true, decide_false, Bool.not_true, Bool.not_false, Bool.false_eq_true, Nat.reduceEqDiff, Nat.reduceAdd, Int.reduceEq, Int.reduceLT, Int.reduceLE, Int.reduceNeg, Int.reduceAdd, Int.reduceSub, Int.reduceMul, reduceCtorEq, iA, iS, iM, iD, iR, iN, lA, lS, lM, lD, lR]
  · simp only [mX11_alike, sX11_alike, wE_I, wE_V, wE_F, wE_A, wE_N, wE_1, wE_2, wE_D, wE_B, wE_If, wE_C, wE_CV, wE_SL, wE_SA, wA_0, wA_1, wC_B, wC_E, wC_And, wC_Or, wC_Not, wS_Skip, wS_Brk, wS_Cnt, wS_RetV, wS_Ret, wS_Seq, wS_Set, wS_Inc, wS_Do, wS_Put, wS_PutC, wS_Arr, wS_ArrC, wS_If, wS_Sw, wS_F0, wS_F1, wM_q, lu_ap, aL_ap, ct_0, ct_1, ct_2, ct_3, ct_4, ct_5, headD_1, List.mem_cons, List.not_mem_nil, or_false, false_or, or_true, true_or, true_and, and_true, false_and, and_false, not_true_eq_false, not_false_eq_true, if_true, if_false, nr_20, nr_24, nr_40, nr_41, nr_44, pt_lt, pt_ge, pt_eq, pt_ne, pt_gt, pt_le, pt_E, pt_N, pt_F, ite_10, ite_11, ne_eq, and_self, or_self, decide_true, decide_false, Bool.not_true, Bool.not_false, Bool.false_eq_true, Nat.reduceEqDiff, Nat.reduceAdd, Int.reduceEq, Int.reduceLT, Int.reduceLE, Int.reduceNeg, Int.reduceAdd, Int.reduceSub, Int.reduceMul, reduceCtorEq, iA, iS, iM, iD, iR, iN, lA, lS, lM, lD, lR, h.1.k, wM_of (q_hasRows h), h0]
theorem q_row (h : RC S v b P s) {a m i : Int} : mX11_row [b, a, m, i] S v = some (if ((0 ≤ a ∧ a < v P 2) ∧ (0 ≤ m ∧ m < v P 1)) ∧ 0 ≤ i ∧ i < cK v P s a then cR v P s a m i else -2147483648, v) := by
  apply wM_eq
  by_cases h0 : (0 ≤ a ∧ a < v P 2) ∧ (0 ≤ m ∧ m < v P 1)
  · obtain ⟨ha, hm⟩ := h0
    simp only [mX11_row, sX11_row, wE_I, wE_V, wE_F, wE_A, wE_N, wE_1, wE_2, wE_D, wE_B, wE_If, wE_C, wE_CV, wE_SL, wE_SA, wA_0, wA_1, wC_B, wC_E, wC_And, wC_Or, wC_Not, wS_Skip, wS_Brk, wS_Cnt, wS_RetV, wS_Ret, wS_Seq, wS_Set, wS_Inc, wS_Do, wS_Put, wS_PutC, wS_Arr, wS_ArrC, wS_If, wS_Sw, wS_F0, wS_F1, wM_q, lu_ap, aL_ap, ct_0, ct_1, ct_2, ct_3, ct_4, ct_5, headD_1, List.mem_cons, List.not_mem_nil, or_false, false_or, or_true, true_or, true_and, and_true, false_and, and_false, not_true_eq_false, not_false_eq_true, if_true, if_false, nr_20, nr_24, nr_40, nr_41, nr_44, pt_lt, pt_ge, pt_eq, pt_ne, pt_gt, pt_le, pt_E, pt_N, pt_F, ite_10, ite_11, ne_eq, and_self, or_self, decide_true, decide_false, Bool.not_true, Bool.not_false, Bool.false_eq_true, Nat.reduceEqDiff, Nat.reduceAdd, Int.reduceEq, Int.reduceLT, Int.reduceLE, Int.reduceNeg, Int.reduceAdd, Int.reduceSub, Int.reduceMul, reduceCtorEq, iA, iS, iM, iD, iR, iN, lA, lS, lM, lD, lR, h.1.k, wM_of (q_hasRows h), ha, hm, wM_of (q_rowTold h ha hm)]
  · simp only [mX11_row, sX11_row, wE_I, wE_V, wE_F, wE_A, wE_N, wE_1, wE_2, wE_D, wE_B, wE_If, wE_C, wE_CV, wE_SL, wE_SA, wA_0, wA_1, wC_B, wC_E, wC_And, wC_Or, wC_Not, wS_Skip, wS_Brk, wS_Cnt, wS_RetV, wS_Ret, wS_Seq, wS_Set, wS_Inc, wS_Do, wS_Put, wS_PutC, wS_Arr, wS_ArrC, wS_If, wS_Sw, wS_F0, wS_F1, wM_q, lu_ap, aL_ap, ct_0, ct_1, ct_2, ct_3, ct_4, ct_5, headD_1, List.mem_cons, List.not_mem_nil, or_false, false_or, or_true, true_or, true_and, and_true, false_and, and_false, not_true_eq_false, not_false_eq_true, if_true, if_false, nr_20, nr_24, nr_40, nr_41, nr_44, pt_lt, pt_ge, pt_eq, pt_ne, pt_gt, pt_le, pt_E, pt_N, pt_F, ite_10, ite_11, ne_eq, and_self, or_self, decide_true, decide_false, Bool.not_true, Bool.not_false, Bool.false_eq_true, Nat.reduceEqDiff, Nat.reduceAdd, Int.reduceEq, Int.reduceLT, Int.reduceLE, Int.reduceNeg, Int.reduceAdd, Int.reduceSub, Int.reduceMul, reduceCtorEq, iA, iS, iM, iD, iR, iN, lA, lS, lM, lD, lR, h.1.k, wM_of (q_hasRows h), h0]
theorem q_left (h : RC S v b P s) {a : Int} : mX11_left [b, a] S v = some (if 0 ≤ a ∧ a < v P 2 then w32 (cU v P a - v s 0 % cU v P a) else -1, v) := by
  apply wM_eq
  by_cases ha : 0 ≤ a ∧ a < v P 2
  · have hu := cU_b h ha
    have ht := h.2.2.2.2.2.2.2.2.2
    simp only [mX11_left, sX11_left, wE_I, wE_V, wE_F, wE_A, wE_N, wE_1, wE_2, wE_D, wE_B, wE_If, wE_C, wE_CV, wE_SL, wE_SA, wA_0, wA_1, wC_B, wC_E, wC_And, wC_Or, wC_Not, wS_Skip, wS_Brk, wS_Cnt, wS_RetV, wS_Ret, wS_Seq, wS_Set, wS_Inc, wS_Do, wS_Put, wS_PutC, wS_Arr, wS_ArrC, wS_If, wS_Sw, wS_F0, wS_F1, wM_q, lu_ap, aL_ap, ct_0, ct_1, ct_2, ct_3, ct_4, ct_5, headD_1, List.mem_cons, List.not_mem_nil, or_false, false_or, or_true, true_or, true_and, and_true, false_and, and_false, not_true_eq_false, not_false_eq_true, if_true, if_false, nr_20, nr_24, nr_40, nr_41, nr_44, pt_lt, pt_ge, pt_eq, pt_ne, pt_gt, pt_le, pt_E, pt_N, pt_F, ite_10, ite_11, ne_eq, and_self, or_self, decide_true, decide_false, Bool.not_true, Bool.not_false, Bool.false_eq_true, Nat.reduceEqDiff, Nat.reduceAdd, Int.reduceEq, Int.reduceLT, Int.reduceLE, Int.reduceNeg, Int.reduceAdd, Int.reduceSub, Int.reduceMul, reduceCtorEq, iA, iS, iM, iD, iR, iN, lA, lS, lM, lD, lR, h.1.k, wM_of (q_isArchive h), ha, wM_of (q_rowUnits h ha), wM_of (q_now h), h.st.k]
    rw [wM_of (q_rem ⟨ht.1, by omega⟩ (by omega))]
    exact ⟨rfl, rfl⟩
  · simp only [mX11_left, sX11_left, wE_I, wE_V, wE_F, wE_A, wE_N, wE_1, wE_2, wE_D, wE_B, wE_If, wE_C, wE_CV, wE_SL, wE_SA, wA_0, wA_1, wC_B, wC_E, wC_And, wC_Or, wC_Not, wS_Skip, wS_Brk, wS_Cnt, wS_RetV, wS_Ret, wS_Seq, wS_Set, wS_Inc, wS_Do, wS_Put, wS_PutC, wS_Arr, wS_ArrC, wS_If, wS_Sw, wS_F0, wS_F1, wM_q, lu_ap, aL_ap, ct_0, ct_1, ct_2, ct_3, ct_4, ct_5, headD_1, List.mem_cons, List.not_mem_nil, or_false, false_or, or_true, true_or, true_and, and_true, false_and, and_false, not_true_eq_false, not_false_eq_true, if_true, if_false, nr_20, nr_24, nr_40, nr_41, nr_44, pt_lt, pt_ge, pt_eq, pt_ne, pt_gt, pt_le, pt_E, pt_N, pt_F, ite_10, ite_11, ne_eq, and_self, or_self, decide_true, decide_false, Bool.not_true, Bool.not_false, Bool.false_eq_true, Nat.reduceEqDiff, Nat.reduceAdd, Int.reduceEq, Int.reduceLT, Int.reduceLE, Int.reduceNeg, Int.reduceAdd, Int.reduceSub, Int.reduceMul, reduceCtorEq, iA, iS, iM, iD, iR, iN, lA, lS, lM, lD, lR, h.1.k, wM_of (q_isArchive h), ha]
theorem q_archive (h : RC S v b P s) {a x : Int} : mX11_archive [b, a, x] S v = some (if 0 ≤ a ∧ a < v P 2 then (if x = 0 then v (P + (13 + a)) 0 else if x = 1 then v (P + (13 + a)) 1 else if x = 2 then v (P + (13 + a)) 2 else if x = 3 then v (P + (13 + a)) 3 else if x = 4 then cK v P s a else if x = 5 then (if cK v P s a = 0 then -1 else cD v P s a * cU v P a) else if x = 6 then v s 0 / v P 0 % v (P + (13 + a)) 1 else -1) else -1, v) := by
  apply wM_eq
  by_cases ha : 0 ≤ a ∧ a < v P 2
  · have hL := h.pl
    have hd := cD_b h ha
    have ht := h.2.2.2.2.2.2.2.2.2
    have h6 := h.2.2.2.2.2.1
    have h4 : a < 4 := by have := h.2.2.2.2.2.2.2.1; omega
    have hp := (h.2.2.2.2.2.2.2.2.1 a ha.1 ha.2).1
    have h1 := Int.ediv_nonneg ht.1 (show 0 ≤ v P 0 by omega)
    have h2 := Int.ediv_le_self (v P 0) ht.1
    simp only [mX11_archive, sX11_archive, wE_I, wE_V, wE_F, wE_A, wE_N, wE_1, wE_2, wE_D, wE_B, wE_If, wE_C, wE_CV, wE_SL, wE_SA, wA_0, wA_1, wC_B, wC_E, wC_And, wC_Or, wC_Not, wS_Skip, wS_Brk, wS_Cnt, wS_RetV, wS_Ret, wS_Seq, wS_Set, wS_Inc, wS_Do, wS_Put, wS_PutC, wS_Arr, wS_ArrC, wS_If, wS_Sw, wS_F0, wS_F1, wM_q, lu_ap, aL_ap, ct_0, ct_1, ct_2, ct_3, ct_4, ct_5, headD_1, List.mem_cons, List.not_mem_nil, or_false, false_or, or_true, true_or, true_and, and_true, false_and, and_false, not_true_eq_false, not_false_eq_true, if_true, if_false, nr_20, nr_24, nr_40, nr_41, nr_44, pt_lt, pt_ge, pt_eq, pt_ne, pt_gt, pt_le, pt_E, pt_N, pt_F, ite_10, ite_11, ne_eq, and_self, or_self, decide_true, decide_false, Bool.not_true, Bool.not_false, Bool.false_eq_true, Nat.reduceEqDiff, Nat.reduceAdd, Int.reduceEq, Int.reduceLT, Int.reduceLE, Int.reduceNeg, Int.reduceAdd, Int.reduceSub, Int.reduceMul, reduceCtorEq, iA, iS, iM, iD, iR, iN, lA, lS, lM, lD, lR, h.1.k, h.2.1, wM_of (q_isArchive h), ha, hL.k, hL.p4, hL.a2, hL.n2, hL.ea _ ha.1 h4, hL.a _ ha.1 h4, ha.1, h4, wM_of (q_keptRows h ha), wM_of (q_stepsOver h), wM_of (q_rowEnd h ha ⟨Int.le_refl 0, hd.1⟩), wM_of (q_rem (S := S) (v := v) (y := v (P + (13 + a)) 1) ⟨h1, Int.le_trans h2 (by omega)⟩ (by omega))]
    by_cases x0 : x = 0
    · simp [x0]
    · by_cases x1 : x = 1
      · simp [x1]
      · by_cases x2 : x = 2
        · simp [x2]
        · by_cases x3 : x = 3
          · simp [x3]
          · by_cases x4 : x = 4
            · simp [x4]
            · by_cases x5 : x = 5
              · by_cases hk : cK v P s a = 0 <;> simp [x5, hk]
              · by_cases x6 : x = 6
                · simp [x6]
                · simp [x0, x1, x2, x3, x4, x5, x6]
  · simp only [mX11_archive, sX11_archive, wE_I, wE_V, wE_F, wE_A, wE_N, wE_1, wE_2, wE_D, wE_B, wE_If, wE_C, wE_CV, wE_SL, wE_SA, wA_0, wA_1, wC_B, wC_E, wC_And, wC_Or, wC_Not, wS_Skip, wS_Brk, wS_Cnt, wS_RetV, wS_Ret, wS_Seq, wS_Set, wS_Inc, wS_Do, wS_Put, wS_PutC, wS_Arr, wS_ArrC, wS_If, wS_Sw, wS_F0, wS_F1, wM_q, lu_ap, aL_ap, ct_0, ct_1, ct_2, ct_3, ct_4, ct_5, headD_1, List.mem_cons, List.not_mem_nil, or_false, false_or, or_true, true_or, true_and, and_true, false_and, and_false, not_true_eq_false, not_false_eq_true, if_true, if_false, nr_20, nr_24, nr_40, nr_41, nr_44, pt_lt, pt_ge, pt_eq, pt_ne, pt_gt, pt_le, pt_E, pt_N, pt_F, ite_10, ite_11, ne_eq, and_self, or_self, decide_true, decide_false, Bool.not_true, Bool.not_false, Bool.false_eq_true, Nat.reduceEqDiff, Nat.reduceAdd, Int.reduceEq, Int.reduceLT, Int.reduceLE, Int.reduceNeg, Int.reduceAdd, Int.reduceSub, Int.reduceMul, reduceCtorEq, iA, iS, iM, iD, iR, iN, lA, lS, lM, lD, lR, h.1.k, wM_of (q_isArchive h), ha]
theorem q_gap (h : RC S v b P s) {a m x : Int} : mX11_gap [b, a, m, x] S v = some (if (0 ≤ a ∧ a < v P 2) ∧ (0 ≤ m ∧ m < v P 1) then (if x = 0 then gm (cR v P s a m) (cK v P s a).toNat else if x = 1 then ga (cR v P s a m) (cK v P s a).toNat else -1) else -1, v) := by
  apply wM_eq
  by_cases h0 : (0 ≤ a ∧ a < v P 2) ∧ (0 ≤ m ∧ m < v P 1)
  · obtain ⟨ha, hm⟩ := h0
    have hk := cK_b h ha
    generalize hK : cK v P s a = K at hk ⊢
    generalize hρ : cR v P s a m = ρ
    simp only [mX11_gap, sX11_gap, wE_I, wE_V, wE_F, wE_A, wE_N, wE_1, wE_2, wE_D, wE_B, wE_If, wE_C, wE_CV, wE_SL, wE_SA, wA_0, wA_1, wC_B, wC_E, wC_And, wC_Or, wC_Not, wS_Skip, wS_Brk, wS_Cnt, wS_RetV, wS_Ret, wS_Seq, wS_Set, wS_Inc, wS_Do, wS_Put, wS_PutC, wS_Arr, wS_ArrC, wS_If, wS_Sw, wS_F0, wS_F1, wM_q, lu_ap, aL_ap, ct_0, ct_1, ct_2, ct_3, ct_4, ct_5, headD_1, List.mem_cons, List.not_mem_nil, or_false, false_or, or_true, true_or, true_and, and_true, false_and, and_false, not_true_eq_false, not_false_eq_true, if_true, if_false, nr_20, nr_24, nr_40, nr_41, nr_44, pt_lt, pt_ge, pt_eq, pt_ne, pt_gt, pt_le, pt_E, pt_N, pt_F, ite_10, ite_11, ne_eq, and_self, or_self, decide_true, decide_false, Bool.not_true, Bool.not_false, Bool.false_eq_true, Nat.reduceEqDiff, Nat.reduceAdd, Int.reduceEq, Int.reduceLT, Int.reduceLE, Int.reduceNeg, Int.reduceAdd, Int.reduceSub, Int.reduceMul, reduceCtorEq, iA, iS, iM, iD, iR, iN, lA, lS, lM, lD, lR, h.1.k, wM_of (q_hasRows h), ha, hm, wM_of (q_keptRows h ha), hK]
    refine wS_For K.toNat (fun j M w => (M 0 = b ∧ M 1 = a ∧ M 2 = m ∧ M 3 = x ∧ M 4 = K ∧ M 5 = gm ρ j ∧ M 6 = ga ρ j ∧ M 7 = gr ρ j ∧ M 8 = j) ∧ v = w) (by omega) ?_ ?_ ?_
    · simp [lu_ap, aL_ap, ct_0, ct_2, gm, ga, gr]
    · rintro j M w hj ⟨⟨m0, m1, m2, m3, m4, m5, m6, m7, m8⟩, rfl⟩
      have hjK : 0 ≤ (j : Int) ∧ (j : Int) < K := by omega
      have b1 := gr_b ρ j
      have b2 := gr_b ρ (j + 1)
      have e1 : w32 (gr ρ j + 1) = gr ρ j + 1 := w32_e (by omega)
      have e2 : w32 (w32 ((j : Int) - gr ρ (j + 1)) + 1) = j - gr ρ (j + 1) + 1 := by
        clear e1
        generalize gr ρ (j + 1) = g at b2 ⊢
        rw [w32_e (z := (j : Int) - g) (by omega)]
        exact w32_e (by omega)
      simp only [cX11_gap_1, bX11_gap_1, uX11_gap_1, wE_I, wE_V, wE_F, wE_A, wE_N, wE_1, wE_2, wE_D, wE_B, wE_If, wE_C, wE_CV, wE_SL, wE_SA, wA_0, wA_1, wC_B, wC_E, wC_And, wC_Or, wC_Not, wS_Skip, wS_Brk, wS_Cnt, wS_RetV, wS_Ret, wS_Seq, wS_Set, wS_Inc, wS_Do, wS_Put, wS_PutC, wS_Arr, wS_ArrC, wS_If, wS_Sw, wS_F0, wS_F1, wM_q, lu_ap, aL_ap, ct_0, ct_1, ct_2, ct_3, ct_4, ct_5, headD_1, List.mem_cons, List.not_mem_nil, or_false, false_or, or_true, true_or, true_and, and_true, false_and, and_false, not_true_eq_false, not_false_eq_true, if_true, if_false, nr_20, nr_24, nr_40, nr_41, nr_44, pt_lt, pt_ge, pt_eq, pt_ne, pt_gt, pt_le, pt_E, pt_N, pt_F, ite_10, ite_11, ne_eq, and_self, or_self, decide_true, decide_false, Bool.not_true, Bool.not_false, Bool.false_eq_true, Nat.reduceEqDiff, Nat.reduceAdd, Int.reduceEq, Int.reduceLT, Int.reduceLE, Int.reduceNeg, Int.reduceAdd, Int.reduceSub, Int.reduceMul, reduceCtorEq, iA, iS, iM, iD, iR, iN, lA, lS, lM, lD, lR, h.1.k, m0, m1, m2, m3, m4, m5, m6, m7, m8, wM_of (q_rowTold h ha hm), hK, hρ, hjK, w32_s (show j < 1000 by omega), e1]
      have hg : gr ρ (j + 1) = if ρ j = -2147483648 then gr ρ j + 1 else 0 := rfl
      by_cases h1 : ρ j = -2147483648
      · rw [if_pos h1] at hg
        rw [hg] at e2
        simp only [h1, if_true, gm, ga, hg, e2]
        by_cases h2 : gm ρ j < gr ρ j + 1 <;> simp [h2]
      · rw [if_neg h1] at hg
        rw [hg] at e2
        simp only [h1, if_false, gm, ga, hg, e2]
        by_cases h2 : gm ρ j < 0 <;> simp [h2]
    · rintro M w ⟨⟨m0, m1, m2, m3, m4, m5, m6, m7, m8⟩, rfl⟩
      simp only [cX11_gap_1, wE_I, wE_V, wE_F, wE_A, wE_N, wE_1, wE_2, wE_D, wE_B, wE_If, wE_C, wE_CV, wE_SL, wE_SA, wA_0, wA_1, wC_B, wC_E, wC_And, wC_Or, wC_Not, wS_Skip, wS_Brk, wS_Cnt, wS_RetV, wS_Ret, wS_Seq, wS_Set, wS_Inc, wS_Do, wS_Put, wS_PutC, wS_Arr, wS_ArrC, wS_If, wS_Sw, wS_F0, wS_F1, wM_q, lu_ap, aL_ap, ct_0, ct_1, ct_2, ct_3, ct_4, ct_5, headD_1, List.mem_cons, List.not_mem_nil, or_false, false_or, or_true, true_or, true_and, and_true, false_and, and_false, not_true_eq_false, not_false_eq_true, if_true, if_false, nr_20, nr_24, nr_40, nr_41, nr_44, pt_lt, pt_ge, pt_eq, pt_ne, pt_gt, pt_le, pt_E, pt_N, pt_F, ite_10, ite_11, ne_eq, and_self, or_self, decide_true, decide_false, Bool.not_true, Bool.not_false, Bool.false_eq_true, Nat.reduceEqDiff, Nat.reduceAdd, Int.reduceEq, Int.reduceLT, Int.reduceLE, Int.reduceNeg, Int.reduceAdd, Int.reduceSub, Int.reduceMul, reduceCtorEq, iA, iS, iM, iD, iR, iN, lA, lS, lM, lD, lR, m3, m4, m5, m6, m8]
      refine ⟨by omega, ?_⟩
      by_cases x0 : x = 0
      · simp [x0]
      · by_cases x1 : x = 1
        · simp [x1]
        · simp [x0, x1]
  · simp only [mX11_gap, sX11_gap, wE_I, wE_V, wE_F, wE_A, wE_N, wE_1, wE_2, wE_D, wE_B, wE_If, wE_C, wE_CV, wE_SL, wE_SA, wA_0, wA_1, wC_B, wC_E, wC_And, wC_Or, wC_Not, wS_Skip, wS_Brk, wS_Cnt, wS_RetV, wS_Ret, wS_Seq, wS_Set, wS_Inc, wS_Do, wS_Put, wS_PutC, wS_Arr, wS_ArrC, wS_If, wS_Sw, wS_F0, wS_F1, wM_q, lu_ap, aL_ap, ct_0, ct_1, ct_2, ct_3, ct_4, ct_5, headD_1, List.mem_cons, List.not_mem_nil, or_false, false_or, or_true, true_or, true_and, and_true, false_and, and_false, not_true_eq_false, not_false_eq_true, if_true, if_false, nr_20, nr_24, nr_40, nr_41, nr_44, pt_lt, pt_ge, pt_eq, pt_ne, pt_gt, pt_le, pt_E, pt_N, pt_F, ite_10, ite_11, ne_eq, and_self, or_self, decide_true, decide_false, Bool.not_true, Bool.not_false, Bool.false_eq_true, Nat.reduceEqDiff, Nat.reduceAdd, Int.reduceEq, Int.reduceLT, Int.reduceLE, Int.reduceNeg, Int.reduceAdd, Int.reduceSub, Int.reduceMul, reduceCtorEq, iA, iS, iM, iD, iR, iN, lA, lS, lM, lD, lR, h.1.k, wM_of (q_hasRows h), h0]
theorem q_rowAt (h : RC S v b P s) {a t : Int} : mX11_rowAt [b, a, t] S v = some (if 0 ≤ a ∧ a < v P 2 then fP (ra (cU v P a) (cD v P s a) t) (cK v P s a).toNat 0 else -1, v) := by
  apply wM_eq
  by_cases ha : 0 ≤ a ∧ a < v P 2
  · have hk := cK_b h ha
    simp only [mX11_rowAt, sX11_rowAt, wE_I, wE_V, wE_F, wE_A, wE_N, wE_1, wE_2, wE_D, wE_B, wE_If, wE_C, wE_CV, wE_SL, wE_SA, wA_0, wA_1, wC_B, wC_E, wC_And, wC_Or, wC_Not, wS_Skip, wS_Brk, wS_Cnt, wS_RetV, wS_Ret, wS_Seq, wS_Set, wS_Inc, wS_Do, wS_Put, wS_PutC, wS_Arr, wS_ArrC, wS_If, wS_Sw, wS_F0, wS_F1, wM_q, lu_ap, aL_ap, ct_0, ct_1, ct_2, ct_3, ct_4, ct_5, headD_1, List.mem_cons, List.not_mem_nil, or_false, false_or, or_true, true_or, true_and, and_true, false_and, and_false, not_true_eq_false, not_false_eq_true, if_true, if_false, nr_20, nr_24, nr_40, nr_41, nr_44, pt_lt, pt_ge, pt_eq, pt_ne, pt_gt, pt_le, pt_E, pt_N, pt_F, ite_10, ite_11, ne_eq, and_self, or_self, decide_true, decide_false, Bool.not_true, Bool.not_false, Bool.false_eq_true, Nat.reduceEqDiff, Nat.reduceAdd, Int.reduceEq, Int.reduceLT, Int.reduceLE, Int.reduceNeg, Int.reduceAdd, Int.reduceSub, Int.reduceMul, reduceCtorEq, iA, iS, iM, iD, iR, iN, lA, lS, lM, lD, lR, h.1.k, wM_of (q_isArchive h), ha, wM_of (q_keptRows h ha)]
    generalize hK : cK v P s a = K at hk ⊢
    generalize hU : cU v P a = U
    generalize hD : cD v P s a = D at hk ⊢
    refine wS_For K.toNat (fun j M w => (M 0 = b ∧ M 1 = a ∧ M 2 = t ∧ M 3 = K ∧ M 4 = j) ∧ fP (ra U D t) K.toNat 0 = fP (ra U D t) (K.toNat - j) j ∧ v = w) (by omega) ?_ ?_ ?_
    · simp [lu_ap, aL_ap, ct_0, ct_2]
    · rintro j M w hj ⟨⟨m0, m1, m2, m3, m4⟩, hf, rfl⟩
      have hjD : 0 ≤ (j : Int) ∧ (j : Int) ≤ cD v P s a := by rw [hD]; omega
      have hjK : (j : Int) < K := by omega
      have e : K.toNat - j = (K.toNat - (j + 1)) + 1 := by omega
      rw [e] at hf
      simp only [cX11_rowAt_1, bX11_rowAt_1, uX11_rowAt_1, wE_I, wE_V, wE_F, wE_A, wE_N, wE_1, wE_2, wE_D, wE_B, wE_If, wE_C, wE_CV, wE_SL, wE_SA, wA_0, wA_1, wC_B, wC_E, wC_And, wC_Or, wC_Not, wS_Skip, wS_Brk, wS_Cnt, wS_RetV, wS_Ret, wS_Seq, wS_Set, wS_Inc, wS_Do, wS_Put, wS_PutC, wS_Arr, wS_ArrC, wS_If, wS_Sw, wS_F0, wS_F1, wM_q, lu_ap, aL_ap, ct_0, ct_1, ct_2, ct_3, ct_4, ct_5, headD_1, List.mem_cons, List.not_mem_nil, or_false, false_or, or_true, true_or, true_and, and_true, false_and, and_false, not_true_eq_false, not_false_eq_true, if_true, if_false, nr_20, nr_24, nr_40, nr_41, nr_44, pt_lt, pt_ge, pt_eq, pt_ne, pt_gt, pt_le, pt_E, pt_N, pt_F, ite_10, ite_11, ne_eq, and_self, or_self, decide_true, decide_false, Bool.not_true, Bool.not_false, Bool.false_eq_true, Nat.reduceEqDiff, Nat.reduceAdd, Int.reduceEq, Int.reduceLT, Int.reduceLE, Int.reduceNeg, Int.reduceAdd, Int.reduceSub, Int.reduceMul, reduceCtorEq, iA, iS, iM, iD, iR, iN, lA, lS, lM, lD, lR, h.1.k, m0, m1, m2, m3, m4, wM_of (q_rowBegin h ha hjD), wM_of (q_rowEnd h ha hjD), hU, hD, hjK, w32_s (show j < 1000 by omega)]
      rw [fP_s] at hf
      by_cases h1 : (D - j) * U - U < t ∧ t ≤ (D - j) * U
      · have hr : ra U D t j = true := by simp [ra, h1]
        simp only [hr, if_true] at hf
        simp [h1, hf]
      · have hr : ¬ ra U D t j = true := by simpa [ra] using h1
        simp only [hr] at hf
        by_cases h2 : (D - j) * U - U < t
        · have h3 : ¬ t ≤ (D - j) * U := fun q => h1 ⟨h2, q⟩
          simp [h2, h3, hf]
        · simp [h2, hf]
    · rintro M w ⟨⟨m0, m1, m2, m3, m4⟩, hf, rfl⟩
      simp only [cX11_rowAt_1, wE_I, wE_V, wE_F, wE_A, wE_N, wE_1, wE_2, wE_D, wE_B, wE_If, wE_C, wE_CV, wE_SL, wE_SA, wA_0, wA_1, wC_B, wC_E, wC_And, wC_Or, wC_Not, wS_Skip, wS_Brk, wS_Cnt, wS_RetV, wS_Ret, wS_Seq, wS_Set, wS_Inc, wS_Do, wS_Put, wS_PutC, wS_Arr, wS_ArrC, wS_If, wS_Sw, wS_F0, wS_F1, wM_q, lu_ap, aL_ap, ct_0, ct_1, ct_2, ct_3, ct_4, ct_5, headD_1, List.mem_cons, List.not_mem_nil, or_false, false_or, or_true, true_or, true_and, and_true, false_and, and_false, not_true_eq_false, not_false_eq_true, if_true, if_false, nr_20, nr_24, nr_40, nr_41, nr_44, pt_lt, pt_ge, pt_eq, pt_ne, pt_gt, pt_le, pt_E, pt_N, pt_F, ite_10, ite_11, ne_eq, and_self, or_self, decide_true, decide_false, Bool.not_true, Bool.not_false, Bool.false_eq_true, Nat.reduceEqDiff, Nat.reduceAdd, Int.reduceEq, Int.reduceLT, Int.reduceLE, Int.reduceNeg, Int.reduceAdd, Int.reduceSub, Int.reduceMul, reduceCtorEq, iA, iS, iM, iD, iR, iN, lA, lS, lM, lD, lR, m3, m4]
      rw [Nat.sub_self] at hf
      refine ⟨by omega, hf.symm⟩
  · simp only [mX11_rowAt, sX11_rowAt, wE_I, wE_V, wE_F, wE_A, wE_N, wE_1, wE_2, wE_D, wE_B, wE_If, wE_C, wE_CV, wE_SL, wE_SA, wA_0, wA_1, wC_B, wC_E, wC_And, wC_Or, wC_Not, wS_Skip, wS_Brk, wS_Cnt, wS_RetV, wS_Ret, wS_Seq, wS_Set, wS_Inc, wS_Do, wS_Put, wS_PutC, wS_Arr, wS_ArrC, wS_If, wS_Sw, wS_F0, wS_F1, wM_q, lu_ap, aL_ap, ct_0, ct_1, ct_2, ct_3, ct_4, ct_5, headD_1, List.mem_cons, List.not_mem_nil, or_false, false_or, or_true, true_or, true_and, and_true, false_and, and_false, not_true_eq_false, not_false_eq_true, if_true, if_false, nr_20, nr_24, nr_40, nr_41, nr_44, pt_lt, pt_ge, pt_eq, pt_ne, pt_gt, pt_le, pt_E, pt_N, pt_F, ite_10, ite_11, ne_eq, and_self, or_self, decide_true, decide_false, Bool.not_true, Bool.not_false, Bool.false_eq_true, Nat.reduceEqDiff, Nat.reduceAdd, Int.reduceEq, Int.reduceLT, Int.reduceLE, Int.reduceNeg, Int.reduceAdd, Int.reduceSub, Int.reduceMul, reduceCtorEq, iA, iS, iM, iD, iR, iN, lA, lS, lM, lD, lR, h.1.k, wM_of (q_isArchive h), ha]
theorem q_mean {t : Int} {p : Int → Bool} {ρ : Int → Int} {j : Nat} (ht : S.1 t = 10) (h : Ty v t p ρ j) : mX9_mean [t] S v = some (if nP p j = 0 then -2147483648 else w32 (w64 ((sP p ρ j).tdiv (nP p j))), v) := by
  apply wM_eq
  by_cases h0 : nP p j = 0
  · simp only [mX9_mean, sX9_mean, wE_I, wE_V, wE_F, wE_A, wE_N, wE_1, wE_2, wE_D, wE_B, wE_If, wE_C, wE_CV, wE_SL, wE_SA, wA_0, wA_1, wC_B, wC_E, wC_And, wC_Or, wC_Not, wS_Skip, wS_Brk, wS_Cnt, wS_RetV, wS_Ret, wS_Seq, wS_Set, wS_Inc, wS_Do, wS_Put, wS_PutC, wS_Arr, wS_ArrC, wS_If, wS_Sw, wS_F0, wS_F1, wM_q, lu_ap, aL_ap, ct_0, ct_1, ct_2, ct_3, ct_4, ct_5, headD_1, List.mem_cons, List.not_mem_nil, or_false, false_or, or_true, true_or, true_and, and_true, false_and, and_false, not_true_eq_false, not_false_eq_true, if_true, if_false, nr_20, nr_24, nr_40, nr_41, nr_44, pt_lt, pt_ge, pt_eq, pt_ne, pt_gt, pt_le, pt_E, pt_N, pt_F, ite_10, ite_11, ne_eq, and_self, or_self, decide_true, decide_false, Bool.not_true, Bool.not_false, Bool.false_eq_true, Nat.reduceEqDiff, Nat.reduceAdd, Int.reduceEq, Int.reduceLT, Int.reduceLE, Int.reduceNeg, Int.reduceAdd, Int.reduceSub, Int.reduceMul, reduceCtorEq, iA, iS, iM, iD, iR, iN, lA, lS, lM, lD, lR, ht, h.2.1, h.1, h0]
  · simp only [mX9_mean, sX9_mean, wE_I, wE_V, wE_F, wE_A, wE_N, wE_1, wE_2, wE_D, wE_B, wE_If, wE_C, wE_CV, wE_SL, wE_SA, wA_0, wA_1, wC_B, wC_E, wC_And, wC_Or, wC_Not, wS_Skip, wS_Brk, wS_Cnt, wS_RetV, wS_Ret, wS_Seq, wS_Set, wS_Inc, wS_Do, wS_Put, wS_PutC, wS_Arr, wS_ArrC, wS_If, wS_Sw, wS_F0, wS_F1, wM_q, lu_ap, aL_ap, ct_0, ct_1, ct_2, ct_3, ct_4, ct_5, headD_1, List.mem_cons, List.not_mem_nil, or_false, false_or, or_true, true_or, true_and, and_true, false_and, and_false, not_true_eq_false, not_false_eq_true, if_true, if_false, nr_20, nr_24, nr_40, nr_41, nr_44, pt_lt, pt_ge, pt_eq, pt_ne, pt_gt, pt_le, pt_E, pt_N, pt_F, ite_10, ite_11, ne_eq, and_self, or_self, decide_true, decide_false, Bool.not_true, Bool.not_false, Bool.false_eq_true, Nat.reduceEqDiff, Nat.reduceAdd, Int.reduceEq, Int.reduceLT, Int.reduceLE, Int.reduceNeg, Int.reduceAdd, Int.reduceSub, Int.reduceMul, reduceCtorEq, iA, iS, iM, iD, iR, iN, lA, lS, lM, lD, lR, ht, h.2.1, h.1, h0]
theorem q_over (h : RC S v b P s) {a m f t x : Int} (hr : (0 ≤ a ∧ a < v P 2) → (0 ≤ m ∧ m < v P 1) → ∀ i, 0 ≤ i → i < cK v P s a → tv (cR v P s a m i)) : wM mX11_over [b, a, m, f, t, x] S v (fun r w => r = (if (0 ≤ a ∧ a < v P 2) ∧ (0 ≤ m ∧ m < v P 1) then fOver (cU v P a) (cD v P s a) (cK v P s a).toNat (cR v P s a m) f t x else -2147483648) ∧ Qf b P v w) := by
  by_cases h0 : (0 ≤ a ∧ a < v P 2) ∧ (0 ≤ m ∧ m < v P 1)
  · obtain ⟨ha, hm⟩ := h0
    have ha4 : a < 4 := by have := h.2.2.2.2.2.2.2.1; omega
    simp only [mX11_over, sX11_over, wE_I, wE_V, wE_F, wE_A, wE_N, wE_1, wE_2, wE_D, wE_B, wE_If, wE_C, wE_CV, wE_SL, wE_SA, wA_0, wA_1, wC_B, wC_E, wC_And, wC_Or, wC_Not, wS_Skip, wS_Brk, wS_Cnt, wS_RetV, wS_Ret, wS_Seq, wS_Set, wS_Inc, wS_Do, wS_Put, wS_PutC, wS_Arr, wS_ArrC, wS_If, wS_Sw, wS_F0, wS_F1, wM_q, lu_ap, aL_ap, ct_0, ct_1, ct_2, ct_3, ct_4, ct_5, headD_1, List.mem_cons, List.not_mem_nil, or_false, false_or, or_true, true_or, true_and, and_true, false_and, and_false, not_true_eq_false, not_false_eq_true, if_true, if_false, nr_20, nr_24, nr_40, nr_41, nr_44, pt_lt, pt_ge, pt_eq, pt_ne, pt_gt, pt_le, pt_E, pt_N, pt_F, ite_10, ite_11, ne_eq, and_self, or_self, decide_true, decide_false, Bool.not_true, Bool.not_false, Bool.false_eq_true, Nat.reduceEqDiff, Nat.reduceAdd, Int.reduceEq, Int.reduceLT, Int.reduceLE, Int.reduceNeg, Int.reduceAdd, Int.reduceSub, Int.reduceMul, reduceCtorEq, iA, iS, iM, iD, iR, iN, lA, lS, lM, lD, lR, h.1.k, wM_of (q_hasRows h), ha, hm]
    refine wM_mono (q_tallyWithin h ha hm (hr ha hm)) ?_
    rintro r w - ⟨hr', hq, hT⟩
    have hw := h.keep hq
    have haw : 0 ≤ a ∧ a < w P 2 := by rw [hq P 2 (by have := h.2.2.1; omega) (by have := h.2.2.1; omega) (by omega) (by omega)]; exact ha
    simp only [hw.1.k, hw.1.p13, hw.1.y, wM_of (q_mean hw.1.y hT), wM_of (q_rowUnits hw haw), cU_keep h hq ha.1 ha4, hr', hT.1, hT.2.1, hT.2.2.1, hT.2.2.2.1, hT.2.2.2.2, fOver, hq, wE_I, wE_V, wE_F, wE_A, wE_N, wE_1, wE_2, wE_D, wE_B, wE_If, wE_C, wE_CV, wE_SL, wE_SA, wA_0, wA_1, wC_B, wC_E, wC_And, wC_Or, wC_Not, wS_Skip, wS_Brk, wS_Cnt, wS_RetV, wS_Ret, wS_Seq, wS_Set, wS_Inc, wS_Do, wS_Put, wS_PutC, wS_Arr, wS_ArrC, wS_If, wS_Sw, wS_F0, wS_F1, wM_q, lu_ap, aL_ap, ct_0, ct_1, ct_2, ct_3, ct_4, ct_5, headD_1, List.mem_cons, List.not_mem_nil, or_false, false_or, or_true, true_or, true_and, and_true, false_and, and_false, not_true_eq_false, not_false_eq_true, if_true, if_false, nr_20, nr_24, nr_40, nr_41, nr_44, pt_lt, pt_ge, pt_eq, pt_ne, pt_gt, pt_le, pt_E, pt_N, pt_F, ite_10, ite_11, ne_eq, and_self, or_self, decide_true, decide_false, Bool.not_true, Bool.not_false, Bool.false_eq_true, Nat.reduceEqDiff, Nat.reduceAdd, Int.reduceEq, Int.reduceLT, Int.reduceLE, Int.reduceNeg, Int.reduceAdd, Int.reduceSub, Int.reduceMul, reduceCtorEq, iA, iS, iM, iD, iR, iN, lA, lS, lM, lD, lR]
    by_cases x0 : x = 0
    · simp [x0]
    · by_cases x1 : x = 1
      · simp [x1]
      · by_cases x2 : x = 2
        · simp [x2]
        · by_cases x3 : x = 3
          · simp [x3]
          · by_cases x4 : x = 4
            · simp [x4]
            · by_cases x5 : x = 5
              · simp [x5]
              · simp [x0, x1, x2, x3, x4, x5]
  · simp only [mX11_over, sX11_over, wE_I, wE_V, wE_F, wE_A, wE_N, wE_1, wE_2, wE_D, wE_B, wE_If, wE_C, wE_CV, wE_SL, wE_SA, wA_0, wA_1, wC_B, wC_E, wC_And, wC_Or, wC_Not, wS_Skip, wS_Brk, wS_Cnt, wS_RetV, wS_Ret, wS_Seq, wS_Set, wS_Inc, wS_Do, wS_Put, wS_PutC, wS_Arr, wS_ArrC, wS_If, wS_Sw, wS_F0, wS_F1, wM_q, lu_ap, aL_ap, ct_0, ct_1, ct_2, ct_3, ct_4, ct_5, headD_1, List.mem_cons, List.not_mem_nil, or_false, false_or, or_true, true_or, true_and, and_true, false_and, and_false, not_true_eq_false, not_false_eq_true, if_true, if_false, nr_20, nr_24, nr_40, nr_41, nr_44, pt_lt, pt_ge, pt_eq, pt_ne, pt_gt, pt_le, pt_E, pt_N, pt_F, ite_10, ite_11, ne_eq, and_self, or_self, decide_true, decide_false, Bool.not_true, Bool.not_false, Bool.false_eq_true, Nat.reduceEqDiff, Nat.reduceAdd, Int.reduceEq, Int.reduceLT, Int.reduceLE, Int.reduceNeg, Int.reduceAdd, Int.reduceSub, Int.reduceMul, reduceCtorEq, iA, iS, iM, iD, iR, iN, lA, lS, lM, lD, lR, h.1.k, wM_of (q_hasRows h), h0, Qf.rf]
theorem q_total (h : RC S v b P s) {a m f t : Int} (hr : (0 ≤ a ∧ a < v P 2) → (0 ≤ m ∧ m < v P 1) → ∀ i, 0 ≤ i → i < cK v P s a → tv (cR v P s a m i)) : wM mX11_total [b, a, m, f, t] S v (fun r w => r = (if (0 ≤ a ∧ a < v P 2) ∧ (0 ≤ m ∧ m < v P 1) then fTotal (cU v P a) (cD v P s a) (cK v P s a).toNat (cR v P s a m) f t else 0) ∧ Qf b P v w) := by
  by_cases h0 : (0 ≤ a ∧ a < v P 2) ∧ (0 ≤ m ∧ m < v P 1)
  · obtain ⟨ha, hm⟩ := h0
    have ha4 : a < 4 := by have := h.2.2.2.2.2.2.2.1; omega
    simp only [mX11_total, sX11_total, wE_I, wE_V, wE_F, wE_A, wE_N, wE_1, wE_2, wE_D, wE_B, wE_If, wE_C, wE_CV, wE_SL, wE_SA, wA_0, wA_1, wC_B, wC_E, wC_And, wC_Or, wC_Not, wS_Skip, wS_Brk, wS_Cnt, wS_RetV, wS_Ret, wS_Seq, wS_Set, wS_Inc, wS_Do, wS_Put, wS_PutC, wS_Arr, wS_ArrC, wS_If, wS_Sw, wS_F0, wS_F1, wM_q, lu_ap, aL_ap, ct_0, ct_1, ct_2, ct_3, ct_4, ct_5, headD_1, List.mem_cons, List.not_mem_nil, or_false, false_or, or_true, true_or, true_and, and_true, false_and, and_false, not_true_eq_false, not_false_eq_true, if_true, if_false, nr_20, nr_24, nr_40, nr_41, nr_44, pt_lt, pt_ge, pt_eq, pt_ne, pt_gt, pt_le, pt_E, pt_N, pt_F, ite_10, ite_11, ne_eq, and_self, or_self, decide_true, decide_false, Bool.not_true, Bool.not_false, Bool.false_eq_true, Nat.reduceEqDiff, Nat.reduceAdd, Int.reduceEq, Int.reduceLT, Int.reduceLE, Int.reduceNeg, Int.reduceAdd, Int.reduceSub, Int.reduceMul, reduceCtorEq, iA, iS, iM, iD, iR, iN, lA, lS, lM, lD, lR, h.1.k, wM_of (q_hasRows h), ha, hm]
    refine wM_mono (q_tallyWithin h ha hm (hr ha hm)) ?_
    rintro r w - ⟨hr', hq, hT⟩
    have hw := h.keep hq
    have haw : 0 ≤ a ∧ a < w P 2 := by rw [hq P 2 (by have := h.2.2.1; omega) (by have := h.2.2.1; omega) (by omega) (by omega)]; exact ha
    simp only [hw.1.k, hw.1.p13, hw.1.y, wM_of (q_rowUnits hw haw), cU_keep h hq ha.1 ha4, hT.1, fTotal, hq, wE_I, wE_V, wE_F, wE_A, wE_N, wE_1, wE_2, wE_D, wE_B, wE_If, wE_C, wE_CV, wE_SL, wE_SA, wA_0, wA_1, wC_B, wC_E, wC_And, wC_Or, wC_Not, wS_Skip, wS_Brk, wS_Cnt, wS_RetV, wS_Ret, wS_Seq, wS_Set, wS_Inc, wS_Do, wS_Put, wS_PutC, wS_Arr, wS_ArrC, wS_If, wS_Sw, wS_F0, wS_F1, wM_q, lu_ap, aL_ap, ct_0, ct_1, ct_2, ct_3, ct_4, ct_5, headD_1, List.mem_cons, List.not_mem_nil, or_false, false_or, or_true, true_or, true_and, and_true, false_and, and_false, not_true_eq_false, not_false_eq_true, if_true, if_false, nr_20, nr_24, nr_40, nr_41, nr_44, pt_lt, pt_ge, pt_eq, pt_ne, pt_gt, pt_le, pt_E, pt_N, pt_F, ite_10, ite_11, ne_eq, and_self, or_self, decide_true, decide_false, Bool.not_true, Bool.not_false, Bool.false_eq_true, Nat.reduceEqDiff, Nat.reduceAdd, Int.reduceEq, Int.reduceLT, Int.reduceLE, Int.reduceNeg, Int.reduceAdd, Int.reduceSub, Int.reduceMul, reduceCtorEq, iA, iS, iM, iD, iR, iN, lA, lS, lM, lD, lR]
  · simp only [mX11_total, sX11_total, wE_I, wE_V, wE_F, wE_A, wE_N, wE_1, wE_2, wE_D, wE_B, wE_If, wE_C, wE_CV, wE_SL, wE_SA, wA_0, wA_1, wC_B, wC_E, wC_And, wC_Or, wC_Not, wS_Skip, wS_Brk, wS_Cnt, wS_RetV, wS_Ret, wS_Seq, wS_Set, wS_Inc, wS_Do, wS_Put, wS_PutC, wS_Arr, wS_ArrC, wS_If, wS_Sw, wS_F0, wS_F1, wM_q, lu_ap, aL_ap, ct_0, ct_1, ct_2, ct_3, ct_4, ct_5, headD_1, List.mem_cons, List.not_mem_nil, or_false, false_or, or_true, true_or, true_and, and_true, false_and, and_false, not_true_eq_false, not_false_eq_true, if_true, if_false, nr_20, nr_24, nr_40, nr_41, nr_44, pt_lt, pt_ge, pt_eq, pt_ne, pt_gt, pt_le, pt_E, pt_N, pt_F, ite_10, ite_11, ne_eq, and_self, or_self, decide_true, decide_false, Bool.not_true, Bool.not_false, Bool.false_eq_true, Nat.reduceEqDiff, Nat.reduceAdd, Int.reduceEq, Int.reduceLT, Int.reduceLE, Int.reduceNeg, Int.reduceAdd, Int.reduceSub, Int.reduceMul, reduceCtorEq, iA, iS, iM, iD, iR, iN, lA, lS, lM, lD, lR, h.1.k, wM_of (q_hasRows h), h0, Qf.rf]
theorem q_smooth (h : RC S v b P s) {a m n i : Int} (hr : (0 ≤ a ∧ a < v P 2) → (0 ≤ m ∧ m < v P 1) → ∀ i, 0 ≤ i → i < cK v P s a → tv (cR v P s a m i)) : wM mX11_smooth [b, a, m, n, i] S v (fun r w => r = (if ((0 ≤ a ∧ a < v P 2) ∧ (0 ≤ m ∧ m < v P 1)) ∧ (1 ≤ n ∧ n ≤ 30) ∧ 0 ≤ i ∧ i < cK v P s a then fSmooth (cK v P s a).toNat (cR v P s a m) n.toNat i else -2147483648) ∧ Qf b P v w) := by
  by_cases h0 : (0 ≤ a ∧ a < v P 2) ∧ (0 ≤ m ∧ m < v P 1)
  · obtain ⟨ha, hm⟩ := h0
    have ha4 : a < 4 := by have := h.2.2.2.2.2.2.2.1; omega
    have hk := cK_b h ha
    have hP := h.2.2.1
    simp only [mX11_smooth, sX11_smooth, wE_I, wE_V, wE_F, wE_A, wE_N, wE_1, wE_2, wE_D, wE_B, wE_If, wE_C, wE_CV, wE_SL, wE_SA, wA_0, wA_1, wC_B, wC_E, wC_And, wC_Or, wC_Not, wS_Skip, wS_Brk, wS_Cnt, wS_RetV, wS_Ret, wS_Seq, wS_Set, wS_Inc, wS_Do, wS_Put, wS_PutC, wS_Arr, wS_ArrC, wS_If, wS_Sw, wS_F0, wS_F1, wM_q, lu_ap, aL_ap, ct_0, ct_1, ct_2, ct_3, ct_4, ct_5, headD_1, List.mem_cons, List.not_mem_nil, or_false, false_or, or_true, true_or, true_and, and_true, false_and, and_false, not_true_eq_false, not_false_eq_true, if_true, if_false, nr_20, nr_24, nr_40, nr_41, nr_44, pt_lt, pt_ge, pt_eq, pt_ne, pt_gt, pt_le, pt_E, pt_N, pt_F, ite_10, ite_11, ne_eq, and_self, or_self, decide_true, decide_false, Bool.not_true, Bool.not_false, Bool.false_eq_true, Nat.reduceEqDiff, Nat.reduceAdd, Int.reduceEq, Int.reduceLT, Int.reduceLE, Int.reduceNeg, Int.reduceAdd, Int.reduceSub, Int.reduceMul, reduceCtorEq, iA, iS, iM, iD, iR, iN, lA, lS, lM, lD, lR, h.1.k, h.1.p13, h.1.y, wM_of (q_hasRows h), wM_of (q_keptRows h ha), ha, hm]
    by_cases hn : (1 ≤ n ∧ n ≤ 30) ∧ 0 ≤ i ∧ i < cK v P s a
    · have e1 : ¬ n < 1 := by omega
      have e2 : ¬ 30 < n := by omega
      have e3 : ¬ i < 0 := by omega
      have e4 : ¬ cK v P s a ≤ i := by omega
      have hr' := hr ha hm
      simp only [e1, e2, e3, e4, hn, wE_I, wE_V, wE_F, wE_A, wE_N, wE_1, wE_2, wE_D, wE_B, wE_If, wE_C, wE_CV, wE_SL, wE_SA, wA_0, wA_1, wC_B, wC_E, wC_And, wC_Or, wC_Not, wS_Skip, wS_Brk, wS_Cnt, wS_RetV, wS_Ret, wS_Seq, wS_Set, wS_Inc, wS_Do, wS_Put, wS_PutC, wS_Arr, wS_ArrC, wS_If, wS_Sw, wS_F0, wS_F1, wM_q, lu_ap, aL_ap, ct_0, ct_1, ct_2, ct_3, ct_4, ct_5, headD_1, List.mem_cons, List.not_mem_nil, or_false, false_or, or_true, true_or, true_and, and_true, false_and, and_false, not_true_eq_false, not_false_eq_true, if_true, if_false, nr_20, nr_24, nr_40, nr_41, nr_44, pt_lt, pt_ge, pt_eq, pt_ne, pt_gt, pt_le, pt_E, pt_N, pt_F, ite_10, ite_11, ne_eq, and_self, or_self, decide_true, decide_false, Bool.not_true, Bool.not_false, Bool.false_eq_true, Nat.reduceEqDiff, Nat.reduceAdd, Int.reduceEq, Int.reduceLT, Int.reduceLE, Int.reduceNeg, Int.reduceAdd, Int.reduceSub, Int.reduceMul, reduceCtorEq]
      generalize hK : cK v P s a = K at *
      generalize hρ : cR v P s a m = ρ at *
      refine wM_mono (Ty.clear h.1.y (kn (cut K.toNat ρ i)) (cut K.toNat ρ i)) ?_
      rintro - w0 - ⟨hT0, hq0⟩
      refine wS_For n.toNat (fun j M w => (M 0 = b ∧ M 1 = a ∧ M 2 = m ∧ M 3 = n ∧ M 4 = i ∧ M 5 = i + j) ∧ Qf b P v w ∧ Ty w (b + 888) (kn (cut K.toNat ρ i)) (cut K.toNat ρ i) j) (by omega) ?_ ?_ ?_
      · refine ⟨?_, Qf.rf.ty hq0, hT0⟩
        simp [lu_ap, aL_ap, ct_0, ct_2]
      · rintro j M w hj ⟨⟨m0, m1, m2, m3, m4, m5⟩, hq, hT⟩
        have hw := h.keep hq
        have eP : ∀ k, w P k = v P k := fun k => hq _ _ (by omega) (by omega) (by omega) (by omega)
        have eK : cK w P s a = K := (cK_keep h hq ha.1 ha4).trans hK
        have eR : cR w P s a m (i + j) = ρ (i + j) := (cR_keep h hq ha.1 ha4).trans (by rw [hρ])
        have haw : 0 ≤ a ∧ a < w P 2 := by rw [eP]; exact ha
        have hmw : 0 ≤ m ∧ m < w P 1 := by rw [eP]; exact hm
        have ei : w32 (i + n) = i + n := w32_e (by omega)
        have ej : w32 (i + (j : Int) + 1) = i + ((j + 1 : Nat) : Int) := by clear ei; rw [w32_e (by omega)]; omega
        have ec : (if 0 ≤ i + (j : Int) ∧ i + (j : Int) < K then ρ (i + j) else -2147483648) = cut K.toNat ρ i j := by
          clear ei ej
          unfold cut
          by_cases hh : i + (j : Int) < K
          · rw [if_pos ⟨by omega, hh⟩, if_pos (by omega)]
          · rw [if_neg (by omega), if_neg (by omega)]
        have el : i + (j : Int) < i + n := by clear ei ej; omega
        simp only [cX11_smooth_1, bX11_smooth_1, uX11_smooth_1, wE_I, wE_V, wE_F, wE_A, wE_N, wE_1, wE_2, wE_D, wE_B, wE_If, wE_C, wE_CV, wE_SL, wE_SA, wA_0, wA_1, wC_B, wC_E, wC_And, wC_Or, wC_Not, wS_Skip, wS_Brk, wS_Cnt, wS_RetV, wS_Ret, wS_Seq, wS_Set, wS_Inc, wS_Do, wS_Put, wS_PutC, wS_Arr, wS_ArrC, wS_If, wS_Sw, wS_F0, wS_F1, wM_q, lu_ap, aL_ap, ct_0, ct_1, ct_2, ct_3, ct_4, ct_5, headD_1, List.mem_cons, List.not_mem_nil, or_false, false_or, or_true, true_or, true_and, and_true, false_and, and_false, not_true_eq_false, not_false_eq_true, if_true, if_false, nr_20, nr_24, nr_40, nr_41, nr_44, pt_lt, pt_ge, pt_eq, pt_ne, pt_gt, pt_le, pt_E, pt_N, pt_F, ite_10, ite_11, ne_eq, and_self, or_self, decide_true, decide_false, Bool.not_true, Bool.not_false, Bool.false_eq_true, Nat.reduceEqDiff, Nat.reduceAdd, Int.reduceEq, Int.reduceLT, Int.reduceLE, Int.reduceNeg, Int.reduceAdd, Int.reduceSub, Int.reduceMul, reduceCtorEq, iA, iS, iM, iD, iR, iN, lA, lS, lM, lD, lR, hw.1.k, hw.1.p13, hw.1.y, m0, m1, m2, m3, m4, m5, wM_of (q_rowTold hw haw hmw), eK, eR, ei, ej, ec, el]
        clear ei ej
        have hv : ∀ q : Int, 0 ≤ q → kn (cut K.toNat ρ i) q = true → -2000000000 ≤ cut K.toNat ρ i q ∧ cut K.toNat ρ i q ≤ 2000000000 := by
          intro q h2 h4
          by_cases hh : i + q < K.toNat
          · have := hr' (i + q) (by omega) (by omega)
            have e : cut K.toNat ρ i q = ρ (i + q) := if_pos hh
            unfold tv at this
            rw [kn, e] at h4
            rw [e]
            simp at h4
            omega
          · have e : cut K.toNat ρ i q = -2147483648 := if_neg hh
            rw [kn, e] at h4
            simp at h4
        refine wM_mono (Ty.add hw.1.y hT rfl (by omega) (by simp [kn]) (fun q h2 h3 h4 => hv q h2 h4) (fun h4 => hv j (by omega) h4)) ?_
        rintro - w' - ⟨hT', hq'⟩
        exact ⟨hq.ty hq', hT'⟩
      · rintro M w ⟨⟨m0, m1, m2, m3, m4, m5⟩, hq, hT⟩
        have hw := h.keep hq
        have ei : w32 (i + n) = i + n := w32_e (by omega)
        have el : ¬ i + (n.toNat : Int) < i + n := by clear ei; omega
        simp only [cX11_smooth_1, wE_I, wE_V, wE_F, wE_A, wE_N, wE_1, wE_2, wE_D, wE_B, wE_If, wE_C, wE_CV, wE_SL, wE_SA, wA_0, wA_1, wC_B, wC_E, wC_And, wC_Or, wC_Not, wS_Skip, wS_Brk, wS_Cnt, wS_RetV, wS_Ret, wS_Seq, wS_Set, wS_Inc, wS_Do, wS_Put, wS_PutC, wS_Arr, wS_ArrC, wS_If, wS_Sw, wS_F0, wS_F1, wM_q, lu_ap, aL_ap, ct_0, ct_1, ct_2, ct_3, ct_4, ct_5, headD_1, List.mem_cons, List.not_mem_nil, or_false, false_or, or_true, true_or, true_and, and_true, false_and, and_false, not_true_eq_false, not_false_eq_true, if_true, if_false, nr_20, nr_24, nr_40, nr_41, nr_44, pt_lt, pt_ge, pt_eq, pt_ne, pt_gt, pt_le, pt_E, pt_N, pt_F, ite_10, ite_11, ne_eq, and_self, or_self, decide_true, decide_false, Bool.not_true, Bool.not_false, Bool.false_eq_true, Nat.reduceEqDiff, Nat.reduceAdd, Int.reduceEq, Int.reduceLT, Int.reduceLE, Int.reduceNeg, Int.reduceAdd, Int.reduceSub, Int.reduceMul, reduceCtorEq, iA, iS, iM, iD, iR, iN, lA, lS, lM, lD, lR, hw.1.k, hw.1.p13, hw.1.y, m0, m3, m4, m5, ei, el, wM_of (q_mean hw.1.y hT), fSmooth, hq]
    · simp only [hn]
      by_cases h1 : n < 1
      · simp [h1, Qf.rf]
      · by_cases h2 : 30 < n
        · simp [h1, h2, Qf.rf]
        · by_cases h3 : i < 0
          · simp [h1, h2, h3, Qf.rf]
          · have h4 : cK v P s a ≤ i := by omega
            simp [h1, h2, h3, h4, Qf.rf]
  · simp only [mX11_smooth, sX11_smooth, wE_I, wE_V, wE_F, wE_A, wE_N, wE_1, wE_2, wE_D, wE_B, wE_If, wE_C, wE_CV, wE_SL, wE_SA, wA_0, wA_1, wC_B, wC_E, wC_And, wC_Or, wC_Not, wS_Skip, wS_Brk, wS_Cnt, wS_RetV, wS_Ret, wS_Seq, wS_Set, wS_Inc, wS_Do, wS_Put, wS_PutC, wS_Arr, wS_ArrC, wS_If, wS_Sw, wS_F0, wS_F1, wM_q, lu_ap, aL_ap, ct_0, ct_1, ct_2, ct_3, ct_4, ct_5, headD_1, List.mem_cons, List.not_mem_nil, or_false, false_or, or_true, true_or, true_and, and_true, false_and, and_false, not_true_eq_false, not_false_eq_true, if_true, if_false, nr_20, nr_24, nr_40, nr_41, nr_44, pt_lt, pt_ge, pt_eq, pt_ne, pt_gt, pt_le, pt_E, pt_N, pt_F, ite_10, ite_11, ne_eq, and_self, or_self, decide_true, decide_false, Bool.not_true, Bool.not_false, Bool.false_eq_true, Nat.reduceEqDiff, Nat.reduceAdd, Int.reduceEq, Int.reduceLT, Int.reduceLE, Int.reduceNeg, Int.reduceAdd, Int.reduceSub, Int.reduceMul, reduceCtorEq, iA, iS, iM, iD, iR, iN, lA, lS, lM, lD, lR, h.1.k, wM_of (q_hasRows h), h0, Qf.rf]
end CM
