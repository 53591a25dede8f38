/-! THE CLASS'S QUESTIONS: rise, best, law -/
theorem sP_B {p : Int → Bool} {f : Int → Int} {B : Int} : ∀ j : Nat, (∀ i : Int, 0 ≤ i → i < j → p i = true → -B ≤ f i ∧ f i ≤ B) → 0 ≤ B → -B * j ≤ sP p f j ∧ sP p f j ≤ B * j
  | 0, _, _ => by simp [sP]
  | j + 1, h, hB => by
    have h1 := sP_B j (fun i h0 h1 => h i h0 (by omega)) hB
    have h2 := h j (by omega) (by omega)
    have e : B * ((j + 1 : Nat) : Int) = B * j + B := by rw [Int.natCast_add, Int.mul_add]; simp
    have e' : -B * ((j + 1 : Nat) : Int) = -B * j - B := by rw [Int.natCast_add, Int.mul_add]; simp; rfl
    rw [e, e']
    unfold sP
    split
    · rename_i hp; have := h2 hp; omega
    · omega
def fRise (n sx sy sxx sxy : Int) : Int := if n < 2 then -2147483648 else w32 (w64 ((w64 (w64 (n * sxy) - w64 (sx * sy))).tdiv (w64 (w64 (n * sxx) - w64 (sx * sx)))))
/-- told rows from the eldest on -/
def rvK (K : Int) (ρ : Int → Int) (x : Int) : Int := ρ (K - 1 - x)
def cRise (K : Int) (ρ : Int → Int) : Int := fRise (nP (kn (rvK K ρ)) K.toNat) (sP (kn (rvK K ρ)) (fun x => x) K.toNat) (sP (kn (rvK K ρ)) (rvK K ρ) K.toNat) (sP (kn (rvK K ρ)) (fun x => x * x) K.toNat) (sP (kn (rvK K ρ)) (fun x => x * rvK K ρ x) K.toNat)
def tb (bg pr : Int → Int) (f i j : Int) : Bool := if (decide (bg i ≤ f)) = (decide (bg j ≤ f)) then (if f < bg i ∧ ¬ bg i = bg j then decide (bg i < bg j) else decide (pr i < pr j)) else decide (bg i ≤ f)
def be (c : Int → Bool) (t : Int → Int → Bool) : Nat → Int
  | 0 => -1
  | j + 1 => if c j = true ∧ (be c t j = -1 ∨ t j (be c t j) = true) then j else be c t j
theorem be_b {c : Int → Bool} {t : Int → Int → Bool} : ∀ j : Nat, be c t j = -1 ∨ (0 ≤ be c t j ∧ be c t j < j ∧ c (be c t j) = true)
  | 0 => Or.inl rfl
  | j + 1 => by
    have := be_b (c := c) (t := t) j
    unfold be
    split
    · rename_i h; exact Or.inr ⟨by omega, by omega, h.1⟩
    · rcases this with h | h
      · exact Or.inl h
      · exact Or.inr ⟨h.1, by omega, h.2.2⟩
def bt (ρ : Int → Int) (hi lo i : Int) : Bool := !decide (ρ i = -2147483648) && decide (hi < ρ i ∨ ρ i < lo)
def sN (f : Int → Int) : Nat → Int
  | 0 => 0
  | j + 1 => sN f j + f j
theorem sN_b {f : Int → Int} {B : Int} : ∀ j : Nat, (∀ i : Int, 0 ≤ i → i < j → 0 ≤ f i ∧ f i ≤ B) → 0 ≤ sN f j ∧ sN f j ≤ B * j
  | 0, _ => by simp [sN]
  | j + 1, h => by
    have h1 := sN_b j (fun i h0 h1 => h i h0 (by omega))
    have h2 := h j (by omega) (by omega)
    have e : B * ((j + 1 : Nat) : Int) = B * j + B := by rw [Int.natCast_add, Int.mul_add]; simp
    rw [e]
    unfold sN
    omega
def cBg (v : QV) (P s a : Int) : Int := (cD v P s a - (cK v P s a - 1)) * cU v P a - cU v P a
def cLaw (v : QV) (P s a : Int) : Int := if v (P + (13 + a)) 0 = 0 then sN (fun m => nP (bt (cR v P s a m) (v (s + (4 + 6 * m)) 8) (v (s + (4 + 6 * m)) 9)) (cK v P s a).toNat) (v P 1).toNat else 0
section CB
variable {S : QS} {v w : QV} {b P s : Int}
theorem q_quotient {x y : Int} : mX11_quotient [x, y] S v = some (w64 (x.tdiv y), v) := by
  apply wM_eq
  by_cases h : y = 0
  · subst h
    simp only [mX11_quotient, sX11_quotient, wE_I, wE_V, wE_F, wE_A, wE_N, wE_1, wE_2, wE_D, wE_B, wE_If, wE_C, wE_CV, wE_SL, wE_SA, wA_0, wA_1, wC_B, wC_E, wC_And, wC_Or, wC_Not, wS_Skip, wS_Brk, wS_Cnt, wS_RetV, wS_Ret, wS_Seq, wS_Set, wS_Inc, wS_Do, wS_Put, wS_PutC, wS_Arr, wS_ArrC, wS_If, wS_Sw, wS_F0, wS_F1, wM_q, lu_ap, aL_ap, ct_0, ct_1, ct_2, ct_3, ct_4, ct_5, headD_1, List.mem_cons, List.not_mem_nil, or_false, false_or, or_true, true_or, true_and, and_true, false_and, and_false, not_true_eq_false, not_false_eq_true, if_true, if_false, nr_20, nr_24, nr_40, nr_41, nr_44, pt_lt, pt_ge, pt_eq, pt_ne, pt_gt, pt_le, pt_E, pt_N, pt_F, ite_10, ite_11, ne_eq, and_self, or_self, decide_true, decide_false, Bool.not_true, Bool.not_false, Bool.false_eq_true, Nat.reduceEqDiff, Nat.reduceAdd, Int.reduceEq, Int.reduceLT, Int.reduceLE, Int.reduceNeg, Int.reduceAdd, Int.reduceSub, Int.reduceMul, reduceCtorEq, iA, iS, iM, iD, iR, iN, lA, lS, lM, lD, lR, Int.tdiv_zero]
    decide
  · simp only [mX11_quotient, sX11_quotient, wE_I, wE_V, wE_F, wE_A, wE_N, wE_1, wE_2, wE_D, wE_B, wE_If, wE_C, wE_CV, wE_SL, wE_SA, wA_0, wA_1, wC_B, wC_E, wC_And, wC_Or, wC_Not, wS_Skip, wS_Brk, wS_Cnt, wS_RetV, wS_Ret, wS_Seq, wS_Set, wS_Inc, wS_Do, wS_Put, wS_PutC, wS_Arr, wS_ArrC, wS_If, wS_Sw, wS_F0, wS_F1, wM_q, lu_ap, aL_ap, ct_0, ct_1, ct_2, ct_3, ct_4, ct_5, headD_1, List.mem_cons, List.not_mem_nil, or_false, false_or, or_true, true_or, true_and, and_true, false_and, and_false, not_true_eq_false, not_false_eq_true, if_true, if_false, nr_20, nr_24, nr_40, nr_41, nr_44, pt_lt, pt_ge, pt_eq, pt_ne, pt_gt, pt_le, pt_E, pt_N, pt_F, ite_10, ite_11, ne_eq, and_self, or_self, decide_true, decide_false, Bool.not_true, Bool.not_false, Bool.false_eq_true, Nat.reduceEqDiff, Nat.reduceAdd, Int.reduceEq, Int.reduceLT, Int.reduceLE, Int.reduceNeg, Int.reduceAdd, Int.reduceSub, Int.reduceMul, reduceCtorEq, iA, iS, iM, iD, iR, iN, lA, lS, lM, lD, lR, h]
theorem q_rise (h : RC S v b P s) {a m : Int} (hr : (0 ≤ a ∧ a < v P 2) → (0 ≤ m ∧ m < v P 1) → ∀ i, 0 ≤ i → i < cK v P s a → tv (cR v P s a m i)) : mX11_rise [b, a, m] S v = some (if (0 ≤ a ∧ a < v P 2) ∧ (0 ≤ m ∧ m < v P 1) then cRise (cK v P s a) (cR v P s a m) else -2147483648, v) := by
  apply wM_eq
  by_cases h0 : (0 ≤ a ∧ a < v P 2) ∧ (0 ≤ m ∧ m < v P 1)
  · obtain ⟨ha, hm⟩ := h0
    have hk := cK_b h ha
    have hr' := hr ha hm
    simp only [mX11_rise, sX11_rise, wE_I, wE_V, wE_F, wE_A, wE_N, wE_1, wE_2, wE_D, wE_B, wE_If, wE_C, wE_CV, wE_SL, wE_SA, wA_0, wA_1, wC_B, wC_E, wC_And, wC_Or, wC_Not, wS_Skip, wS_Brk, wS_Cnt, wS_RetV, wS_Ret, wS_Seq, wS_Set, wS_Inc, wS_Do, wS_Put, wS_PutC, wS_Arr, wS_ArrC, wS_If, wS_Sw, wS_F0, wS_F1, wM_q, lu_ap, aL_ap, ct_0, ct_1, ct_2, ct_3, ct_4, ct_5, headD_1, List.mem_cons, List.not_mem_nil, or_false, false_or, or_true, true_or, true_and, and_true, false_and, and_false, not_true_eq_false, not_false_eq_true, if_true, if_false, nr_20, nr_24, nr_40, nr_41, nr_44, pt_lt, pt_ge, pt_eq, pt_ne, pt_gt, pt_le, pt_E, pt_N, pt_F, ite_10, ite_11, ne_eq, and_self, or_self, decide_true, decide_false, Bool.not_true, Bool.not_false, Bool.false_eq_true, Nat.reduceEqDiff, Nat.reduceAdd, Int.reduceEq, Int.reduceLT, Int.reduceLE, Int.reduceNeg, Int.reduceAdd, Int.reduceSub, Int.reduceMul, reduceCtorEq, iA, iS, iM, iD, iR, iN, lA, lS, lM, lD, lR, h.1.k, wM_of (q_hasRows h), ha, hm, wM_of (q_keptRows h ha)]
    generalize hK : cK v P s a = K at *
    generalize hρ : cR v P s a m = ρ at *
    have hσ : ∀ i : Int, 0 ≤ i → i < K → kn (rvK K ρ) i = true → 0 ≤ rvK K ρ i ∧ rvK K ρ i ≤ 999999000 := by
      intro i h1 h2 h3
      have := hr' (K - 1 - i) (by omega) (by omega)
      unfold kn rvK at *
      unfold tv at this
      simp at h3
      omega
    refine wS_For K.toNat (fun j M w => (M 0 = b ∧ M 1 = a ∧ M 2 = m ∧ M 3 = K ∧ M 4 = nP (kn (rvK K ρ)) j ∧ M 6 = sP (kn (rvK K ρ)) (fun x => x) j ∧ M 8 = sP (kn (rvK K ρ)) (rvK K ρ) j ∧ M 10 = sP (kn (rvK K ρ)) (fun x => x * x) j ∧ M 12 = sP (kn (rvK K ρ)) (fun x => x * rvK K ρ x) j ∧ M 14 = j) ∧ v = w) (by omega) ?_ ?_ ?_
    · simp [lu_ap, aL_ap, ct_0, ct_2, nP, sP]
    · rintro j M w hj ⟨⟨m0, m1, m2, m3, m4, m6, m8, m10, m12, m14⟩, rfl⟩
      have hjK : 0 ≤ K - 1 - (j : Int) ∧ K - 1 - (j : Int) < K := by omega
      have hjl : (j : Int) < K := by omega
      have c1 := nP_b (kn (rvK K ρ)) j
      have c2 := sP_B (p := kn (rvK K ρ)) (f := fun x => x) (B := 1000) j (fun i h1 h2 _ => by omega) (by decide)
      have c3 := sP_B (p := kn (rvK K ρ)) (f := rvK K ρ) (B := 999999000) j (fun i h1 h2 h3 => by have := hσ i h1 (by omega) h3; omega) (by decide)
      have c4 := sP_B (p := kn (rvK K ρ)) (f := fun x => x * x) (B := 900) j (fun i h1 h2 _ => by
        have e1 : 0 ≤ i * i := Int.mul_nonneg h1 h1
        have e2 : i * i ≤ 30 * 30 := Int.mul_le_mul (by omega) (by omega) h1 (by omega)
        omega) (by decide)
      have c5 := sP_B (p := kn (rvK K ρ)) (f := fun x => x * rvK K ρ x) (B := 29999970000) j (fun i h1 h2 h3 => by
        have hh := hσ i h1 (by omega) h3
        have e1 : 0 ≤ i * rvK K ρ i := Int.mul_nonneg h1 hh.1
        have e2 : i * rvK K ρ i ≤ 30 * 999999000 := Int.mul_le_mul (by omega) hh.2 hh.1 (by omega)
        omega) (by decide)
      have e1 : w32 (w32 (K - 1) - (j : Int)) = K - 1 - j := by
        clear c1 c2 c3 c4 c5
        rw [w32_e (z := K - 1) (by omega)]
        exact w32_e (by omega)
      simp only [cX11_rise_1, bX11_rise_1, uX11_rise_1, wE_I, wE_V, wE_F, wE_A, wE_N, wE_1, wE_2, wE_D, wE_B, wE_If, wE_C, wE_CV, wE_SL, wE_SA, wA_0, wA_1, wC_B, wC_E, wC_And, wC_Or, wC_Not, wS_Skip, wS_Brk, wS_Cnt, wS_RetV, wS_Ret, wS_Seq, wS_Set, wS_Inc, wS_Do, wS_Put, wS_PutC, wS_Arr, wS_ArrC, wS_If, wS_Sw, wS_F0, wS_F1, wM_q, lu_ap, aL_ap, ct_0, ct_1, ct_2, ct_3, ct_4, ct_5, headD_1, List.mem_cons, List.not_mem_nil, or_false, false_or, or_true, true_or, true_and, and_true, false_and, and_false, not_true_eq_false, not_false_eq_true, if_true, if_false, nr_20, nr_24, nr_40, nr_41, nr_44, pt_lt, pt_ge, pt_eq, pt_ne, pt_gt, pt_le, pt_E, pt_N, pt_F, ite_10, ite_11, ne_eq, and_self, or_self, decide_true, decide_false, Bool.not_true, Bool.not_false, Bool.false_eq_true, Nat.reduceEqDiff, Nat.reduceAdd, Int.reduceEq, Int.reduceLT, Int.reduceLE, Int.reduceNeg, Int.reduceAdd, Int.reduceSub, Int.reduceMul, reduceCtorEq, iA, iS, iM, iD, iR, iN, lA, lS, lM, lD, lR, h.1.k, m0, m1, m2, m3, m4, m6, m8, m10, m12, m14, wM_of (q_rowTold h ha hm), hK, hρ, e1, hjK, hjl, w32_s (show j < 1000 by omega)]
      clear e1
      have er : ρ (K - 1 - j) = rvK K ρ j := rfl
      rw [er]
      by_cases h1 : rvK K ρ j = -2147483648
      · simp [h1, nP, sP, kn]
      · have hk1 : kn (rvK K ρ) j = true := by simp [kn, h1]
        have hh := hσ j (by omega) (by omega) hk1
        simp only [h1, nP, sP, hk1, if_true, not_false_eq_true, and_true]
        generalize rvK K ρ j = z at hh ⊢
        generalize nP (kn (rvK K ρ)) j = n1 at c1 ⊢
        generalize sP (kn (rvK K ρ)) (fun x => x) j = n2 at c2 ⊢
        generalize sP (kn (rvK K ρ)) (rvK K ρ) j = n3 at c3 ⊢
        generalize sP (kn (rvK K ρ)) (fun x => x * x) j = n4 at c4 ⊢
        generalize sP (kn (rvK K ρ)) (fun x => x * rvK K ρ x) j = n5 at c5 ⊢
        have p1 : 0 ≤ (j : Int) * j ∧ (j : Int) * j ≤ 30 * 30 := ⟨Int.mul_nonneg (by omega) (by omega), Int.mul_le_mul (by omega) (by omega) (by omega) (by omega)⟩
        have p2 : 0 ≤ (j : Int) * z ∧ (j : Int) * z ≤ 30 * 999999000 := ⟨Int.mul_nonneg (by omega) (by omega), Int.mul_le_mul (by omega) hh.2 hh.1 (by omega)⟩
        rw [w64_e (z := n1 + 1) (by omega), w64_e (z := n2 + j) (by omega), w64_e (z := n3 + z) (by omega), w64_e (z := (j : Int) * j) (by omega), w64_e (z := (j : Int) * z) (by omega), w64_e (z := n4 + (j : Int) * j) (by omega), w64_e (z := n5 + (j : Int) * z) (by omega)]
        simp
    · rintro M w ⟨⟨m0, m1, m2, m3, m4, m6, m8, m10, m12, m14⟩, rfl⟩
      have hl : ¬ (K.toNat : Int) < K := by omega
      simp only [cX11_rise_1, wE_I, wE_V, wE_F, wE_A, wE_N, wE_1, wE_2, wE_D, wE_B, wE_If, wE_C, wE_CV, wE_SL, wE_SA, wA_0, wA_1, wC_B, wC_E, wC_And, wC_Or, wC_Not, wS_Skip, wS_Brk, wS_Cnt, wS_RetV, wS_Ret, wS_Seq, wS_Set, wS_Inc, wS_Do, wS_Put, wS_PutC, wS_Arr, wS_ArrC, wS_If, wS_Sw, wS_F0, wS_F1, wM_q, lu_ap, aL_ap, ct_0, ct_1, ct_2, ct_3, ct_4, ct_5, headD_1, List.mem_cons, List.not_mem_nil, or_false, false_or, or_true, true_or, true_and, and_true, false_and, and_false, not_true_eq_false, not_false_eq_true, if_true, if_false, nr_20, nr_24, nr_40, nr_41, nr_44, pt_lt, pt_ge, pt_eq, pt_ne, pt_gt, pt_le, pt_E, pt_N, pt_F, ite_10, ite_11, ne_eq, and_self, or_self, decide_true, decide_false, Bool.not_true, Bool.not_false, Bool.false_eq_true, Nat.reduceEqDiff, Nat.reduceAdd, Int.reduceEq, Int.reduceLT, Int.reduceLE, Int.reduceNeg, Int.reduceAdd, Int.reduceSub, Int.reduceMul, reduceCtorEq, iA, iS, iM, iD, iR, iN, lA, lS, lM, lD, lR, m3, m4, m6, m8, m10, m12, m14, hl, wM_of q_quotient, cRise, fRise]
      by_cases h1 : nP (kn (rvK K ρ)) K.toNat < 2 <;> simp [h1]
  · simp only [mX11_rise, sX11_rise, wE_I, wE_V, wE_F, wE_A, wE_N, wE_1, wE_2, wE_D, wE_B, wE_If, wE_C, wE_CV, wE_SL, wE_SA, wA_0, wA_1, wC_B, wC_E, wC_And, wC_Or, wC_Not, wS_Skip, wS_Brk, wS_Cnt, wS_RetV, wS_Ret, wS_Seq, wS_Set, wS_Inc, wS_Do, wS_Put, wS_PutC, wS_Arr, wS_ArrC, wS_If, wS_Sw, wS_F0, wS_F1, wM_q, lu_ap, aL_ap, ct_0, ct_1, ct_2, ct_3, ct_4, ct_5, headD_1, List.mem_cons, List.not_mem_nil, or_false, false_or, or_true, true_or, true_and, and_true, false_and, and_false, not_true_eq_false, not_false_eq_true, if_true, if_false, nr_20, nr_24, nr_40, nr_41, nr_44, pt_lt, pt_ge, pt_eq, pt_ne, pt_gt, pt_le, pt_E, pt_N, pt_F, ite_10, ite_11, ne_eq, and_self, or_self, decide_true, decide_false, Bool.not_true, Bool.not_false, Bool.false_eq_true, Nat.reduceEqDiff, Nat.reduceAdd, Int.reduceEq, Int.reduceLT, Int.reduceLE, Int.reduceNeg, Int.reduceAdd, Int.reduceSub, Int.reduceMul, reduceCtorEq, iA, iS, iM, iD, iR, iN, lA, lS, lM, lD, lR, h.1.k, wM_of (q_hasRows h), h0]
theorem q_tellsBetter (h : RC S v b P s) {i j f : Int} (hi : (0 ≤ i ∧ i < v P 2) ∧ 0 < cK v P s i) (hj : (0 ≤ j ∧ j < v P 2) ∧ 0 < cK v P s j) : mX11_tellsBetter [b, i, j, f] S v = some (if tb (cBg v P s) (fun a => v (P + (13 + a)) 1) f i j = true then 1 else 0, v) := by
  have hL := h.pl
  have ki := cK_b h hi.1
  have kj := cK_b h hj.1
  have hi4 : i < 4 := by have := h.2.2.2.2.2.2.2.1; omega
  have hj4 : j < 4 := by have := h.2.2.2.2.2.2.2.1; omega
  have ei : w32 (cK v P s i - 1) = cK v P s i - 1 := w32_e (by omega)
  have ej : w32 (cK v P s j - 1) = cK v P s j - 1 := by clear ei; exact w32_e (by omega)
  have di : 0 ≤ cK v P s i - 1 ∧ cK v P s i - 1 ≤ cD v P s i := by clear ei ej; omega
  have dj : 0 ≤ cK v P s j - 1 ∧ cK v P s j - 1 ≤ cD v P s j := by clear ei ej; omega
  apply wM_eq
  simp only [mX11_tellsBetter, sX11_tellsBetter, wE_I, wE_V, wE_F, wE_A, wE_N, wE_1, wE_2, wE_D, wE_B, wE_If, wE_C, wE_CV, wE_SL, wE_SA, wA_0, wA_1, wC_B, wC_E, wC_And, wC_Or, wC_Not, wS_Skip, wS_Brk, wS_Cnt, wS_RetV, wS_Ret, wS_Seq, wS_Set, wS_Inc, wS_Do, wS_Put, wS_PutC, wS_Arr, wS_ArrC, wS_If, wS_Sw, wS_F0, wS_F1, wM_q, lu_ap, aL_ap, ct_0, ct_1, ct_2, ct_3, ct_4, ct_5, headD_1, List.mem_cons, List.not_mem_nil, or_false, false_or, or_true, true_or, true_and, and_true, false_and, and_false, not_true_eq_false, not_false_eq_true, if_true, if_false, nr_20, nr_24, nr_40, nr_41, nr_44, pt_lt, pt_ge, pt_eq, pt_ne, pt_gt, pt_le, pt_E, pt_N, pt_F, ite_10, ite_11, ne_eq, and_self, or_self, decide_true, decide_false, Bool.not_true, Bool.not_false, Bool.false_eq_true, Nat.reduceEqDiff, Nat.reduceAdd, Int.reduceEq, Int.reduceLT, Int.reduceLE, Int.reduceNeg, Int.reduceAdd, Int.reduceSub, Int.reduceMul, reduceCtorEq, iA, iS, iM, iD, iR, iN, lA, lS, lM, lD, lR, h.1.k, h.2.1, hL.k, hL.p4, hL.a2, hL.n2, hL.ea _ hi.1.1 hi4, hL.ea _ hj.1.1 hj4, hL.a _ hi.1.1 hi4, hL.a _ hj.1.1 hj4, hi.1.1, hj.1.1, hi4, hj4, wM_of (q_keptRows h hi.1), wM_of (q_keptRows h hj.1), ei, ej, wM_of (q_rowBegin h hi.1 di), wM_of (q_rowBegin h hj.1 dj), tb, cBg]
  clear ei ej
  obtain ⟨x, hx⟩ : ∃ x, (cD v P s i - (cK v P s i - 1)) * cU v P i - cU v P i = x := ⟨_, rfl⟩
  obtain ⟨y, hy⟩ : ∃ y, (cD v P s j - (cK v P s j - 1)) * cU v P j - cU v P j = y := ⟨_, rfl⟩
  simp only [hx, hy]
  by_cases h1 : x ≤ f
  · have h3 : ¬ f < x := by omega
    by_cases h2 : y ≤ f <;> simp [h1, h2, h3]
  · have h3 : f < x := by omega
    by_cases h2 : y ≤ f
    · simp [h1, h2]
    · by_cases h4 : x = y
      · simp [h2, h3, h4]
      · simp [h1, h2, h3, h4]
theorem q_best (h : RC S v b P s) {x f : Int} : mX11_best [b, x, f] S v = some (if (0 ≤ x ∧ x ≤ 3) ∧ 0 ≤ f then be (fun a => decide (v (P + (13 + a)) 0 = x ∧ 0 < cK v P s a)) (tb (cBg v P s) (fun a => v (P + (13 + a)) 1) f) (v P 2).toNat else -1, v) := by
  have hL := h.pl
  have hn := h.2.2.2.2.2.2.2.1
  apply wM_eq
  by_cases h0 : (0 ≤ x ∧ x ≤ 3) ∧ 0 ≤ f
  · have e1 : ¬ x < 0 := by omega
    have e2 : ¬ 3 < x := by omega
    have e3 : ¬ f < 0 := by omega
    simp only [mX11_best, sX11_best, wE_I, wE_V, wE_F, wE_A, wE_N, wE_1, wE_2, wE_D, wE_B, wE_If, wE_C, wE_CV, wE_SL, wE_SA, wA_0, wA_1, wC_B, wC_E, wC_And, wC_Or, wC_Not, wS_Skip, wS_Brk, wS_Cnt, wS_RetV, wS_Ret, wS_Seq, wS_Set, wS_Inc, wS_Do, wS_Put, wS_PutC, wS_Arr, wS_ArrC, wS_If, wS_Sw, wS_F0, wS_F1, wM_q, lu_ap, aL_ap, ct_0, ct_1, ct_2, ct_3, ct_4, ct_5, headD_1, List.mem_cons, List.not_mem_nil, or_false, false_or, or_true, true_or, true_and, and_true, false_and, and_false, not_true_eq_false, not_false_eq_true, if_true, if_false, nr_20, nr_24, nr_40, nr_41, nr_44, pt_lt, pt_ge, pt_eq, pt_ne, pt_gt, pt_le, pt_E, pt_N, pt_F, ite_10, ite_11, ne_eq, and_self, or_self, decide_true, decide_false, Bool.not_true, Bool.not_false, Bool.false_eq_true, Nat.reduceEqDiff, Nat.reduceAdd, Int.reduceEq, Int.reduceLT, Int.reduceLE, Int.reduceNeg, Int.reduceAdd, Int.reduceSub, Int.reduceMul, reduceCtorEq, iA, iS, iM, iD, iR, iN, lA, lS, lM, lD, lR, h.1.k, h0, e1, e2, e3]
    refine wS_For (v P 2).toNat (fun j M w => (M 0 = b ∧ M 1 = x ∧ M 2 = f ∧ M 3 = be (fun a => decide (v (P + (13 + a)) 0 = x ∧ 0 < cK v P s a)) (tb (cBg v P s) (fun a => v (P + (13 + a)) 1) f) j ∧ M 4 = j) ∧ v = w) (by omega) ?_ ?_ ?_
    · simp [lu_ap, aL_ap, ct_0, ct_2, be]
    · rintro j M w hj ⟨⟨m0, m1, m2, m3, m4⟩, rfl⟩
      have hj1 : 0 ≤ (j : Int) ∧ (j : Int) < v P 2 := by omega
      have hj4 : (j : Int) < 4 := by omega
      have hb := be_b (c := (fun a => decide (v (P + (13 + a)) 0 = x ∧ 0 < cK v P s a))) (t := tb (cBg v P s) (fun a => v (P + (13 + a)) 1) f) j
      simp only [cX11_best_1, bX11_best_1, uX11_best_1, wE_I, wE_V, wE_F, wE_A, wE_N, wE_1, wE_2, wE_D, wE_B, wE_If, wE_C, wE_CV, wE_SL, wE_SA, wA_0, wA_1, wC_B, wC_E, wC_And, wC_Or, wC_Not, wS_Skip, wS_Brk, wS_Cnt, wS_RetV, wS_Ret, wS_Seq, wS_Set, wS_Inc, wS_Do, wS_Put, wS_PutC, wS_Arr, wS_ArrC, wS_If, wS_Sw, wS_F0, wS_F1, wM_q, lu_ap, aL_ap, ct_0, ct_1, ct_2, ct_3, ct_4, ct_5, headD_1, List.mem_cons, List.not_mem_nil, or_false, false_or, or_true, true_or, true_and, and_true, false_and, and_false, not_true_eq_false, not_false_eq_true, if_true, if_false, nr_20, nr_24, nr_40, nr_41, nr_44, pt_lt, pt_ge, pt_eq, pt_ne, pt_gt, pt_le, pt_E, pt_N, pt_F, ite_10, ite_11, ne_eq, and_self, or_self, decide_true, decide_false, Bool.not_true, Bool.not_false, Bool.false_eq_true, Nat.reduceEqDiff, Nat.reduceAdd, Int.reduceEq, Int.reduceLT, Int.reduceLE, Int.reduceNeg, Int.reduceAdd, Int.reduceSub, Int.reduceMul, reduceCtorEq, iA, iS, iM, iD, iR, iN, lA, lS, lM, lD, lR, h.1.k, h.2.1, hL.k, hL.p4, hL.a2, hL.n2, hL.ea _ hj1.1 hj4, hL.a _ hj1.1 hj4, hj1, hj4, m0, m1, m2, m3, m4, wM_of (q_keptRows h hj1), w32_s (show j < 1000 by omega), be]
      generalize hB : be (fun a => decide (v (P + (13 + a)) 0 = x ∧ 0 < cK v P s a)) (tb (cBg v P s) (fun a => v (P + (13 + a)) 1) f) j = B at hb ⊢
      by_cases h1 : v (P + (13 + (j : Int))) 0 = x ∧ 0 < cK v P s j
      · by_cases h2 : B = -1
        · simp [h1, h2]
        · have hB2 : (0 ≤ B ∧ B < v P 2) ∧ 0 < cK v P s B := by
            rcases hb with hb | hb
            · exact absurd hb h2
            · have := hb.2.2
              simp at this
              exact ⟨by omega, this.2⟩
          simp only [h1, h2, wE_I, wE_V, wE_F, wE_A, wE_N, wE_1, wE_2, wE_D, wE_B, wE_If, wE_C, wE_CV, wE_SL, wE_SA, wA_0, wA_1, wC_B, wC_E, wC_And, wC_Or, wC_Not, wS_Skip, wS_Brk, wS_Cnt, wS_RetV, wS_Ret, wS_Seq, wS_Set, wS_Inc, wS_Do, wS_Put, wS_PutC, wS_Arr, wS_ArrC, wS_If, wS_Sw, wS_F0, wS_F1, wM_q, lu_ap, aL_ap, ct_0, ct_1, ct_2, ct_3, ct_4, ct_5, headD_1, List.mem_cons, List.not_mem_nil, or_false, false_or, or_true, true_or, true_and, and_true, false_and, and_false, not_true_eq_false, not_false_eq_true, if_true, if_false, nr_20, nr_24, nr_40, nr_41, nr_44, pt_lt, pt_ge, pt_eq, pt_ne, pt_gt, pt_le, pt_E, pt_N, pt_F, ite_10, ite_11, ne_eq, and_self, or_self, decide_true, decide_false, Bool.not_true, Bool.not_false, Bool.false_eq_true, Nat.reduceEqDiff, Nat.reduceAdd, Int.reduceEq, Int.reduceLT, Int.reduceLE, Int.reduceNeg, Int.reduceAdd, Int.reduceSub, Int.reduceMul, reduceCtorEq, iA, iS, iM, iD, iR, iN, lA, lS, lM, lD, lR, wM_of (q_tellsBetter h ⟨hj1, h1.2⟩ hB2)]
          by_cases h3 : tb (cBg v P s) (fun a => v (P + (13 + a)) 1) f j B = true <;> simp [h3]
      · by_cases h2 : v (P + (13 + (j : Int))) 0 = x
        · have h3 : ¬ 0 < cK v P s j := fun q => h1 ⟨h2, q⟩
          simp [h2, h3]
        · simp [h2]
    · rintro M w ⟨⟨m0, m1, m2, m3, m4⟩, rfl⟩
      simp only [cX11_best_1, wE_I, wE_V, wE_F, wE_A, wE_N, wE_1, wE_2, wE_D, wE_B, wE_If, wE_C, wE_CV, wE_SL, wE_SA, wA_0, wA_1, wC_B, wC_E, wC_And, wC_Or, wC_Not, wS_Skip, wS_Brk, wS_Cnt, wS_RetV, wS_Ret, wS_Seq, wS_Set, wS_Inc, wS_Do, wS_Put, wS_PutC, wS_Arr, wS_ArrC, wS_If, wS_Sw, wS_F0, wS_F1, wM_q, lu_ap, aL_ap, ct_0, ct_1, ct_2, ct_3, ct_4, ct_5, headD_1, List.mem_cons, List.not_mem_nil, or_false, false_or, or_true, true_or, true_and, and_true, false_and, and_false, not_true_eq_false, not_false_eq_true, if_true, if_false, nr_20, nr_24, nr_40, nr_41, nr_44, pt_lt, pt_ge, pt_eq, pt_ne, pt_gt, pt_le, pt_E, pt_N, pt_F, ite_10, ite_11, ne_eq, and_self, or_self, decide_true, decide_false, Bool.not_true, Bool.not_false, Bool.false_eq_true, Nat.reduceEqDiff, Nat.reduceAdd, Int.reduceEq, Int.reduceLT, Int.reduceLE, Int.reduceNeg, Int.reduceAdd, Int.reduceSub, Int.reduceMul, reduceCtorEq, iA, iS, iM, iD, iR, iN, lA, lS, lM, lD, lR, h.1.k, h.2.1, hL.k, m0, m3, m4]
      omega
  · simp only [mX11_best, sX11_best, wE_I, wE_V, wE_F, wE_A, wE_N, wE_1, wE_2, wE_D, wE_B, wE_If, wE_C, wE_CV, wE_SL, wE_SA, wA_0, wA_1, wC_B, wC_E, wC_And, wC_Or, wC_Not, wS_Skip, wS_Brk, wS_Cnt, wS_RetV, wS_Ret, wS_Seq, wS_Set, wS_Inc, wS_Do, wS_Put, wS_PutC, wS_Arr, wS_ArrC, wS_If, wS_Sw, wS_F0, wS_F1, wM_q, lu_ap, aL_ap, ct_0, ct_1, ct_2, ct_3, ct_4, ct_5, headD_1, List.mem_cons, List.not_mem_nil, or_false, false_or, or_true, true_or, true_and, and_true, false_and, and_false, not_true_eq_false, not_false_eq_true, if_true, if_false, nr_20, nr_24, nr_40, nr_41, nr_44, pt_lt, pt_ge, pt_eq, pt_ne, pt_gt, pt_le, pt_E, pt_N, pt_F, ite_10, ite_11, ne_eq, and_self, or_self, decide_true, decide_false, Bool.not_true, Bool.not_false, Bool.false_eq_true, Nat.reduceEqDiff, Nat.reduceAdd, Int.reduceEq, Int.reduceLT, Int.reduceLE, Int.reduceNeg, Int.reduceAdd, Int.reduceSub, Int.reduceMul, reduceCtorEq, iA, iS, iM, iD, iR, iN, lA, lS, lM, lD, lR, h0]
    by_cases h1 : x < 0
    · simp [h1]
    · by_cases h2 : 3 < x
      · simp [h1, h2]
      · have h3 : f < 0 := by omega
        simp [h1, h2, h3]
theorem q_rowsBeyond (h : RC S v b P s) {a m : Int} (ha : 0 ≤ a ∧ a < v P 2) (hm : 0 ≤ m ∧ m < v P 1) : mX11_rowsBeyond [b, a, m] S v = some (nP (bt (cR v P s a m) (v (s + (4 + 6 * m)) 8) (v (s + (4 + 6 * m)) 9)) (cK v P s a).toNat, v) := by
  have hk := cK_b h ha
  have hst := h.st
  have hm4 : m < 4 := by have := h.2.2.2.2.2.2.1; omega
  apply wM_eq
  generalize hK : cK v P s a = K at hk ⊢
  generalize hρ : cR v P s a m = ρ
  simp only [mX11_rowsBeyond, sX11_rowsBeyond, wE_I, wE_V, wE_F, wE_A, wE_N, wE_1, wE_2, wE_D, wE_B, wE_If, wE_C, wE_CV, wE_SL, wE_SA, wA_0, wA_1, wC_B, wC_E, wC_And, wC_Or, wC_Not, wS_Skip, wS_Brk, wS_Cnt, wS_RetV, wS_Ret, wS_Seq, wS_Set, wS_Inc, wS_Do, wS_Put, wS_PutC, wS_Arr, wS_ArrC, wS_If, wS_Sw, wS_F0, wS_F1, wM_q, lu_ap, aL_ap, ct_0, ct_1, ct_2, ct_3, ct_4, ct_5, headD_1, List.mem_cons, List.not_mem_nil, or_false, false_or, or_true, true_or, true_and, and_true, false_and, and_false, not_true_eq_false, not_false_eq_true, if_true, if_false, nr_20, nr_24, nr_40, nr_41, nr_44, pt_lt, pt_ge, pt_eq, pt_ne, pt_gt, pt_le, pt_E, pt_N, pt_F, ite_10, ite_11, ne_eq, and_self, or_self, decide_true, decide_false, Bool.not_true, Bool.not_false, Bool.false_eq_true, Nat.reduceEqDiff, Nat.reduceAdd, Int.reduceEq, Int.reduceLT, Int.reduceLE, Int.reduceNeg, Int.reduceAdd, Int.reduceSub, Int.reduceMul, reduceCtorEq, iA, iS, iM, iD, iR, iN, lA, lS, lM, lD, lR, h.1.k, wM_of (q_keptRows h ha), wM_of (q_now h), hst.k, hst.p2, hst.a1, hst.n1, hst.em _ hm.1 hm4, hm, hm4, hK]
  refine wS_For K.toNat (fun j M w => (M 0 = b ∧ M 1 = a ∧ M 2 = m ∧ M 3 = s + (4 + 6 * m) ∧ M 4 = K ∧ M 5 = nP (bt ρ (v (s + (4 + 6 * m)) 8) (v (s + (4 + 6 * m)) 9)) j ∧ M 6 = j) ∧ v = w) (by omega) ?_ ?_ ?_
  · simp [lu_ap, aL_ap, ct_0, ct_2, nP]
  · rintro j M w hj ⟨⟨m0, m1, m2, m3, m4, m5, m6⟩, rfl⟩
    have hjK : 0 ≤ (j : Int) ∧ (j : Int) < K := by omega
    simp only [cX11_rowsBeyond_1, bX11_rowsBeyond_1, uX11_rowsBeyond_1, wE_I, wE_V, wE_F, wE_A, wE_N, wE_1, wE_2, wE_D, wE_B, wE_If, wE_C, wE_CV, wE_SL, wE_SA, wA_0, wA_1, wC_B, wC_E, wC_And, wC_Or, wC_Not, wS_Skip, wS_Brk, wS_Cnt, wS_RetV, wS_Ret, wS_Seq, wS_Set, wS_Inc, wS_Do, wS_Put, wS_PutC, wS_Arr, wS_ArrC, wS_If, wS_Sw, wS_F0, wS_F1, wM_q, lu_ap, aL_ap, ct_0, ct_1, ct_2, ct_3, ct_4, ct_5, headD_1, List.mem_cons, List.not_mem_nil, or_false, false_or, or_true, true_or, true_and, and_true, false_and, and_false, not_true_eq_false, not_false_eq_true, if_true, if_false, nr_20, nr_24, nr_40, nr_41, nr_44, pt_lt, pt_ge, pt_eq, pt_ne, pt_gt, pt_le, pt_E, pt_N, pt_F, ite_10, ite_11, ne_eq, and_self, or_self, decide_true, decide_false, Bool.not_true, Bool.not_false, Bool.false_eq_true, Nat.reduceEqDiff, Nat.reduceAdd, Int.reduceEq, Int.reduceLT, Int.reduceLE, Int.reduceNeg, Int.reduceAdd, Int.reduceSub, Int.reduceMul, reduceCtorEq, iA, iS, iM, iD, iR, iN, lA, lS, lM, lD, lR, h.1.k, m0, m1, m2, m3, m4, m5, m6, wM_of (q_rowTold h ha hm), hK, hρ, hjK, hst.m _ hm.1 hm4, w32_s (show j < 1000 by omega), w32_n _ (show j < 1000 by omega)]
    by_cases h1 : ρ j = -2147483648
    · simp [h1, nP, bt]
    · by_cases h2 : v (s + (4 + 6 * m)) 8 < ρ j
      · simp [h1, h2, nP, bt]
      · by_cases h3 : ρ j < v (s + (4 + 6 * m)) 9 <;> simp [h1, h2, h3, nP, bt]
  · rintro M w ⟨⟨m0, m1, m2, m3, m4, m5, m6⟩, rfl⟩
    simp only [cX11_rowsBeyond_1, wE_I, wE_V, wE_F, wE_A, wE_N, wE_1, wE_2, wE_D, wE_B, wE_If, wE_C, wE_CV, wE_SL, wE_SA, wA_0, wA_1, wC_B, wC_E, wC_And, wC_Or, wC_Not, wS_Skip, wS_Brk, wS_Cnt, wS_RetV, wS_Ret, wS_Seq, wS_Set, wS_Inc, wS_Do, wS_Put, wS_PutC, wS_Arr, wS_ArrC, wS_If, wS_Sw, wS_F0, wS_F1, wM_q, lu_ap, aL_ap, ct_0, ct_1, ct_2, ct_3, ct_4, ct_5, headD_1, List.mem_cons, List.not_mem_nil, or_false, false_or, or_true, true_or, true_and, and_true, false_and, and_false, not_true_eq_false, not_false_eq_true, if_true, if_false, nr_20, nr_24, nr_40, nr_41, nr_44, pt_lt, pt_ge, pt_eq, pt_ne, pt_gt, pt_le, pt_E, pt_N, pt_F, ite_10, ite_11, ne_eq, and_self, or_self, decide_true, decide_false, Bool.not_true, Bool.not_false, Bool.false_eq_true, Nat.reduceEqDiff, Nat.reduceAdd, Int.reduceEq, Int.reduceLT, Int.reduceLE, Int.reduceNeg, Int.reduceAdd, Int.reduceSub, Int.reduceMul, reduceCtorEq, iA, iS, iM, iD, iR, iN, lA, lS, lM, lD, lR, m4, m5, m6]
    omega
theorem q_law (h : RC S v b P s) : mX11_law [b] S v = some (sN (cLaw v P s) (v P 2).toNat, v) := by
  have hL := h.pl
  have hn := h.2.2.2.2.2.2.2.1
  have hm := h.2.2.2.2.2.2.1
  have bi : ∀ a : Int, 0 ≤ a → a < v P 2 → ∀ k : Nat, (k : Int) ≤ v P 1 → 0 ≤ sN (fun m => nP (bt (cR v P s a m) (v (s + (4 + 6 * m)) 8) (v (s + (4 + 6 * m)) 9)) (cK v P s a).toNat) k ∧ sN (fun m => nP (bt (cR v P s a m) (v (s + (4 + 6 * m)) 8) (v (s + (4 + 6 * m)) 9)) (cK v P s a).toNat) k ≤ 30 * k := by
    intro a h1 h2 k hk
    refine sN_b k (fun i h3 h4 => ?_)
    have := nP_b (bt (cR v P s a i) (v (s + (4 + 6 * i)) 8) (v (s + (4 + 6 * i)) 9)) (cK v P s a).toNat
    have hk := cK_b h ⟨h1, h2⟩
    omega
  have bo : ∀ k : Nat, (k : Int) ≤ v P 2 → 0 ≤ sN (cLaw v P s) k ∧ sN (cLaw v P s) k ≤ 120 * k := by
    intro k hk
    refine sN_b k (fun i h3 h4 => ?_)
    have := bi i h3 (by omega) (v P 1).toNat (by omega)
    unfold cLaw
    split <;> omega
  apply wM_eq
  simp only [mX11_law, sX11_law, wE_I, wE_V, wE_F, wE_A, wE_N, wE_1, wE_2, wE_D, wE_B, wE_If, wE_C, wE_CV, wE_SL, wE_SA, wA_0, wA_1, wC_B, wC_E, wC_And, wC_Or, wC_Not, wS_Skip, wS_Brk, wS_Cnt, wS_RetV, wS_Ret, wS_Seq, wS_Set, wS_Inc, wS_Do, wS_Put, wS_PutC, wS_Arr, wS_ArrC, wS_If, wS_Sw, wS_F0, wS_F1, wM_q, lu_ap, aL_ap, ct_0, ct_1, ct_2, ct_3, ct_4, ct_5, headD_1, List.mem_cons, List.not_mem_nil, or_false, false_or, or_true, true_or, true_and, and_true, false_and, and_false, not_true_eq_false, not_false_eq_true, if_true, if_false, nr_20, nr_24, nr_40, nr_41, nr_44, pt_lt, pt_ge, pt_eq, pt_ne, pt_gt, pt_le, pt_E, pt_N, pt_F, ite_10, ite_11, ne_eq, and_self, or_self, decide_true, decide_false, Bool.not_true, Bool.not_false, Bool.false_eq_true, Nat.reduceEqDiff, Nat.reduceAdd, Int.reduceEq, Int.reduceLT, Int.reduceLE, Int.reduceNeg, Int.reduceAdd, Int.reduceSub, Int.reduceMul, reduceCtorEq, iA, iS, iM, iD, iR, iN, lA, lS, lM, lD, lR]
  refine wS_For (v P 2).toNat (fun j M w => (M 0 = b ∧ M 1 = sN (cLaw v P s) j ∧ M 2 = j) ∧ v = w) (by omega) ?_ ?_ ?_
  · simp [lu_ap, aL_ap, ct_0, ct_2, sN]
  · rintro j M w hj ⟨⟨m0, m1, m2⟩, rfl⟩
    have hj1 : 0 ≤ (j : Int) ∧ (j : Int) < v P 2 := by omega
    have hj4 : (j : Int) < 4 := by omega
    simp only [cX11_law_1, bX11_law_1, uX11_law_1, wE_I, wE_V, wE_F, wE_A, wE_N, wE_1, wE_2, wE_D, wE_B, wE_If, wE_C, wE_CV, wE_SL, wE_SA, wA_0, wA_1, wC_B, wC_E, wC_And, wC_Or, wC_Not, wS_Skip, wS_Brk, wS_Cnt, wS_RetV, wS_Ret, wS_Seq, wS_Set, wS_Inc, wS_Do, wS_Put, wS_PutC, wS_Arr, wS_ArrC, wS_If, wS_Sw, wS_F0, wS_F1, wM_q, lu_ap, aL_ap, ct_0, ct_1, ct_2, ct_3, ct_4, ct_5, headD_1, List.mem_cons, List.not_mem_nil, or_false, false_or, or_true, true_or, true_and, and_true, false_and, and_false, not_true_eq_false, not_false_eq_true, if_true, if_false, nr_20, nr_24, nr_40, nr_41, nr_44, pt_lt, pt_ge, pt_eq, pt_ne, pt_gt, pt_le, pt_E, pt_N, pt_F, ite_10, ite_11, ne_eq, and_self, or_self, decide_true, decide_false, Bool.not_true, Bool.not_false, Bool.false_eq_true, Nat.reduceEqDiff, Nat.reduceAdd, Int.reduceEq, Int.reduceLT, Int.reduceLE, Int.reduceNeg, Int.reduceAdd, Int.reduceSub, Int.reduceMul, reduceCtorEq, iA, iS, iM, iD, iR, iN, lA, lS, lM, lD, lR, h.1.k, h.2.1, hL.k, hL.p4, hL.a2, hL.n2, hL.ea _ hj1.1 hj4, hL.a _ hj1.1 hj4, hj1, hj4, m0, m1, m2, w32_s (show j < 1000 by omega), sN]
    by_cases h1 : v (P + (13 + (j : Int))) 0 = 0
    · have eL : cLaw v P s j = sN (fun m => nP (bt (cR v P s j m) (v (s + (4 + 6 * m)) 8) (v (s + (4 + 6 * m)) 9)) (cK v P s j).toNat) (v P 1).toNat := if_pos h1
      simp only [h1, if_true]
      refine wS_For (v P 1).toNat (fun k M w => (M 0 = b ∧ M 1 = sN (cLaw v P s) j + sN (fun m => nP (bt (cR v P s j m) (v (s + (4 + 6 * m)) 8) (v (s + (4 + 6 * m)) 9)) (cK v P s j).toNat) k ∧ M 2 = j ∧ M 3 = k) ∧ v = w) (by omega) ?_ ?_ ?_
      · simp [lu_ap, m0, m1, m2, sN]
      · rintro k M w hk ⟨⟨m0, m1, m2, m3⟩, rfl⟩
        have hk1 : 0 ≤ (k : Int) ∧ (k : Int) < v P 1 := by omega
        have b1 := bi j hj1.1 hj1.2 (k + 1) (by omega)
        have b2 := bo j (by omega)
        simp only [cX11_law_2, bX11_law_2, uX11_law_2, wE_I, wE_V, wE_F, wE_A, wE_N, wE_1, wE_2, wE_D, wE_B, wE_If, wE_C, wE_CV, wE_SL, wE_SA, wA_0, wA_1, wC_B, wC_E, wC_And, wC_Or, wC_Not, wS_Skip, wS_Brk, wS_Cnt, wS_RetV, wS_Ret, wS_Seq, wS_Set, wS_Inc, wS_Do, wS_Put, wS_PutC, wS_Arr, wS_ArrC, wS_If, wS_Sw, wS_F0, wS_F1, wM_q, lu_ap, aL_ap, ct_0, ct_1, ct_2, ct_3, ct_4, ct_5, headD_1, List.mem_cons, List.not_mem_nil, or_false, false_or, or_true, true_or, true_and, and_true, false_and, and_false, not_true_eq_false, not_false_eq_true, if_true, if_false, nr_20, nr_24, nr_40, nr_41, nr_44, pt_lt, pt_ge, pt_eq, pt_ne, pt_gt, pt_le, pt_E, pt_N, pt_F, ite_10, ite_11, ne_eq, and_self, or_self, decide_true, decide_false, Bool.not_true, Bool.not_false, Bool.false_eq_true, Nat.reduceEqDiff, Nat.reduceAdd, Int.reduceEq, Int.reduceLT, Int.reduceLE, Int.reduceNeg, Int.reduceAdd, Int.reduceSub, Int.reduceMul, reduceCtorEq, iA, iS, iM, iD, iR, iN, lA, lS, lM, lD, lR, h.1.k, h.2.1, hL.k, m0, m1, m2, m3, hk1, wM_of (q_rowsBeyond h hj1 hk1), w32_s (show k < 1000 by omega), sN]
        rw [show ∀ x y z : Int, x + y + z = x + (y + z) from Int.add_assoc]
        refine w32_e ?_
        unfold sN at b1
        omega
      · rintro M w ⟨⟨m0, m1, m2, m3⟩, rfl⟩
        have hl : ¬ ((v P 1).toNat : Int) < v P 1 := by omega
        simp only [cX11_law_2, wE_I, wE_V, wE_F, wE_A, wE_N, wE_1, wE_2, wE_D, wE_B, wE_If, wE_C, wE_CV, wE_SL, wE_SA, wA_0, wA_1, wC_B, wC_E, wC_And, wC_Or, wC_Not, wS_Skip, wS_Brk, wS_Cnt, wS_RetV, wS_Ret, wS_Seq, wS_Set, wS_Inc, wS_Do, wS_Put, wS_PutC, wS_Arr, wS_ArrC, wS_If, wS_Sw, wS_F0, wS_F1, wM_q, lu_ap, aL_ap, ct_0, ct_1, ct_2, ct_3, ct_4, ct_5, headD_1, List.mem_cons, List.not_mem_nil, or_false, false_or, or_true, true_or, true_and, and_true, false_and, and_false, not_true_eq_false, not_false_eq_true, if_true, if_false, nr_20, nr_24, nr_40, nr_41, nr_44, pt_lt, pt_ge, pt_eq, pt_ne, pt_gt, pt_le, pt_E, pt_N, pt_F, ite_10, ite_11, ne_eq, and_self, or_self, decide_true, decide_false, Bool.not_true, Bool.not_false, Bool.false_eq_true, Nat.reduceEqDiff, Nat.reduceAdd, Int.reduceEq, Int.reduceLT, Int.reduceLE, Int.reduceNeg, Int.reduceAdd, Int.reduceSub, Int.reduceMul, reduceCtorEq, iA, iS, iM, iD, iR, iN, lA, lS, lM, lD, lR, h.1.k, h.2.1, hL.k, m0, m1, m2, m3, hl, eL, w32_s (show j < 1000 by omega)]
    · have eL : cLaw v P s j = 0 := if_neg h1
      simp [h1, eL]
  · rintro M w ⟨⟨m0, m1, m2⟩, rfl⟩
    simp only [cX11_law_1, wE_I, wE_V, wE_F, wE_A, wE_N, wE_1, wE_2, wE_D, wE_B, wE_If, wE_C, wE_CV, wE_SL, wE_SA, wA_0, wA_1, wC_B, wC_E, wC_And, wC_Or, wC_Not, wS_Skip, wS_Brk, wS_Cnt, wS_RetV, wS_Ret, wS_Seq, wS_Set, wS_Inc, wS_Do, wS_Put, wS_PutC, wS_Arr, wS_ArrC, wS_If, wS_Sw, wS_F0, wS_F1, wM_q, lu_ap, aL_ap, ct_0, ct_1, ct_2, ct_3, ct_4, ct_5, headD_1, List.mem_cons, List.not_mem_nil, or_false, false_or, or_true, true_or, true_and, and_true, false_and, and_false, not_true_eq_false, not_false_eq_true, if_true, if_false, nr_20, nr_24, nr_40, nr_41, nr_44, pt_lt, pt_ge, pt_eq, pt_ne, pt_gt, pt_le, pt_E, pt_N, pt_F, ite_10, ite_11, ne_eq, and_self, or_self, decide_true, decide_false, Bool.not_true, Bool.not_false, Bool.false_eq_true, Nat.reduceEqDiff, Nat.reduceAdd, Int.reduceEq, Int.reduceLT, Int.reduceLE, Int.reduceNeg, Int.reduceAdd, Int.reduceSub, Int.reduceMul, reduceCtorEq, iA, iS, iM, iD, iR, iN, lA, lS, lM, lD, lR, h.1.k, h.2.1, hL.k, m0, m1, m2]
    omega
end CB
