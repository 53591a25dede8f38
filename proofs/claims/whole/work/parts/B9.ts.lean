/-! STORE: the class's tokens -/
/-- a token's kind, its first sign, the sign behind it: behind the last token is the end -/
def kdT (w : QV) (T i : Int) : Int := if i < w T 5 then w (T + 2) i else 1
def stT (w : QV) (T i : Int) : Int := if i < w T 5 then w (T + 3) i else w T 1
def spT (w : QV) (T i : Int) : Int := if i < w T 5 then w (T + 4) i else w T 1
/-- the tokens, the end among them -/
def nTk (w : QV) (T : Int) : Int := w T 5 + 1
theorem nt_5 {u v : QV} {T : Int} (h : u T 5 = v T 5) : nTk u T = nTk v T := by unfold nTk; rw [h]
theorem nt_q {T : Int} {v u : QV} (h : ∀ a k, T ≤ a → a ≤ T + 4 → u a k = v a k) : nTk u T = nTk v T := nt_5 (h _ _ (by omega) (by omega))
theorem kd_q {T : Int} {v u : QV} (h : ∀ a k, T ≤ a → a ≤ T + 4 → u a k = v a k) : kdT u T = kdT v T := funext fun i => by
  unfold kdT; rw [h T 5 (by omega) (by omega), h (T + 2) i (by omega) (by omega)]
theorem st_q {T : Int} {v u : QV} (h : ∀ a k, T ≤ a → a ≤ T + 4 → u a k = v a k) : stT u T = stT v T := funext fun i => by
  unfold stT; rw [h T 5 (by omega) (by omega), h T 1 (by omega) (by omega), h (T + 3) i (by omega) (by omega)]
theorem sp_q {T : Int} {v u : QV} (h : ∀ a k, T ≤ a → a ≤ T + 4 → u a k = v a k) : spT u T = spT v T := funext fun i => by
  unfold spT; rw [h T 5 (by omega) (by omega), h T 1 (by omega) (by omega), h (T + 4) i (by omega) (by omega)]
theorem kd_lt {v : QV} {T i : Int} (h : kdT v T i ≠ 1) : i < nTk v T - 1 := by
  unfold kdT at h; unfold nTk
  by_cases c : i < v T 5
  · omega
  · rw [if_neg c] at h; exact absurd rfl h
theorem kd_r {v : QV} {T i : Int} (h : i < v T 5) : kdT v T i = v (T + 2) i := if_pos h
theorem st_r {v : QV} {T i : Int} (h : i < v T 5) : stT v T i = v (T + 3) i := if_pos h
theorem sp_r {v : QV} {T i : Int} (h : i < v T 5) : spT v T i = v (T + 4) i := if_pos h
theorem kd_e {v : QV} {T i : Int} (h : ¬ i < v T 5) : kdT v T i = 1 := if_neg h
theorem st_e {v : QV} {T i : Int} (h : ¬ i < v T 5) : stT v T i = v T 1 := if_neg h
theorem sp_e {v : QV} {T i : Int} (h : ¬ i < v T 5) : spT v T i = v T 1 := if_neg h
/-- as the scan lays them -/
def tkR (w : QV) (T : Int) (c : Int → Int) (n i : Int) : Prop := (0 ≤ w (T + 3) i ∧ w (T + 3) i < w (T + 4) i ∧ w (T + 4) i ≤ n) ∧ isSp c n (w (T + 3) i) (w (T + 4) i) ∧ isKd c (w (T + 3) i) (w (T + 4) i) (w (T + 2) i) ∧ ¬ isBl (c (w (T + 3) i))
def lsR (w : QV) (T t : Int) : Int := if t = 0 then 0 else w (T + 4) (t - 1)
def tkO (w : QV) (T : Int) (c : Int → Int) (n i : Int) : Prop := (0 ≤ stT w T i ∧ stT w T i < spT w T i ∧ spT w T i ≤ n) ∧ isSp c n (stT w T i) (spT w T i) ∧ isKd c (stT w T i) (spT w T i) (kdT w T i) ∧ ¬ isBl (c (stT w T i))
def lsO (w : QV) (T t : Int) : Int := if t = 0 then 0 else spT w T (t - 1)
def TKp (w : QV) (T : Int) (c : Int → Int) (n t p : Int) : Prop := (0 ≤ t ∧ t ≤ p ∧ p ≤ n) ∧ (∀ i, 0 ≤ i → i < t → tkR w T c n i ∧ isNb c n (lsR w T i) (w (T + 3) i)) ∧ (lsR w T t ≤ p ∧ ∀ k, lsR w T t ≤ k → k < p → isBl (c k))
/-- all tokens of a tape: the last is the end -/
def TK (w : QV) (T : Int) : Prop := (1 ≤ nTk w T ∧ nTk w T ≤ 1001) ∧ (kdT w T (nTk w T - 1) = 1 ∧ stT w T (nTk w T - 1) = w T 1 ∧ spT w T (nTk w T - 1) = w T 1) ∧ (∀ i, 0 ≤ i → i < nTk w T - 1 → tkO w T (w (T + 1)) (w T 1) i) ∧ (∀ i, 0 ≤ i → i < nTk w T → isNb (w (T + 1)) (w T 1) (lsO w T i) (stT w T i))
section TS
variable {S : QS} {v w : QV} {T : Int}
theorem t_add (h : LTp S v T) {kd p q t : Int} (ht : v T 5 = t) (hb : 0 ≤ t ∧ t < 1000) : mX10_add [T, kd, p, q] S v = some (0, vu (vu (vu (vu v (T + 2) t kd) (T + 3) t p) (T + 4) t q) T 5 (t + 1)) := by
  have o1 : 0 ≤ t ∧ t < 1000 := by omega
  have n2 : ¬ T = T + 2 := by omega
  have n3 : ¬ T = T + 3 := by omega
  have n4 : ¬ T = T + 4 := by omega
  have lt : t < 1000 := o1.2
  have e1 : w32 (t + 1) = t + 1 := w32_e (by omega)
  apply wM_eq
  simp only [mX10_add, sX10_add, wE_I, wE_V, wE_F, wE_A, wE_N, wE_1, wE_2, wE_D, wE_B, wE_If, wE_C, wE_CV, wE_SL, wE_SA, wA_0, wA_1, wC_B, wC_E, wC_And, wC_Or, wC_Not, wS_Skip, wS_Brk, wS_Cnt, wS_RetV, wS_Ret, wS_Seq, wS_Set, wS_Inc, wS_Do, wS_Put, wS_PutC, wS_Arr, wS_ArrC, wS_If, wS_Sw, wS_F0, wS_F1, wM_q, lu_ap, aL_ap, ct_0, ct_1, ct_2, ct_3, ct_4, ct_5, headD_1, List.mem_cons, List.not_mem_nil, or_false, false_or, or_true, true_or, true_and, and_true, false_and, and_false, not_true_eq_false, not_false_eq_true, if_true, if_false, nr_20, nr_24, nr_40, nr_41, nr_44, pt_lt, pt_ge, pt_eq, pt_ne, pt_gt, pt_le, pt_E, pt_N, pt_F, ite_10, ite_11, ne_eq, and_self, or_self, decide_true, decide_false, Bool.not_true, Bool.not_false, Bool.false_eq_true, Nat.reduceEqDiff, Nat.reduceAdd, Int.reduceEq, Int.reduceLT, Int.reduceLE, Int.reduceNeg, Int.reduceAdd, Int.reduceSub, Int.reduceMul, reduceCtorEq, iA, iS, iM, iD, iR, iN, lA, lS, lM, lD, lR, h.k, h.p2, h.p3, h.p4, h.a2, h.n2, h.a3, h.n3, h.a4, h.n4, ht, o1, lt, vu_ne, n2, n3, n4, Nat.le_refl, e1]
theorem TKp.add {c : Int → Int} {n t p q kd : Int} (h : TKp v T c n t p) (hp : p < q ∧ q ≤ n) (hs : isSp c n p q) (hk : isKd c p q kd) (hb : ¬ isBl (c p)) : TKp (vu (vu (vu (vu v (T + 2) t kd) (T + 3) t p) (T + 4) t q) T 5 (t + 1)) T c n (t + 1) q := by
  obtain ⟨h1, h2, h3, h4⟩ := h
  have f2 : ∀ k, vu (vu (vu (vu v (T + 2) t kd) (T + 3) t p) (T + 4) t q) T 5 (t + 1) (T + 2) k = if k = t then kd else v (T + 2) k := fun k => by
    rw [vu_ne (by omega), vu_ne (by omega), vu_ne (by omega), vu_ap]
    by_cases e : k = t
    · rw [if_pos ⟨rfl, e⟩, if_pos e]
    · rw [if_neg (fun z => e z.2), if_neg e]
  have f3 : ∀ k, vu (vu (vu (vu v (T + 2) t kd) (T + 3) t p) (T + 4) t q) T 5 (t + 1) (T + 3) k = if k = t then p else v (T + 3) k := fun k => by
    rw [vu_ne (by omega), vu_ne (by omega), vu_ap]
    by_cases e : k = t
    · rw [if_pos ⟨rfl, e⟩, if_pos e]
    · rw [if_neg (fun z => e z.2), if_neg e, vu_ne (by omega)]
  have f4 : ∀ k, vu (vu (vu (vu v (T + 2) t kd) (T + 3) t p) (T + 4) t q) T 5 (t + 1) (T + 4) k = if k = t then q else v (T + 4) k := fun k => by
    rw [vu_ne (by omega), vu_ap]
    by_cases e : k = t
    · rw [if_pos ⟨rfl, e⟩, if_pos e]
    · rw [if_neg (fun z => e z.2), if_neg e, vu_ne (by omega), vu_ne (by omega)]
  generalize vu (vu (vu (vu v (T + 2) t kd) (T + 3) t p) (T + 4) t q) T 5 (t + 1) = w at *
  have fl : ∀ i, 0 ≤ i → i ≤ t → lsR w T i = lsR v T i := fun i i0 i1 => by
    unfold lsR
    split
    · rfl
    · rw [f4, if_neg (by omega)]
  have fe : lsR w T (t + 1) = q := by
    unfold lsR
    rw [if_neg (by omega), f4, if_pos (by omega)]
  refine ⟨by omega, fun i i0 i1 => ?_, by rw [fe]; omega, fun k k0 k1 => by rw [fe] at k0; omega⟩
  rw [fl i i0 (by omega)]
  by_cases e : i = t
  · subst e
    unfold tkR
    rw [f2, f3, f4, if_pos rfl, if_pos rfl, if_pos rfl]
    exact ⟨⟨by omega, hs, hk, hb⟩, ⟨by omega, by omega⟩, h4, fun _ => hb⟩
  · have := h2 i i0 (by omega)
    unfold tkR at this ⊢
    rw [f2, f3, f4, if_neg e, if_neg e, if_neg e]
    exact this
theorem c_scan (h : LTp S v T) (hn : 0 ≤ v T 1 ∧ v T 1 ≤ 1000) : wM mX10_scan [T] S v (fun _ w => TK w T ∧ w T 1 = v T 1 ∧ (∀ a k, a ≠ T + 2 → a ≠ T + 3 → a ≠ T + 4 → (a = T → k ≠ 5) → w a k = v a k)) := by
  simp only [mX10_scan, sX10_scan, wM_q]
  generalize hL : aL 0 [2] [T] = L
  have m0 : L 0 = T := by rw [← hL]; simp [aL_ap, ct_0, ct_1, ct_2]
  clear hL
  refine ws_step (L' := L) (w := vu v T 5 0) (by simp only [wE_I, wE_V, wE_F, wE_A, wE_N, wE_1, wE_2, wE_D, wE_B, wE_If, wE_C, wE_CV, wE_SL, wE_SA, wA_0, wA_1, wC_B, wC_E, wC_And, wC_Or, wC_Not, wS_Skip, wS_Brk, wS_Cnt, wS_RetV, wS_Ret, wS_Seq, wS_Set, wS_Inc, wS_Do, wS_Put, wS_PutC, wS_Arr, wS_ArrC, wS_If, wS_Sw, wS_F0, wS_F1, wM_q, lu_ap, aL_ap, ct_0, ct_1, ct_2, ct_3, ct_4, ct_5, headD_1, List.mem_cons, List.not_mem_nil, or_false, false_or, or_true, true_or, true_and, and_true, false_and, and_false, not_true_eq_false, not_false_eq_true, if_true, if_false, nr_20, nr_24, nr_40, nr_41, nr_44, pt_lt, pt_ge, pt_eq, pt_ne, pt_gt, pt_le, pt_E, pt_N, pt_F, ite_10, ite_11, ne_eq, and_self, or_self, decide_true, decide_false, Bool.not_true, Bool.not_false, Bool.false_eq_true, Nat.reduceEqDiff, Nat.reduceAdd, Int.reduceEq, Int.reduceLT, Int.reduceLE, Int.reduceNeg, Int.reduceAdd, Int.reduceSub, Int.reduceMul, reduceCtorEq, iA, iS, iM, iD, iR, iN, lA, lS, lM, lD, lR, m0, h.k]) ?_
  refine ws_step (L' := lu L 1 0) (w := vu v T 5 0) (by simp only [wE_I, wE_V, wE_F, wE_A, wE_N, wE_1, wE_2, wE_D, wE_B, wE_If, wE_C, wE_CV, wE_SL, wE_SA, wA_0, wA_1, wC_B, wC_E, wC_And, wC_Or, wC_Not, wS_Skip, wS_Brk, wS_Cnt, wS_RetV, wS_Ret, wS_Seq, wS_Set, wS_Inc, wS_Do, wS_Put, wS_PutC, wS_Arr, wS_ArrC, wS_If, wS_Sw, wS_F0, wS_F1, wM_q, lu_ap, aL_ap, ct_0, ct_1, ct_2, ct_3, ct_4, ct_5, headD_1, List.mem_cons, List.not_mem_nil, or_false, false_or, or_true, true_or, true_and, and_true, false_and, and_false, not_true_eq_false, not_false_eq_true, if_true, if_false, nr_20, nr_24, nr_40, nr_41, nr_44, pt_lt, pt_ge, pt_eq, pt_ne, pt_gt, pt_le, pt_E, pt_N, pt_F, ite_10, ite_11, ne_eq, and_self, or_self, decide_true, decide_false, Bool.not_true, Bool.not_false, Bool.false_eq_true, Nat.reduceEqDiff, Nat.reduceAdd, Int.reduceEq, Int.reduceLT, Int.reduceLE, Int.reduceNeg, Int.reduceAdd, Int.reduceSub, Int.reduceMul, reduceCtorEq, iA, iS, iM, iD, iR, iN, lA, lS, lM, lD, lR]) ?_
  have n0 : lu L 1 0 0 = T := by simp [lu_ap, m0]
  have n1 : lu L 1 0 1 = 0 := by simp [lu_ap]
  generalize lu L 1 0 = L1 at *
  rw [wS_Seq]
  refine wS_mono (Q' := fun k _ L' w => k = 0 ∧ L' 0 = T ∧ ∃ t, Kc S v w ∧ w T 5 = t ∧ TKp w T (v (T + 1)) (v T 1) t (v T 1) ∧ ∀ a k, a ≠ T + 2 → a ≠ T + 3 → a ≠ T + 4 → (a = T → k ≠ 5) → w a k = v a k) ?_ ?_
  · simp only [wE_I, wE_V, wE_F, wE_A, wE_N, wE_1, wE_2, wE_D, wE_B, wE_If, wE_C, wE_CV, wE_SL, wE_SA, wA_0, wA_1, wC_B, wC_E, wC_And, wC_Or, wC_Not, wS_Skip, wS_Brk, wS_Cnt, wS_RetV, wS_Ret, wS_Seq, wS_Set, wS_Inc, wS_Do, wS_Put, wS_PutC, wS_Arr, wS_ArrC, wS_If, wS_Sw, wS_F0, wS_F1, wM_q, lu_ap, aL_ap, ct_0, ct_1, ct_2, ct_3, ct_4, ct_5, headD_1, List.mem_cons, List.not_mem_nil, or_false, false_or, or_true, true_or, true_and, and_true, false_and, and_false, not_true_eq_false, not_false_eq_true, if_true, if_false, nr_20, nr_24, nr_40, nr_41, nr_44, pt_lt, pt_ge, pt_eq, pt_ne, pt_gt, pt_le, pt_E, pt_N, pt_F, ite_10, ite_11, ne_eq, and_self, or_self, decide_true, decide_false, Bool.not_true, Bool.not_false, Bool.false_eq_true, Nat.reduceEqDiff, Nat.reduceAdd, Int.reduceEq, Int.reduceLT, Int.reduceLE, Int.reduceNeg, Int.reduceAdd, Int.reduceSub, Int.reduceMul, reduceCtorEq, iA, iS, iM, iD, iR, iN, lA, lS, lM, lD, lR]
    refine wS_While (fun k L w => ∃ i p t : Int, (L 0 = T ∧ L 1 = p ∧ L 2 = i) ∧ (0 ≤ i ∧ i ≤ p ∧ (k : Int) = v T 1 - p) ∧ Kc S v w ∧ w T 5 = t ∧ TKp w T (v (T + 1)) (v T 1) t p ∧ ∀ a k, a ≠ T + 2 → a ≠ T + 3 → a ≠ T + 4 → (a = T → k ≠ 5) → w a k = v a k) (v T 1).toNat (by omega) ?_ ?_
    · refine ⟨0, 0, 0, ⟨by simp [lu_ap, n0], by simp [lu_ap, n1], by simp [lu_ap]⟩, by omega, Kc.vu Kc.rf (by rw [h.k]; rfl), vu_is, ⟨by omega, fun i i0 i1 => by omega, by unfold lsR; rw [if_pos rfl]; exact Int.le_refl _, fun k k0 k1 => by unfold lsR at k0; rw [if_pos rfl] at k0; omega⟩, fun a k _ _ _ h5 => by rw [vu_ne (fun e => h5 e.1 e.2)]⟩
    · rintro k L w ⟨i, p, t, ⟨l0, l1, l2⟩, ⟨hi0, hip, hk⟩, hkc, ht, hT, hf⟩
      have hw := h.keep hkc.p
      have w1 : w T 1 = v T 1 := hf _ _ (by omega) (by omega) (by omega) (by omega)
      have wc : ∀ k, w (T + 1) k = v (T + 1) k := fun k => hf _ _ (by omega) (by omega) (by omega) (by omega)
      have wcf : w (T + 1) = v (T + 1) := funext wc
      by_cases hp : p < v T 1
      · have o1 : 0 ≤ p ∧ p < 1000 := by have := hT.1; omega
        have hi : i < 1000 := by omega
        by_cases cb : isBl (v (T + 1) p)
        · have e1 : w32 (p + 1) = p + 1 := w32_e (by omega)
          have e2 : w32 (i + 1) = i + 1 := by clear e1; exact w32_e (by omega)
          simp only [cX10_scan_1, bX10_scan_1, uX10_scan_1, wE_I, wE_V, wE_F, wE_A, wE_N, wE_1, wE_2, wE_D, wE_B, wE_If, wE_C, wE_CV, wE_SL, wE_SA, wA_0, wA_1, wC_B, wC_E, wC_And, wC_Or, wC_Not, wS_Skip, wS_Brk, wS_Cnt, wS_RetV, wS_Ret, wS_Seq, wS_Set, wS_Inc, wS_Do, wS_Put, wS_PutC, wS_Arr, wS_ArrC, wS_If, wS_Sw, wS_F0, wS_F1, wM_q, lu_ap, aL_ap, ct_0, ct_1, ct_2, ct_3, ct_4, ct_5, headD_1, List.mem_cons, List.not_mem_nil, or_false, false_or, or_true, true_or, true_and, and_true, false_and, and_false, not_true_eq_false, not_false_eq_true, if_true, if_false, nr_20, nr_24, nr_40, nr_41, nr_44, pt_lt, pt_ge, pt_eq, pt_ne, pt_gt, pt_le, pt_E, pt_N, pt_F, ite_10, ite_11, ne_eq, and_self, or_self, decide_true, decide_false, Bool.not_true, Bool.not_false, Bool.false_eq_true, Nat.reduceEqDiff, Nat.reduceAdd, Int.reduceEq, Int.reduceLT, Int.reduceLE, Int.reduceNeg, Int.reduceAdd, Int.reduceSub, Int.reduceMul, reduceCtorEq, iA, iS, iM, iD, iR, iN, lA, lS, lM, lD, lR, l0, l1, l2, hw.k, w1, hi, hp, hw.p0, h.a1, h.n1, o1, wc, wM_of (q_isBl1 cb), e1, e2]
          clear e1 e2
          obtain ⟨t1, t2, t3, t4⟩ := hT
          refine ⟨(v T 1 - (p + 1)).toNat, by omega, i + 1, p + 1, t, ⟨rfl, rfl⟩, by omega, hkc, ht, ⟨by omega, t2, by omega, fun k k0 k1 => ?_⟩, hf⟩
          by_cases e : k = p
          · rw [e]; exact cb
          · exact t4 k k0 (by omega)
        · have hst := q_stopOf hw (show w T 1 ≤ 1000 by omega) (show 0 ≤ p ∧ p < w T 1 by omega)
          rw [wcf, w1] at hst
          simp only [cX10_scan_1, bX10_scan_1, wE_I, wE_V, wE_F, wE_A, wE_N, wE_1, wE_2, wE_D, wE_B, wE_If, wE_C, wE_CV, wE_SL, wE_SA, wA_0, wA_1, wC_B, wC_E, wC_And, wC_Or, wC_Not, wS_Skip, wS_Brk, wS_Cnt, wS_RetV, wS_Ret, wS_Seq, wS_Set, wS_Inc, wS_Do, wS_Put, wS_PutC, wS_Arr, wS_ArrC, wS_If, wS_Sw, wS_F0, wS_F1, wM_q, lu_ap, aL_ap, ct_0, ct_1, ct_2, ct_3, ct_4, ct_5, headD_1, List.mem_cons, List.not_mem_nil, or_false, false_or, or_true, true_or, true_and, and_true, false_and, and_false, not_true_eq_false, not_false_eq_true, if_true, if_false, nr_20, nr_24, nr_40, nr_41, nr_44, pt_lt, pt_ge, pt_eq, pt_ne, pt_gt, pt_le, pt_E, pt_N, pt_F, ite_10, ite_11, ne_eq, and_self, or_self, decide_true, decide_false, Bool.not_true, Bool.not_false, Bool.false_eq_true, Nat.reduceEqDiff, Nat.reduceAdd, Int.reduceEq, Int.reduceLT, Int.reduceLE, Int.reduceNeg, Int.reduceAdd, Int.reduceSub, Int.reduceMul, reduceCtorEq, iA, iS, iM, iD, iR, iN, lA, lS, lM, lD, lR, l0, l1, l2, hw.k, w1, hi, hp, hw.p0, h.a1, h.n1, o1, wc, wM_of (q_isBl0 cb)]
          refine wM_mono hst ?_
          rintro q u e ⟨rfl, hsp⟩
          have hq : p < q ∧ q ≤ v T 1 := by
            unfold isSp isRn at hsp
            by_cases cl : isLe (v (T + 1) p)
            · exact (hsp.1 cl).1
            · by_cases cd : isDg (v (T + 1) p)
              · exact (hsp.2.1 cd).1
              · have := hsp.2.2 cl cd
                omega
          have hkd := q_kindOf hw (p := p) (q := q) (by omega) (by omega)
          rw [wcf] at hkd
          refine wM_mono hkd ?_
          rintro kd u2 e2 ⟨rfl, hkk⟩
          have had := t_add (S := S) (kd := kd) (p := p) (q := q) hw ht (by have := hT.1; omega)
          have hTa := hT.add (kd := kd) hq hsp hkk cb
          have kc2 := hkc.tr (Kc.of kX10_add had)
          have e3 : w32 (i + 1) = i + 1 := w32_e (by omega)
          simp only [uX10_scan_1, wE_I, wE_V, wE_F, wE_A, wE_N, wE_1, wE_2, wE_D, wE_B, wE_If, wE_C, wE_CV, wE_SL, wE_SA, wA_0, wA_1, wC_B, wC_E, wC_And, wC_Or, wC_Not, wS_Skip, wS_Brk, wS_Cnt, wS_RetV, wS_Ret, wS_Seq, wS_Set, wS_Inc, wS_Do, wS_Put, wS_PutC, wS_Arr, wS_ArrC, wS_If, wS_Sw, wS_F0, wS_F1, wM_q, lu_ap, aL_ap, ct_0, ct_1, ct_2, ct_3, ct_4, ct_5, headD_1, List.mem_cons, List.not_mem_nil, or_false, false_or, or_true, true_or, true_and, and_true, false_and, and_false, not_true_eq_false, not_false_eq_true, if_true, if_false, nr_20, nr_24, nr_40, nr_41, nr_44, pt_lt, pt_ge, pt_eq, pt_ne, pt_gt, pt_le, pt_E, pt_N, pt_F, ite_10, ite_11, ne_eq, and_self, or_self, decide_true, decide_false, Bool.not_true, Bool.not_false, Bool.false_eq_true, Nat.reduceEqDiff, Nat.reduceAdd, Int.reduceEq, Int.reduceLT, Int.reduceLE, Int.reduceNeg, Int.reduceAdd, Int.reduceSub, Int.reduceMul, reduceCtorEq, iA, iS, iM, iD, iR, iN, lA, lS, lM, lD, lR, wM_of had, l2, e3]
          clear e3
          refine ⟨(v T 1 - q).toNat, by omega, i + 1, q, t + 1, ⟨l0, rfl, rfl⟩, by omega, kc2, vu_is, hTa, fun a k h2 h3 h4 h5 => ?_⟩
          rw [vu_ne (fun z => h5 z.1 z.2), vu_ne (fun z => h4 z.1), vu_ne (fun z => h3 z.1), vu_ne (fun z => h2 z.1)]
          exact hf a k h2 h3 h4 h5
      · have hpe : p = v T 1 := by have := hT.1; omega
        subst hpe
        by_cases hi : i < 1000
        · simp only [cX10_scan_1, wE_I, wE_V, wE_F, wE_A, wE_N, wE_1, wE_2, wE_D, wE_B, wE_If, wE_C, wE_CV, wE_SL, wE_SA, wA_0, wA_1, wC_B, wC_E, wC_And, wC_Or, wC_Not, wS_Skip, wS_Brk, wS_Cnt, wS_RetV, wS_Ret, wS_Seq, wS_Set, wS_Inc, wS_Do, wS_Put, wS_PutC, wS_Arr, wS_ArrC, wS_If, wS_Sw, wS_F0, wS_F1, wM_q, lu_ap, aL_ap, ct_0, ct_1, ct_2, ct_3, ct_4, ct_5, headD_1, List.mem_cons, List.not_mem_nil, or_false, false_or, or_true, true_or, true_and, and_true, false_and, and_false, not_true_eq_false, not_false_eq_true, if_true, if_false, nr_20, nr_24, nr_40, nr_41, nr_44, pt_lt, pt_ge, pt_eq, pt_ne, pt_gt, pt_le, pt_E, pt_N, pt_F, ite_10, ite_11, ne_eq, and_self, or_self, decide_true, decide_false, Bool.not_true, Bool.not_false, Bool.false_eq_true, Nat.reduceEqDiff, Nat.reduceAdd, Int.reduceEq, Int.reduceLT, Int.reduceLE, Int.reduceNeg, Int.reduceAdd, Int.reduceSub, Int.reduceMul, reduceCtorEq, iA, iS, iM, iD, iR, iN, lA, lS, lM, lD, lR, l0, l1, l2, hw.k, w1, hi, hp]
          exact ⟨t, hkc, ht, hT, hf⟩
        · simp only [cX10_scan_1, wE_I, wE_V, wE_F, wE_A, wE_N, wE_1, wE_2, wE_D, wE_B, wE_If, wE_C, wE_CV, wE_SL, wE_SA, wA_0, wA_1, wC_B, wC_E, wC_And, wC_Or, wC_Not, wS_Skip, wS_Brk, wS_Cnt, wS_RetV, wS_Ret, wS_Seq, wS_Set, wS_Inc, wS_Do, wS_Put, wS_PutC, wS_Arr, wS_ArrC, wS_If, wS_Sw, wS_F0, wS_F1, wM_q, lu_ap, aL_ap, ct_0, ct_1, ct_2, ct_3, ct_4, ct_5, headD_1, List.mem_cons, List.not_mem_nil, or_false, false_or, or_true, true_or, true_and, and_true, false_and, and_false, not_true_eq_false, not_false_eq_true, if_true, if_false, nr_20, nr_24, nr_40, nr_41, nr_44, pt_lt, pt_ge, pt_eq, pt_ne, pt_gt, pt_le, pt_E, pt_N, pt_F, ite_10, ite_11, ne_eq, and_self, or_self, decide_true, decide_false, Bool.not_true, Bool.not_false, Bool.false_eq_true, Nat.reduceEqDiff, Nat.reduceAdd, Int.reduceEq, Int.reduceLT, Int.reduceLE, Int.reduceNeg, Int.reduceAdd, Int.reduceSub, Int.reduceMul, reduceCtorEq, iA, iS, iM, iD, iR, iN, lA, lS, lM, lD, lR, l0, l2, hi]
          exact ⟨t, hkc, ht, hT, hf⟩
  · rintro k z L2 w ⟨rfl, l0, t, hkc, ht, hT, hf⟩
    rw [if_pos rfl]
    have w1 : w T 1 = v T 1 := hf _ _ (by omega) (by omega) (by omega) (by omega)
    have wcf : w (T + 1) = v (T + 1) := funext fun k => hf _ _ (by omega) (by omega) (by omega) (by omega)
    simp only [wE_I, wE_V, wE_F, wE_A, wE_N, wE_1, wE_2, wE_D, wE_B, wE_If, wE_C, wE_CV, wE_SL, wE_SA, wA_0, wA_1, wC_B, wC_E, wC_And, wC_Or, wC_Not, wS_Skip, wS_Brk, wS_Cnt, wS_RetV, wS_Ret, wS_Seq, wS_Set, wS_Inc, wS_Do, wS_Put, wS_PutC, wS_Arr, wS_ArrC, wS_If, wS_Sw, wS_F0, wS_F1, wM_q, lu_ap, aL_ap, ct_0, ct_1, ct_2, ct_3, ct_4, ct_5, headD_1, List.mem_cons, List.not_mem_nil, or_false, false_or, or_true, true_or, true_and, and_true, false_and, and_false, not_true_eq_false, not_false_eq_true, if_true, if_false, nr_20, nr_24, nr_40, nr_41, nr_44, pt_lt, pt_ge, pt_eq, pt_ne, pt_gt, pt_le, pt_E, pt_N, pt_F, ite_10, ite_11, ne_eq, and_self, or_self, decide_true, decide_false, Bool.not_true, Bool.not_false, Bool.false_eq_true, Nat.reduceEqDiff, Nat.reduceAdd, Int.reduceEq, Int.reduceLT, Int.reduceLE, Int.reduceNeg, Int.reduceAdd, Int.reduceSub, Int.reduceMul, reduceCtorEq]
    obtain ⟨t1, t2, t3, t4⟩ := hT
    have hn5 : nTk w T = t + 1 := by unfold nTk; rw [ht]
    have fl : ∀ i, 0 ≤ i → i ≤ t → lsO w T i = lsR w T i := fun i i0 i1 => by
      unfold lsO lsR
      split
      · rfl
      · exact sp_r (by omega)
    refine ⟨⟨by omega, ?_, fun i i0 i1 => ?_, fun i i0 i1 => ?_⟩, w1, hf⟩
    · exact ⟨kd_e (by omega), st_e (by omega), sp_e (by omega)⟩
    · have := (t2 i i0 (by omega)).1
      unfold tkR at this
      unfold tkO
      rw [kd_r (by omega), st_r (by omega), sp_r (by omega), wcf, w1]
      exact this
    · rw [fl i i0 (by omega), wcf, w1]
      by_cases e : i = t
      · rw [st_e (by omega), w1, e]
        exact ⟨⟨t3, Int.le_refl _⟩, t4, fun z => absurd z (Int.lt_irrefl _)⟩
      · rw [st_r (by omega)]
        exact (t2 i i0 (by omega)).2
end TS
