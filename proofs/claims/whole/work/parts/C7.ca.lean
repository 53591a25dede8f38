/-! STORE: an archive's line, the class's -/
def TR (T : Int) (v u : QV) : Prop := ∀ a k, T ≤ a → a ≤ T + 4 → u a k = v a k
theorem TR.rf {T : Int} {v : QV} : TR T v v := fun _ _ _ _ => rfl
theorem TR.tr {T : Int} {v u w : QV} (h : TR T v u) (h' : TR T u w) : TR T v w := fun a k h1 h2 => (h' a k h1 h2).trans (h a k h1 h2)
theorem TR.vu {T a k z : Int} {v u : QV} (h : TR T v u) (ha : a < T ∨ T + 4 < a) : TR T v (vu u a k z) := fun b j h1 h2 => by
  rw [vu_ne (by omega)]; exact h b j h1 h2
theorem dvT_q {T i : Int} {v u : QV} (h : TR T v u) : dvT u T i = dvT v T i := by
  unfold dvT
  rw [st_q h, sp_q h, show u (T + 1) = v (T + 1) from funext fun k => h _ _ (by omega) (by omega)]
theorem nmT_q {T i : Int} {v u : QV} (h : TR T v u) : nmT u T i = nmT v T i := by
  unfold nmT
  rw [dvT_q h]
theorem fNu_q {T lo hi i : Int} {v u : QV} (h : TR T v u) : fNu u T lo hi i = fNu v T lo hi i := by
  unfold fNu
  rw [nmT_q h, kd_q h]
theorem fNu_0 {T lo hi i : Int} {v : QV} (h : fNu v T lo hi i = 0) : kdT v T i = 3 ∧ lo ≤ nmT v T i ∧ nmT v T i ≤ hi := by
  unfold fNu at h
  split at h
  · split at h
    · rename_i a b; exact ⟨a, b⟩
    · cases h
  · cases h
section CA
variable {S : QS} {v w u : QV} {M T n x P : Int} {o : Int × Int}
theorem PS.mv {i j : Int} (h : PS S u T x P i) (hk : Kp S u w) (ht : TR T u w) (h0 : w x 0 = u x 0) (h1 : w x 1 = u x 1) (h2 : w x 2 = j) (hj : 0 ≤ j ∧ j < nTk u T) : PS S w T x P j := by
  obtain ⟨p1, p2, p3, p4, p5, p6, p7, p8, p9, p10⟩ := h
  have eT : ∀ k, w T k = u T k := fun k => ht _ _ (by omega) (by omega)
  refine ⟨p1.keep hk, p2.keep hk, h0.trans p3, h1.trans p4, h2, by rw [nt_q ht]; exact hj, TK_q ht p7, by rw [eT]; exact p8, fun k k0 k1 => ?_, p10⟩
  rw [eT] at k1
  rw [ht _ _ (by omega) (by omega)]
  exact p9 k k0 k1
theorem PS.put {i a k z : Int} (h : PS S u T x P i) (ha : a < T ∨ x < a) (hk : Wc (S.1 a) k = true) : PS S (vu u a k z) T x P i := by
  have h10 := h.2.2.2.2.2.2.2.2.2
  refine h.mv (Kp.rf.vuc hk) (TR.rf.vu (by omega)) (by rw [vu_ne (by omega)]) (by rw [vu_ne (by omega)]) (by rw [vu_ne (by omega)]; exact h.2.2.2.2.1) h.2.2.2.2.2.1
theorem PS.nx {i : Int} (h : PS S u T x P i) (hk : kdT u T i ≠ 1) : i + 1 < nTk u T := by
  have h6 := h.2.2.2.2.2.1
  have h7 := h.2.2.2.2.2.2.1
  have : i ≠ nTk u T - 1 := fun e => hk (by rw [e]; exact h7.2.1.1)
  omega
theorem PS.go {i j : Int} (h : PS S u T x P i) (hj : 0 ≤ j ∧ j < nTk u T) : PS S (vu u x 2 j) T x P j := by
  have h10 := h.2.2.2.2.2.2.2.2.2
  refine h.mv (Kp.rf.vuc (by rw [h.2.1.k]; rfl)) (TR.rf.vu (by omega)) (by rw [vu_ne (by simp)]) (by rw [vu_ne (by simp)]) vu_is hj
/-- what a step of the class's parser does -/
theorem c_num {i lo hi : Int} (h : PS S u T x P i) (ht : TR T v u) : wM mX5_takeNumber [x, lo, hi] S u (fun r w => (fNu v T lo hi i = 0 ∧ r = nmT v T i ∧ w = vu u x 2 (i + 1) ∧ PS S w T x P (i + 1) ∧ TR T v w) ∨ (¬ fNu v T lo hi i = 0 ∧ r = -1 ∧ w = vu (vu u x 3 (fNu v T lo hi i)) x 4 (stT v T i))) := by
  have hq := q_takeNumber (lo := lo) (hi := hi) h
  rw [fNu_q ht, nmT_q ht, st_q ht] at hq
  have h10 := h.2.2.2.2.2.2.2.2.2
  by_cases c : fNu v T lo hi i = 0
  · rw [if_pos c] at hq
    rw [wM_of hq]
    have h3 := (fNu_0 c).1
    rw [← kd_q ht] at h3
    exact Or.inl ⟨c, rfl, rfl, h.go ⟨by have := h.2.2.2.2.2.1; omega, h.nx (by omega)⟩, ht.vu (by omega)⟩
  · rw [if_neg c] at hq
    rw [wM_of hq]
    exact Or.inr ⟨c, rfl, rfl⟩
theorem c_tak {i k : Int} (h : PS S u T x P i) (ht : TR T v u) (hk : k ≠ 1) : wM mX5_take [x, k] S u (fun r w => (fKd v T k i = 0 ∧ r = 1 ∧ w = vu u x 2 (i + 1) ∧ PS S w T x P (i + 1) ∧ TR T v w) ∨ (¬ fKd v T k i = 0 ∧ fKd v T k i = 1 ∧ r = 0 ∧ w = vu (vu u x 3 (fKd v T k i)) x 4 (stT v T i))) := by
  have hq := q_take (k := k) h
  rw [kd_q ht, st_q ht] at hq
  have h10 := h.2.2.2.2.2.2.2.2.2
  unfold fKd
  by_cases c : kdT v T i = k
  · rw [if_pos c] at hq ⊢
    rw [wM_of hq]
    have h3 : kdT u T i ≠ 1 := by rw [kd_q ht, c]; exact hk
    exact Or.inl ⟨rfl, rfl, rfl, h.go ⟨by have := h.2.2.2.2.2.1; omega, h.nx h3⟩, ht.vu (by omega)⟩
  · rw [if_neg c] at hq ⊢
    rw [wM_of hq]
    exact Or.inr ⟨by decide, rfl, rfl, rfl⟩
def howK (k : Int) : Int := if k = 265 then 0 else if k = 263 then 1 else if k = 262 then 2 else if k = 266 then 3 else -1
theorem q_howHere {i : Int} (h : PS S u T x P i) : mX5_howHere [x] S u = some (howK (kdT u T i), u) := by
  have hk := q_kind h
  unfold howK
  generalize kdT u T i = k at *
  apply wM_eq
  by_cases c1 : k = 265
  · simp only [mX5_howHere, sX5_howHere, wE_I, wE_V, wE_F, wE_A, wE_N, wE_1, wE_2, wE_D, wE_B, wE_If, wE_C, wE_CV, wE_SL, wE_SA, wA_0, wA_1, wC_B, wC_E, wC_And, wC_Or, wC_Not, wS_Skip, wS_Brk, wS_Cnt, wS_RetV, wS_Ret, wS_Seq, wS_Set, wS_Inc, wS_Do, wS_Put, wS_PutC, wS_Arr, wS_ArrC, wS_If, wS_Sw, wS_F0, wS_F1, wM_q, lu_ap, aL_ap, ct_0, ct_1, ct_2, ct_3, ct_4, ct_5, headD_1, List.mem_cons, List.not_mem_nil, or_false, false_or, or_true, true_or, true_and, and_true, false_and, and_false, not_true_eq_false, not_false_eq_true, if_true, if_false, nr_20, nr_24, nr_40, nr_41, nr_44, pt_lt, pt_ge, pt_eq, pt_ne, pt_gt, pt_le, pt_E, pt_N, pt_F, ite_10, ite_11, ne_eq, and_self, or_self, decide_true, decide_false, Bool.not_true, Bool.not_false, Bool.false_eq_true, Nat.reduceEqDiff, Nat.reduceAdd, Int.reduceEq, Int.reduceLT, Int.reduceLE, Int.reduceNeg, Int.reduceAdd, Int.reduceSub, Int.reduceMul, reduceCtorEq, iA, iS, iM, iD, iR, iN, lA, lS, lM, lD, lR, h.2.1.k, wM_of hk, c1]
  · by_cases c2 : k = 263
    · simp only [mX5_howHere, sX5_howHere, wE_I, wE_V, wE_F, wE_A, wE_N, wE_1, wE_2, wE_D, wE_B, wE_If, wE_C, wE_CV, wE_SL, wE_SA, wA_0, wA_1, wC_B, wC_E, wC_And, wC_Or, wC_Not, wS_Skip, wS_Brk, wS_Cnt, wS_RetV, wS_Ret, wS_Seq, wS_Set, wS_Inc, wS_Do, wS_Put, wS_PutC, wS_Arr, wS_ArrC, wS_If, wS_Sw, wS_F0, wS_F1, wM_q, lu_ap, aL_ap, ct_0, ct_1, ct_2, ct_3, ct_4, ct_5, headD_1, List.mem_cons, List.not_mem_nil, or_false, false_or, or_true, true_or, true_and, and_true, false_and, and_false, not_true_eq_false, not_false_eq_true, if_true, if_false, nr_20, nr_24, nr_40, nr_41, nr_44, pt_lt, pt_ge, pt_eq, pt_ne, pt_gt, pt_le, pt_E, pt_N, pt_F, ite_10, ite_11, ne_eq, and_self, or_self, decide_true, decide_false, Bool.not_true, Bool.not_false, Bool.false_eq_true, Nat.reduceEqDiff, Nat.reduceAdd, Int.reduceEq, Int.reduceLT, Int.reduceLE, Int.reduceNeg, Int.reduceAdd, Int.reduceSub, Int.reduceMul, reduceCtorEq, iA, iS, iM, iD, iR, iN, lA, lS, lM, lD, lR, h.2.1.k, wM_of hk, c2]
    · by_cases c3 : k = 262
      · simp only [mX5_howHere, sX5_howHere, wE_I, wE_V, wE_F, wE_A, wE_N, wE_1, wE_2, wE_D, wE_B, wE_If, wE_C, wE_CV, wE_SL, wE_SA, wA_0, wA_1, wC_B, wC_E, wC_And, wC_Or, wC_Not, wS_Skip, wS_Brk, wS_Cnt, wS_RetV, wS_Ret, wS_Seq, wS_Set, wS_Inc, wS_Do, wS_Put, wS_PutC, wS_Arr, wS_ArrC, wS_If, wS_Sw, wS_F0, wS_F1, wM_q, lu_ap, aL_ap, ct_0, ct_1, ct_2, ct_3, ct_4, ct_5, headD_1, List.mem_cons, List.not_mem_nil, or_false, false_or, or_true, true_or, true_and, and_true, false_and, and_false, not_true_eq_false, not_false_eq_true, if_true, if_false, nr_20, nr_24, nr_40, nr_41, nr_44, pt_lt, pt_ge, pt_eq, pt_ne, pt_gt, pt_le, pt_E, pt_N, pt_F, ite_10, ite_11, ne_eq, and_self, or_self, decide_true, decide_false, Bool.not_true, Bool.not_false, Bool.false_eq_true, Nat.reduceEqDiff, Nat.reduceAdd, Int.reduceEq, Int.reduceLT, Int.reduceLE, Int.reduceNeg, Int.reduceAdd, Int.reduceSub, Int.reduceMul, reduceCtorEq, iA, iS, iM, iD, iR, iN, lA, lS, lM, lD, lR, h.2.1.k, wM_of hk, c3]
      · by_cases c4 : k = 266
        · simp only [mX5_howHere, sX5_howHere, wE_I, wE_V, wE_F, wE_A, wE_N, wE_1, wE_2, wE_D, wE_B, wE_If, wE_C, wE_CV, wE_SL, wE_SA, wA_0, wA_1, wC_B, wC_E, wC_And, wC_Or, wC_Not, wS_Skip, wS_Brk, wS_Cnt, wS_RetV, wS_Ret, wS_Seq, wS_Set, wS_Inc, wS_Do, wS_Put, wS_PutC, wS_Arr, wS_ArrC, wS_If, wS_Sw, wS_F0, wS_F1, wM_q, lu_ap, aL_ap, ct_0, ct_1, ct_2, ct_3, ct_4, ct_5, headD_1, List.mem_cons, List.not_mem_nil, or_false, false_or, or_true, true_or, true_and, and_true, false_and, and_false, not_true_eq_false, not_false_eq_true, if_true, if_false, nr_20, nr_24, nr_40, nr_41, nr_44, pt_lt, pt_ge, pt_eq, pt_ne, pt_gt, pt_le, pt_E, pt_N, pt_F, ite_10, ite_11, ne_eq, and_self, or_self, decide_true, decide_false, Bool.not_true, Bool.not_false, Bool.false_eq_true, Nat.reduceEqDiff, Nat.reduceAdd, Int.reduceEq, Int.reduceLT, Int.reduceLE, Int.reduceNeg, Int.reduceAdd, Int.reduceSub, Int.reduceMul, reduceCtorEq, iA, iS, iM, iD, iR, iN, lA, lS, lM, lD, lR, h.2.1.k, wM_of hk, c4]
        · simp only [mX5_howHere, sX5_howHere, wE_I, wE_V, wE_F, wE_A, wE_N, wE_1, wE_2, wE_D, wE_B, wE_If, wE_C, wE_CV, wE_SL, wE_SA, wA_0, wA_1, wC_B, wC_E, wC_And, wC_Or, wC_Not, wS_Skip, wS_Brk, wS_Cnt, wS_RetV, wS_Ret, wS_Seq, wS_Set, wS_Inc, wS_Do, wS_Put, wS_PutC, wS_Arr, wS_ArrC, wS_If, wS_Sw, wS_F0, wS_F1, wM_q, lu_ap, aL_ap, ct_0, ct_1, ct_2, ct_3, ct_4, ct_5, headD_1, List.mem_cons, List.not_mem_nil, or_false, false_or, or_true, true_or, true_and, and_true, false_and, and_false, not_true_eq_false, not_false_eq_true, if_true, if_false, nr_20, nr_24, nr_40, nr_41, nr_44, pt_lt, pt_ge, pt_eq, pt_ne, pt_gt, pt_le, pt_E, pt_N, pt_F, ite_10, ite_11, ne_eq, and_self, or_self, decide_true, decide_false, Bool.not_true, Bool.not_false, Bool.false_eq_true, Nat.reduceEqDiff, Nat.reduceAdd, Int.reduceEq, Int.reduceLT, Int.reduceLE, Int.reduceNeg, Int.reduceAdd, Int.reduceSub, Int.reduceMul, reduceCtorEq, iA, iS, iM, iD, iR, iN, lA, lS, lM, lD, lR, h.2.1.k, wM_of hk, c1, c2, c3, c4]
def arS (v : QV) (T i : Int) : Int × Int := stp (fKd v T 59) (stp (fNu v T 0 9) (stp (fKd v T 268) (stp (fNu v T 1 30) (stp (fKd v T 267) (stp (fNu v T 1 12) (0, i + 2))))))
def arO (v : QV) (T i cnt : Int) : Int × Int := if 4 ≤ cnt then (4, i) else if howK (kdT v T (i + 1)) = -1 then (1, i + 1) else arS v T i
/-- what a line leaves in the parser's fields -/
def LnC (u w : QV) (T x : Int) (v : QV) (o : Int × Int) (r : Int) : Prop := (o.1 = 0 ∧ r = 1 ∧ w x 2 = o.2 ∧ w x 3 = u x 3 ∧ w x 4 = u x 4) ∨ (0 < o.1 ∧ r = 0 ∧ w x 3 = o.1 ∧ w x 4 = stT v T o.2)
def arF (u w : QV) (x P cnt : Int) : Prop := ∀ a k, (a = x → k ≠ 2 ∧ k ≠ 3 ∧ k ≠ 4) → (a = P → k ≠ 2) → a ≠ P + (13 + cnt) → w a k = u a k
/-- in the midst of a line: at token j, what else is so being Q -/
def Mi (S : QS) (u : QV) (v : QV) (T x P : Int) (Q : QV → Prop) (w : QV) (j : Int) : Prop := PS S w T x P j ∧ TR T v w ∧ (w x 3 = u x 3 ∧ w x 4 = u x 4) ∧ Q w
/-- Q says nothing of the parser's token and faults -/
def Qx (x : Int) (Q : QV → Prop) : Prop := ∀ w k z, Q w → (k = 2 ∨ k = 3 ∨ k = 4) → Q (vu w x k z)
theorem Mi.fail {Q : QV → Prop} {j f : Int} (h : Mi S u v T x P Q w j) (hQ : Qx x Q) (hf : 0 < f) : LnC u (vu (vu w x 3 f) x 4 (stT v T j)) T x v (f, j) 0 ∧ Q (vu (vu w x 3 f) x 4 (stT v T j)) :=
  ⟨Or.inr ⟨hf, rfl, by rw [vu_ne (by simp), vu_is], vu_is⟩, hQ _ _ _ (hQ _ _ _ h.2.2.2 (by decide)) (by decide)⟩
theorem Mi.put {Q Q' : QV → Prop} {j a k z : Int} (h : Mi S u v T x P Q w j) (ha : x < a) (hk : Wc (S.1 a) k = true) (hQ : ∀ w, Q w → Q' (vu w a k z)) : Mi S u v T x P Q' (vu w a k z) j := by
  have h10 := h.1.2.2.2.2.2.2.2.2.2
  exact ⟨h.1.put (Or.inr ha) hk, h.2.1.vu (by omega), ⟨by rw [vu_ne (by omega)]; exact h.2.2.1.1, by rw [vu_ne (by omega)]; exact h.2.2.1.2⟩, hQ _ h.2.2.2⟩
theorem Mi.go {Q : QV → Prop} {j j' : Int} (h : Mi S u v T x P Q w j) (hQ : Qx x Q) (hj : 0 ≤ j' ∧ j' < nTk v T) : Mi S u v T x P Q (vu w x 2 j') j' := by
  have h10 := h.1.2.2.2.2.2.2.2.2.2
  refine ⟨h.1.go (by rw [nt_q h.2.1]; exact hj), h.2.1.vu (by omega), ⟨by rw [vu_ne (by simp)]; exact h.2.2.1.1, by rw [vu_ne (by simp)]; exact h.2.2.1.2⟩, hQ _ _ _ h.2.2.2 (by decide)⟩
theorem Mi.num {Q : QV → Prop} {j lo hi : Int} (h : Mi S u v T x P Q w j) (hQ : Qx x Q) : wM mX5_takeNumber [x, lo, hi] S w (fun r w' => (fNu v T lo hi j = 0 ∧ r = nmT v T j ∧ Mi S u v T x P Q w' (j + 1)) ∨ (¬ fNu v T lo hi j = 0 ∧ r = -1 ∧ LnC u w' T x v (fNu v T lo hi j, j) 0 ∧ Q w' ∧ PS S w' T x P j)) := by
  refine wM_mono (c_num h.1 h.2.1) ?_
  rintro r w' e (⟨c, rfl, rfl, hp, ht⟩ | ⟨c, rfl, rfl⟩)
  · exact Or.inl ⟨c, rfl, hp, ht, ⟨by rw [vu_ne (by simp)]; exact h.2.2.1.1, by rw [vu_ne (by simp)]; exact h.2.2.1.2⟩, hQ _ _ _ h.2.2.2 (by decide)⟩
  · have hf : 0 < fNu v T lo hi j := by
      unfold fNu at c ⊢
      split
      · split
        · rename_i a b; exact absurd (by rw [if_pos a, if_pos b]) c
        · decide
      · decide
    obtain ⟨f1, f2⟩ := h.fail hQ hf
    have h10 := h.1.2.2.2.2.2.2.2.2.2
    refine Or.inr ⟨c, rfl, f1, f2, h.1.mv ((Kp.rf.vuc (by rw [h.1.2.1.k]; rfl)).vuc (by rw [h.1.2.1.k]; rfl)) ((TR.rf.vu (by omega)).vu (by omega)) (by rw [vu_ne (by simp), vu_ne (by simp)]) (by rw [vu_ne (by simp), vu_ne (by simp)]) (by rw [vu_ne (by simp), vu_ne (by simp)]; exact h.1.2.2.2.2.1) h.1.2.2.2.2.2.1⟩
theorem Mi.tak {Q : QV → Prop} {j k : Int} (h : Mi S u v T x P Q w j) (hQ : Qx x Q) (hk : k ≠ 1) : wM mX5_take [x, k] S w (fun r w' => (fKd v T k j = 0 ∧ r = 1 ∧ Mi S u v T x P Q w' (j + 1)) ∨ (¬ fKd v T k j = 0 ∧ r = 0 ∧ LnC u w' T x v (fKd v T k j, j) 0 ∧ Q w')) := by
  refine wM_mono (c_tak h.1 h.2.1 hk) ?_
  rintro r w' e (⟨c, rfl, rfl, hp, ht⟩ | ⟨c, c1, rfl, rfl⟩)
  · exact Or.inl ⟨c, rfl, hp, ht, ⟨by rw [vu_ne (by simp)]; exact h.2.2.1.1, by rw [vu_ne (by simp)]; exact h.2.2.1.2⟩, hQ _ _ _ h.2.2.2 (by decide)⟩
  · obtain ⟨f1, f2⟩ := h.fail hQ (show 0 < fKd v T k j by rw [c1]; decide)
    exact Or.inr ⟨c, rfl, f1, f2⟩
/-- steps behind a fault change nothing -/
theorem stp_ff {φ : Int → Int} {f j : Int} (h : ¬ f = 0) : stp φ (f, j) = (f, j) := stp_d h
theorem stp_00 {φ : Int → Int} {j : Int} (h : φ j = 0) : stp φ (0, j) = (0, j + 1) := stp_0 rfl h
theorem stp_0f {φ : Int → Int} {j : Int} (h : ¬ φ j = 0) : stp φ (0, j) = (φ j, j) := stp_f rfl h
theorem c_archiveLine {i : Int} (h : PS S u T x P i) (hL : LPl S u P) (hxP : x + 3 < P) (ht : TR T v u) (hK : kdT v T i ≠ 1) (hc : 0 ≤ u P 2) : wM mX5_archiveLine [x] S u (fun r w => LnC u w T x v (arO v T i (u P 2)) r ∧ arF u w x P (u P 2) ∧ ((arO v T i (u P 2)).1 = 0 → w P 2 = u P 2 + 1 ∧ w (P + (13 + u P 2)) 0 = howK (kdT v T (i + 1)) ∧ w (P + (13 + u P 2)) 1 = nmT v T (i + 2) ∧ w (P + (13 + u P 2)) 2 = nmT v T (i + 4) ∧ w (P + (13 + u P 2)) 3 = nmT v T (i + 6) ∧ arO v T i (u P 2) = arS v T i ∧ ¬ howK (kdT v T (i + 1)) = -1)) := by
  have h10 := h.2.2.2.2.2.2.2.2.2
  have hx1 := h.2.2.2.1
  have hx2 := h.2.2.2.2.1
  have hi6 := h.2.2.2.2.2.1
  have hi7 := h.2.2.2.2.2.2.1.1
  generalize hcnt : u P 2 = cnt at *
  unfold arO
  by_cases c4 : 4 ≤ cnt
  · rw [if_pos c4]
    have hf := q_fail (f := 4) h
    rw [st_q ht] at hf
    simp only [mX5_archiveLine, sX5_archiveLine, wE_I, wE_V, wE_F, wE_A, wE_N, wE_1, wE_2, wE_D, wE_B, wE_If, wE_C, wE_CV, wE_SL, wE_SA, wA_0, wA_1, wC_B, wC_E, wC_And, wC_Or, wC_Not, wS_Skip, wS_Brk, wS_Cnt, wS_RetV, wS_Ret, wS_Seq, wS_Set, wS_Inc, wS_Do, wS_Put, wS_PutC, wS_Arr, wS_ArrC, wS_If, wS_Sw, wS_F0, wS_F1, wM_q, lu_ap, aL_ap, ct_0, ct_1, ct_2, ct_3, ct_4, ct_5, headD_1, List.mem_cons, List.not_mem_nil, or_false, false_or, or_true, true_or, true_and, and_true, false_and, and_false, not_true_eq_false, not_false_eq_true, if_true, if_false, nr_20, nr_24, nr_40, nr_41, nr_44, pt_lt, pt_ge, pt_eq, pt_ne, pt_gt, pt_le, pt_E, pt_N, pt_F, ite_10, ite_11, ne_eq, and_self, or_self, decide_true, decide_false, Bool.not_true, Bool.not_false, Bool.false_eq_true, Nat.reduceEqDiff, Nat.reduceAdd, Int.reduceEq, Int.reduceLT, Int.reduceLE, Int.reduceNeg, Int.reduceAdd, Int.reduceSub, Int.reduceMul, reduceCtorEq, iA, iS, iM, iD, iR, iN, lA, lS, lM, lD, lR, h.2.1.k, hx1, hL.k, hcnt, c4, wM_of hf]
    refine ⟨Or.inr ⟨by simp, rfl, by rw [vu_ne (by simp), vu_is], vu_is⟩, fun a k h1 h2 h3 => ?_, fun z => absurd z (by simp)⟩
    rw [vu_ne (fun e => (h1 e.1).2.2 e.2), vu_ne (fun e => (h1 e.1).2.1 e.2)]
  · rw [if_neg c4]
    have o4 : 0 ≤ cnt ∧ cnt < 4 := by omega
    have hpa := hL.a cnt o4.1 o4.2
    have hea := hL.ea cnt o4.1 o4.2
    have hnx := h.nx (by rw [kd_q ht]; exact hK)
    rw [nt_q ht] at hnx
    simp only [mX5_archiveLine, sX5_archiveLine, wM_q]
    generalize hLL : aL 0 [2] [x] = L
    have m0 : L 0 = x := by rw [← hLL]; simp [aL_ap, ct_0, ct_1, ct_2]
    clear hLL
    refine ws_step (L' := L) (w := u) (by simp only [wE_I, wE_V, wE_F, wE_A, wE_N, wE_1, wE_2, wE_D, wE_B, wE_If, wE_C, wE_CV, wE_SL, wE_SA, wA_0, wA_1, wC_B, wC_E, wC_And, wC_Or, wC_Not, wS_Skip, wS_Brk, wS_Cnt, wS_RetV, wS_Ret, wS_Seq, wS_Set, wS_Inc, wS_Do, wS_Put, wS_PutC, wS_Arr, wS_ArrC, wS_If, wS_Sw, wS_F0, wS_F1, wM_q, lu_ap, aL_ap, ct_0, ct_1, ct_2, ct_3, ct_4, ct_5, headD_1, List.mem_cons, List.not_mem_nil, or_false, false_or, or_true, true_or, true_and, and_true, false_and, and_false, not_true_eq_false, not_false_eq_true, if_true, if_false, nr_20, nr_24, nr_40, nr_41, nr_44, pt_lt, pt_ge, pt_eq, pt_ne, pt_gt, pt_le, pt_E, pt_N, pt_F, ite_10, ite_11, ne_eq, and_self, or_self, decide_true, decide_false, Bool.not_true, Bool.not_false, Bool.false_eq_true, Nat.reduceEqDiff, Nat.reduceAdd, Int.reduceEq, Int.reduceLT, Int.reduceLE, Int.reduceNeg, Int.reduceAdd, Int.reduceSub, Int.reduceMul, reduceCtorEq, iA, iS, iM, iD, iR, iN, lA, lS, lM, lD, lR, m0, h.2.1.k, hx1, hL.k, hcnt, c4]) ?_
    refine ws_step (L' := lu L 1 (P + (13 + cnt))) (w := u) (by simp only [wE_I, wE_V, wE_F, wE_A, wE_N, wE_1, wE_2, wE_D, wE_B, wE_If, wE_C, wE_CV, wE_SL, wE_SA, wA_0, wA_1, wC_B, wC_E, wC_And, wC_Or, wC_Not, wS_Skip, wS_Brk, wS_Cnt, wS_RetV, wS_Ret, wS_Seq, wS_Set, wS_Inc, wS_Do, wS_Put, wS_PutC, wS_Arr, wS_ArrC, wS_If, wS_Sw, wS_F0, wS_F1, wM_q, lu_ap, aL_ap, ct_0, ct_1, ct_2, ct_3, ct_4, ct_5, headD_1, List.mem_cons, List.not_mem_nil, or_false, false_or, or_true, true_or, true_and, and_true, false_and, and_false, not_true_eq_false, not_false_eq_true, if_true, if_false, nr_20, nr_24, nr_40, nr_41, nr_44, pt_lt, pt_ge, pt_eq, pt_ne, pt_gt, pt_le, pt_E, pt_N, pt_F, ite_10, ite_11, ne_eq, and_self, or_self, decide_true, decide_false, Bool.not_true, Bool.not_false, Bool.false_eq_true, Nat.reduceEqDiff, Nat.reduceAdd, Int.reduceEq, Int.reduceLT, Int.reduceLE, Int.reduceNeg, Int.reduceAdd, Int.reduceSub, Int.reduceMul, reduceCtorEq, iA, iS, iM, iD, iR, iN, lA, lS, lM, lD, lR, m0, h.2.1.k, hx1, hL.k, hcnt, hL.p4, hL.a2, hL.n2, o4, hea]) ?_
    have l0 : lu L 1 (P + (13 + cnt)) 0 = x := by simp [lu_ap, m0]
    have l1 : lu L 1 (P + (13 + cnt)) 1 = P + (13 + cnt) := by simp [lu_ap]
    generalize lu L 1 (P + (13 + cnt)) = L1 at *
    have e1 : w32 (i + 1) = i + 1 := w32_e (by omega)
    refine ws_step (L' := L1) (w := vu u x 2 (i + 1)) (by simp only [wE_I, wE_V, wE_F, wE_A, wE_N, wE_1, wE_2, wE_D, wE_B, wE_If, wE_C, wE_CV, wE_SL, wE_SA, wA_0, wA_1, wC_B, wC_E, wC_And, wC_Or, wC_Not, wS_Skip, wS_Brk, wS_Cnt, wS_RetV, wS_Ret, wS_Seq, wS_Set, wS_Inc, wS_Do, wS_Put, wS_PutC, wS_Arr, wS_ArrC, wS_If, wS_Sw, wS_F0, wS_F1, wM_q, lu_ap, aL_ap, ct_0, ct_1, ct_2, ct_3, ct_4, ct_5, headD_1, List.mem_cons, List.not_mem_nil, or_false, false_or, or_true, true_or, true_and, and_true, false_and, and_false, not_true_eq_false, not_false_eq_true, if_true, if_false, nr_20, nr_24, nr_40, nr_41, nr_44, pt_lt, pt_ge, pt_eq, pt_ne, pt_gt, pt_le, pt_E, pt_N, pt_F, ite_10, ite_11, ne_eq, and_self, or_self, decide_true, decide_false, Bool.not_true, Bool.not_false, Bool.false_eq_true, Nat.reduceEqDiff, Nat.reduceAdd, Int.reduceEq, Int.reduceLT, Int.reduceLE, Int.reduceNeg, Int.reduceAdd, Int.reduceSub, Int.reduceMul, reduceCtorEq, iA, iS, iM, iD, iR, iN, lA, lS, lM, lD, lR, l0, h.2.1.k, hx2, e1]) ?_
    clear e1
    generalize hp : P + (13 + cnt) = p at *
    have hxp : x < p := by omega
    have hPp : ¬ P = p := by omega
    have hM0 : Mi S u v T x P (fun w => arF u w x P cnt ∧ w P 2 = cnt) u i := ⟨h, ht, ⟨rfl, rfl⟩, fun _ _ _ _ _ => rfl, hcnt⟩
    have hQx : ∀ R : QV → Prop, Qx x R → Qx x (fun w => arF u w x P cnt ∧ w P 2 = cnt ∧ R w) := fun R hR w k z hw hk => ⟨fun a j q1 q2 q3 => by
      rw [vu_ne (fun e => by have := q1 e.1; omega)]; exact hw.1 a j q1 q2 q3, by rw [vu_ne (by omega)]; exact hw.2.1, hR w k z hw.2.2 hk⟩
    have hQ0 : Qx x (fun w => arF u w x P cnt ∧ w P 2 = cnt) := fun w k z hw hk => ⟨fun a j q1 q2 q3 => by
      rw [vu_ne (fun e => by have := q1 e.1; omega)]; exact hw.1 a j q1 q2 q3, by rw [vu_ne (by omega)]; exact hw.2⟩
    have hM1 := hM0.go hQ0 (j' := i + 1) (by omega)
    have hhow := q_howHere hM1.1
    rw [kd_q hM1.2.1] at hhow
    generalize vu u x 2 (i + 1) = u1 at *
    generalize hhk : howK (kdT v T (i + 1)) = hk at *
    refine ws_step (L' := L1) (w := vu u1 p 0 hk) (by simp only [wE_I, wE_V, wE_F, wE_A, wE_N, wE_1, wE_2, wE_D, wE_B, wE_If, wE_C, wE_CV, wE_SL, wE_SA, wA_0, wA_1, wC_B, wC_E, wC_And, wC_Or, wC_Not, wS_Skip, wS_Brk, wS_Cnt, wS_RetV, wS_Ret, wS_Seq, wS_Set, wS_Inc, wS_Do, wS_Put, wS_PutC, wS_Arr, wS_ArrC, wS_If, wS_Sw, wS_F0, wS_F1, wM_q, lu_ap, aL_ap, ct_0, ct_1, ct_2, ct_3, ct_4, ct_5, headD_1, List.mem_cons, List.not_mem_nil, or_false, false_or, or_true, true_or, true_and, and_true, false_and, and_false, not_true_eq_false, not_false_eq_true, if_true, if_false, nr_20, nr_24, nr_40, nr_41, nr_44, pt_lt, pt_ge, pt_eq, pt_ne, pt_gt, pt_le, pt_E, pt_N, pt_F, ite_10, ite_11, ne_eq, and_self, or_self, decide_true, decide_false, Bool.not_true, Bool.not_false, Bool.false_eq_true, Nat.reduceEqDiff, Nat.reduceAdd, Int.reduceEq, Int.reduceLT, Int.reduceLE, Int.reduceNeg, Int.reduceAdd, Int.reduceSub, Int.reduceMul, reduceCtorEq, iA, iS, iM, iD, iR, iN, lA, lS, lM, lD, lR, l0, l1, hpa, h.2.1.k, wM_of hhow]) ?_
    have hM2 := hM1.put (Q' := fun w => arF u w x P cnt ∧ w P 2 = cnt ∧ w p 0 = hk) (k := 0) (z := hk) hxp (by rw [hpa]; rfl) (fun w hw => ⟨fun a j q1 q2 q3 => by rw [vu_ne (fun e => q3 (e.1.trans hp.symm))]; exact hw.1 a j q1 q2 q3, by rw [vu_ne (fun e => hPp e.1)]; exact hw.2, vu_is⟩)
    have y0 : vu u1 p 0 hk p 0 = hk := vu_is
    generalize vu u1 p 0 hk = u2 at *
    by_cases ck : hk = -1
    · rw [if_pos ck]
      have hf := q_fail (f := 1) hM2.1
      rw [st_q hM2.2.1] at hf
      obtain ⟨f1, f2⟩ := hM2.fail (hQx _ (fun w k z hw _ => by rw [vu_ne (by omega)]; exact hw)) (f := 1) (by decide)
      rw [ck] at y0
      simp only [wE_I, wE_V, wE_F, wE_A, wE_N, wE_1, wE_2, wE_D, wE_B, wE_If, wE_C, wE_CV, wE_SL, wE_SA, wA_0, wA_1, wC_B, wC_E, wC_And, wC_Or, wC_Not, wS_Skip, wS_Brk, wS_Cnt, wS_RetV, wS_Ret, wS_Seq, wS_Set, wS_Inc, wS_Do, wS_Put, wS_PutC, wS_Arr, wS_ArrC, wS_If, wS_Sw, wS_F0, wS_F1, wM_q, lu_ap, aL_ap, ct_0, ct_1, ct_2, ct_3, ct_4, ct_5, headD_1, List.mem_cons, List.not_mem_nil, or_false, false_or, or_true, true_or, true_and, and_true, false_and, and_false, not_true_eq_false, not_false_eq_true, if_true, if_false, nr_20, nr_24, nr_40, nr_41, nr_44, pt_lt, pt_ge, pt_eq, pt_ne, pt_gt, pt_le, pt_E, pt_N, pt_F, ite_10, ite_11, ne_eq, and_self, or_self, decide_true, decide_false, Bool.not_true, Bool.not_false, Bool.false_eq_true, Nat.reduceEqDiff, Nat.reduceAdd, Int.reduceEq, Int.reduceLT, Int.reduceLE, Int.reduceNeg, Int.reduceAdd, Int.reduceSub, Int.reduceMul, reduceCtorEq, iA, iS, iM, iD, iR, iN, lA, lS, lM, lD, lR, l0, l1, hpa, y0, h.2.1.k, wM_of hf]
      exact ⟨f1, f2.1, fun z => absurd z (by simp)⟩
    · rw [if_neg ck]
      have hk1 : kdT v T (i + 1) ≠ 1 := fun e => ck (by rw [← hhk, e]; rfl)
      have hnx2 := hM2.1.nx (by rw [kd_q hM2.2.1]; exact hk1)
      rw [nt_q hM2.2.1] at hnx2
      refine ws_step (L' := L1) (w := u2) (by simp only [wE_I, wE_V, wE_F, wE_A, wE_N, wE_1, wE_2, wE_D, wE_B, wE_If, wE_C, wE_CV, wE_SL, wE_SA, wA_0, wA_1, wC_B, wC_E, wC_And, wC_Or, wC_Not, wS_Skip, wS_Brk, wS_Cnt, wS_RetV, wS_Ret, wS_Seq, wS_Set, wS_Inc, wS_Do, wS_Put, wS_PutC, wS_Arr, wS_ArrC, wS_If, wS_Sw, wS_F0, wS_F1, wM_q, lu_ap, aL_ap, ct_0, ct_1, ct_2, ct_3, ct_4, ct_5, headD_1, List.mem_cons, List.not_mem_nil, or_false, false_or, or_true, true_or, true_and, and_true, false_and, and_false, not_true_eq_false, not_false_eq_true, if_true, if_false, nr_20, nr_24, nr_40, nr_41, nr_44, pt_lt, pt_ge, pt_eq, pt_ne, pt_gt, pt_le, pt_E, pt_N, pt_F, ite_10, ite_11, ne_eq, and_self, or_self, decide_true, decide_false, Bool.not_true, Bool.not_false, Bool.false_eq_true, Nat.reduceEqDiff, Nat.reduceAdd, Int.reduceEq, Int.reduceLT, Int.reduceLE, Int.reduceNeg, Int.reduceAdd, Int.reduceSub, Int.reduceMul, reduceCtorEq, iA, iS, iM, iD, iR, iN, lA, lS, lM, lD, lR, l1, hpa, y0, ck]) ?_
      have y2 : u2 x 2 = i + 1 := hM2.1.2.2.2.2.1
      have e1 : w32 (i + 1 + 1) = i + 2 := by rw [w32_e (by omega)]; omega
      refine ws_step (L' := L1) (w := vu u2 x 2 (i + 2)) (by simp only [wE_I, wE_V, wE_F, wE_A, wE_N, wE_1, wE_2, wE_D, wE_B, wE_If, wE_C, wE_CV, wE_SL, wE_SA, wA_0, wA_1, wC_B, wC_E, wC_And, wC_Or, wC_Not, wS_Skip, wS_Brk, wS_Cnt, wS_RetV, wS_Ret, wS_Seq, wS_Set, wS_Inc, wS_Do, wS_Put, wS_PutC, wS_Arr, wS_ArrC, wS_If, wS_Sw, wS_F0, wS_F1, wM_q, lu_ap, aL_ap, ct_0, ct_1, ct_2, ct_3, ct_4, ct_5, headD_1, List.mem_cons, List.not_mem_nil, or_false, false_or, or_true, true_or, true_and, and_true, false_and, and_false, not_true_eq_false, not_false_eq_true, if_true, if_false, nr_20, nr_24, nr_40, nr_41, nr_44, pt_lt, pt_ge, pt_eq, pt_ne, pt_gt, pt_le, pt_E, pt_N, pt_F, ite_10, ite_11, ne_eq, and_self, or_self, decide_true, decide_false, Bool.not_true, Bool.not_false, Bool.false_eq_true, Nat.reduceEqDiff, Nat.reduceAdd, Int.reduceEq, Int.reduceLT, Int.reduceLE, Int.reduceNeg, Int.reduceAdd, Int.reduceSub, Int.reduceMul, reduceCtorEq, iA, iS, iM, iD, iR, iN, lA, lS, lM, lD, lR, l0, h.2.1.k, y2, e1]) ?_
      clear e1
      have hQ2 : Qx x (fun w => arF u w x P cnt ∧ w P 2 = cnt ∧ w p 0 = hk) := hQx _ (fun w k z hw _ => by rw [vu_ne (by omega)]; exact hw)
      have hM3 := hM2.go hQ2 (j' := i + 2) (by omega)
      generalize vu u2 x 2 (i + 2) = u3 at *
      unfold arS
      -- per
      simp only [wE_I, wE_V, wE_F, wE_A, wE_N, wE_1, wE_2, wE_D, wE_B, wE_If, wE_C, wE_CV, wE_SL, wE_SA, wA_0, wA_1, wC_B, wC_E, wC_And, wC_Or, wC_Not, wS_Skip, wS_Brk, wS_Cnt, wS_RetV, wS_Ret, wS_Seq, wS_Set, wS_Inc, wS_Do, wS_Put, wS_PutC, wS_Arr, wS_ArrC, wS_If, wS_Sw, wS_F0, wS_F1, wM_q, lu_ap, aL_ap, ct_0, ct_1, ct_2, ct_3, ct_4, ct_5, headD_1, List.mem_cons, List.not_mem_nil, or_false, false_or, or_true, true_or, true_and, and_true, false_and, and_false, not_true_eq_false, not_false_eq_true, if_true, if_false, nr_20, nr_24, nr_40, nr_41, nr_44, pt_lt, pt_ge, pt_eq, pt_ne, pt_gt, pt_le, pt_E, pt_N, pt_F, ite_10, ite_11, ne_eq, and_self, or_self, decide_true, decide_false, Bool.not_true, Bool.not_false, Bool.false_eq_true, Nat.reduceEqDiff, Nat.reduceAdd, Int.reduceEq, Int.reduceLT, Int.reduceLE, Int.reduceNeg, Int.reduceAdd, Int.reduceSub, Int.reduceMul, reduceCtorEq, iA, iS, iM, iD, iR, iN, lA, lS, lM, lD, lR, l0, l1, hpa, h.2.1.k]
      refine wM_mono (hM3.num (lo := 1) (hi := 12) hQ2) ?_
      rintro r w1 e (⟨g1, rfl, hM4⟩ | ⟨g1, rfl, hb, hq, hps⟩)
      rotate_left
      · have hcl : ∀ w, LnC u w T x v (fNu v T 1 12 (i + 2), i + 2) 0 → LnC u (vu w p 1 (-1)) T x v (fNu v T 1 12 (i + 2), i + 2) 0 := fun w hw => by
          unfold LnC at hw ⊢
          rw [vu_ne (by omega), vu_ne (by omega), vu_ne (by omega)]
          exact hw
        rw [stp_0f g1, stp_ff g1, stp_ff g1, stp_ff g1, stp_ff g1, stp_ff g1]
        simp only [vu_is, wE_I, wE_V, wE_F, wE_A, wE_N, wE_1, wE_2, wE_D, wE_B, wE_If, wE_C, wE_CV, wE_SL, wE_SA, wA_0, wA_1, wC_B, wC_E, wC_And, wC_Or, wC_Not, wS_Skip, wS_Brk, wS_Cnt, wS_RetV, wS_Ret, wS_Seq, wS_Set, wS_Inc, wS_Do, wS_Put, wS_PutC, wS_Arr, wS_ArrC, wS_If, wS_Sw, wS_F0, wS_F1, wM_q, lu_ap, aL_ap, ct_0, ct_1, ct_2, ct_3, ct_4, ct_5, headD_1, List.mem_cons, List.not_mem_nil, or_false, false_or, or_true, true_or, true_and, and_true, false_and, and_false, not_true_eq_false, not_false_eq_true, if_true, if_false, nr_20, nr_24, nr_40, nr_41, nr_44, pt_lt, pt_ge, pt_eq, pt_ne, pt_gt, pt_le, pt_E, pt_N, pt_F, ite_10, ite_11, ne_eq, and_self, or_self, decide_true, decide_false, Bool.not_true, Bool.not_false, Bool.false_eq_true, Nat.reduceEqDiff, Nat.reduceAdd, Int.reduceEq, Int.reduceLT, Int.reduceLE, Int.reduceNeg, Int.reduceAdd, Int.reduceSub, Int.reduceMul, reduceCtorEq]
        exact ⟨hcl _ hb, fun a j q1 q2 q3 => by rw [vu_ne (fun e => q3 (e.1.trans hp.symm))]; exact hq.1 a j q1 q2 q3, fun z => absurd z g1⟩
      rw [stp_00 g1]
      have b1 := fNu_0 g1
      have hM5 := hM4.put (Q' := fun w => arF u w x P cnt ∧ w P 2 = cnt ∧ w p 0 = hk ∧ w p 1 = nmT v T (i + 2)) (k := 1) (z := nmT v T (i + 2)) hxp (by rw [hpa]; rfl) (fun w hw => ⟨fun a j q1 q2 q3 => by rw [vu_ne (fun e => q3 (e.1.trans hp.symm))]; exact hw.1 a j q1 q2 q3, by rw [vu_ne (fun e => hPp e.1)]; exact hw.2.1, by rw [vu_ne (by simp)]; exact hw.2.2, vu_is⟩)
      have ne1 : ¬ nmT v T (i + 2) = -1 := by omega
      have hQ3 : Qx x (fun w => arF u w x P cnt ∧ w P 2 = cnt ∧ w p 0 = hk ∧ w p 1 = nmT v T (i + 2)) := hQx _ (fun w k z hw _ => ⟨by rw [vu_ne (by omega)]; exact hw.1, by rw [vu_ne (by omega)]; exact hw.2⟩)
      simp only [vu_is, ne1, h.2.1.k, wE_I, wE_V, wE_F, wE_A, wE_N, wE_1, wE_2, wE_D, wE_B, wE_If, wE_C, wE_CV, wE_SL, wE_SA, wA_0, wA_1, wC_B, wC_E, wC_And, wC_Or, wC_Not, wS_Skip, wS_Brk, wS_Cnt, wS_RetV, wS_Ret, wS_Seq, wS_Set, wS_Inc, wS_Do, wS_Put, wS_PutC, wS_Arr, wS_ArrC, wS_If, wS_Sw, wS_F0, wS_F1, wM_q, lu_ap, aL_ap, ct_0, ct_1, ct_2, ct_3, ct_4, ct_5, headD_1, List.mem_cons, List.not_mem_nil, or_false, false_or, or_true, true_or, true_and, and_true, false_and, and_false, not_true_eq_false, not_false_eq_true, if_true, if_false, nr_20, nr_24, nr_40, nr_41, nr_44, pt_lt, pt_ge, pt_eq, pt_ne, pt_gt, pt_le, pt_E, pt_N, pt_F, ite_10, ite_11, ne_eq, and_self, or_self, decide_true, decide_false, Bool.not_true, Bool.not_false, Bool.false_eq_true, Nat.reduceEqDiff, Nat.reduceAdd, Int.reduceEq, Int.reduceLT, Int.reduceLE, Int.reduceNeg, Int.reduceAdd, Int.reduceSub, Int.reduceMul, reduceCtorEq]
      refine wM_mono (hM5.tak (k := 267) hQ3 (by decide)) ?_
      rintro r w2 e (⟨g2, rfl, hM6⟩ | ⟨g2, rfl, hb, hq⟩)
      rotate_left
      · rw [stp_0f g2, stp_ff g2, stp_ff g2, stp_ff g2, stp_ff g2]
        simp only [wE_I, wE_V, wE_F, wE_A, wE_N, wE_1, wE_2, wE_D, wE_B, wE_If, wE_C, wE_CV, wE_SL, wE_SA, wA_0, wA_1, wC_B, wC_E, wC_And, wC_Or, wC_Not, wS_Skip, wS_Brk, wS_Cnt, wS_RetV, wS_Ret, wS_Seq, wS_Set, wS_Inc, wS_Do, wS_Put, wS_PutC, wS_Arr, wS_ArrC, wS_If, wS_Sw, wS_F0, wS_F1, wM_q, lu_ap, aL_ap, ct_0, ct_1, ct_2, ct_3, ct_4, ct_5, headD_1, List.mem_cons, List.not_mem_nil, or_false, false_or, or_true, true_or, true_and, and_true, false_and, and_false, not_true_eq_false, not_false_eq_true, if_true, if_false, nr_20, nr_24, nr_40, nr_41, nr_44, pt_lt, pt_ge, pt_eq, pt_ne, pt_gt, pt_le, pt_E, pt_N, pt_F, ite_10, ite_11, ne_eq, and_self, or_self, decide_true, decide_false, Bool.not_true, Bool.not_false, Bool.false_eq_true, Nat.reduceEqDiff, Nat.reduceAdd, Int.reduceEq, Int.reduceLT, Int.reduceLE, Int.reduceNeg, Int.reduceAdd, Int.reduceSub, Int.reduceMul, reduceCtorEq]
        exact ⟨hb, hq.1, fun z => absurd z g2⟩
      rw [stp_00 g2]
      -- rows
      simp only [l0, l1, hpa, h.2.1.k, wE_I, wE_V, wE_F, wE_A, wE_N, wE_1, wE_2, wE_D, wE_B, wE_If, wE_C, wE_CV, wE_SL, wE_SA, wA_0, wA_1, wC_B, wC_E, wC_And, wC_Or, wC_Not, wS_Skip, wS_Brk, wS_Cnt, wS_RetV, wS_Ret, wS_Seq, wS_Set, wS_Inc, wS_Do, wS_Put, wS_PutC, wS_Arr, wS_ArrC, wS_If, wS_Sw, wS_F0, wS_F1, wM_q, lu_ap, aL_ap, ct_0, ct_1, ct_2, ct_3, ct_4, ct_5, headD_1, List.mem_cons, List.not_mem_nil, or_false, false_or, or_true, true_or, true_and, and_true, false_and, and_false, not_true_eq_false, not_false_eq_true, if_true, if_false, nr_20, nr_24, nr_40, nr_41, nr_44, pt_lt, pt_ge, pt_eq, pt_ne, pt_gt, pt_le, pt_E, pt_N, pt_F, ite_10, ite_11, ne_eq, and_self, or_self, decide_true, decide_false, Bool.not_true, Bool.not_false, Bool.false_eq_true, Nat.reduceEqDiff, Nat.reduceAdd, Int.reduceEq, Int.reduceLT, Int.reduceLE, Int.reduceNeg, Int.reduceAdd, Int.reduceSub, Int.reduceMul, reduceCtorEq]
      refine wM_mono (hM6.num (lo := 1) (hi := 30) hQ3) ?_
      rintro r w3 e (⟨g3, rfl, hM7⟩ | ⟨g3, rfl, hb, hq, hps⟩)
      rotate_left
      · have hcl : ∀ w, LnC u w T x v (fNu v T 1 30 (i + 2 + 1 + 1), i + 2 + 1 + 1) 0 → LnC u (vu w p 2 (-1)) T x v (fNu v T 1 30 (i + 2 + 1 + 1), i + 2 + 1 + 1) 0 := fun w hw => by
          unfold LnC at hw ⊢
          rw [vu_ne (by omega), vu_ne (by omega), vu_ne (by omega)]
          exact hw
        rw [stp_0f g3, stp_ff g3, stp_ff g3, stp_ff g3]
        simp only [vu_is, wE_I, wE_V, wE_F, wE_A, wE_N, wE_1, wE_2, wE_D, wE_B, wE_If, wE_C, wE_CV, wE_SL, wE_SA, wA_0, wA_1, wC_B, wC_E, wC_And, wC_Or, wC_Not, wS_Skip, wS_Brk, wS_Cnt, wS_RetV, wS_Ret, wS_Seq, wS_Set, wS_Inc, wS_Do, wS_Put, wS_PutC, wS_Arr, wS_ArrC, wS_If, wS_Sw, wS_F0, wS_F1, wM_q, lu_ap, aL_ap, ct_0, ct_1, ct_2, ct_3, ct_4, ct_5, headD_1, List.mem_cons, List.not_mem_nil, or_false, false_or, or_true, true_or, true_and, and_true, false_and, and_false, not_true_eq_false, not_false_eq_true, if_true, if_false, nr_20, nr_24, nr_40, nr_41, nr_44, pt_lt, pt_ge, pt_eq, pt_ne, pt_gt, pt_le, pt_E, pt_N, pt_F, ite_10, ite_11, ne_eq, and_self, or_self, decide_true, decide_false, Bool.not_true, Bool.not_false, Bool.false_eq_true, Nat.reduceEqDiff, Nat.reduceAdd, Int.reduceEq, Int.reduceLT, Int.reduceLE, Int.reduceNeg, Int.reduceAdd, Int.reduceSub, Int.reduceMul, reduceCtorEq]
        exact ⟨hcl _ hb, fun a j q1 q2 q3 => by rw [vu_ne (fun e => q3 (e.1.trans hp.symm))]; exact hq.1 a j q1 q2 q3, fun z => absurd z g3⟩
      rw [stp_00 g3]
      have b3 := fNu_0 g3
      have hM8 := hM7.put (Q' := fun w => arF u w x P cnt ∧ w P 2 = cnt ∧ w p 0 = hk ∧ w p 1 = nmT v T (i + 2) ∧ w p 2 = nmT v T (i + 2 + 1 + 1)) (k := 2) (z := nmT v T (i + 2 + 1 + 1)) hxp (by rw [hpa]; rfl) (fun w hw => ⟨fun a j q1 q2 q3 => by rw [vu_ne (fun e => q3 (e.1.trans hp.symm))]; exact hw.1 a j q1 q2 q3, by rw [vu_ne (fun e => hPp e.1)]; exact hw.2.1, by rw [vu_ne (by simp)]; exact hw.2.2.1, by rw [vu_ne (by simp)]; exact hw.2.2.2, vu_is⟩)
      have ne3 : ¬ nmT v T (i + 2 + 1 + 1) = -1 := by omega
      have hQ4 : Qx x (fun w => arF u w x P cnt ∧ w P 2 = cnt ∧ w p 0 = hk ∧ w p 1 = nmT v T (i + 2) ∧ w p 2 = nmT v T (i + 2 + 1 + 1)) := hQx _ (fun w k z hw _ => ⟨by rw [vu_ne (by omega)]; exact hw.1, by rw [vu_ne (by omega)]; exact hw.2.1, by rw [vu_ne (by omega)]; exact hw.2.2⟩)
      simp only [vu_is, ne3, h.2.1.k, wE_I, wE_V, wE_F, wE_A, wE_N, wE_1, wE_2, wE_D, wE_B, wE_If, wE_C, wE_CV, wE_SL, wE_SA, wA_0, wA_1, wC_B, wC_E, wC_And, wC_Or, wC_Not, wS_Skip, wS_Brk, wS_Cnt, wS_RetV, wS_Ret, wS_Seq, wS_Set, wS_Inc, wS_Do, wS_Put, wS_PutC, wS_Arr, wS_ArrC, wS_If, wS_Sw, wS_F0, wS_F1, wM_q, lu_ap, aL_ap, ct_0, ct_1, ct_2, ct_3, ct_4, ct_5, headD_1, List.mem_cons, List.not_mem_nil, or_false, false_or, or_true, true_or, true_and, and_true, false_and, and_false, not_true_eq_false, not_false_eq_true, if_true, if_false, nr_20, nr_24, nr_40, nr_41, nr_44, pt_lt, pt_ge, pt_eq, pt_ne, pt_gt, pt_le, pt_E, pt_N, pt_F, ite_10, ite_11, ne_eq, and_self, or_self, decide_true, decide_false, Bool.not_true, Bool.not_false, Bool.false_eq_true, Nat.reduceEqDiff, Nat.reduceAdd, Int.reduceEq, Int.reduceLT, Int.reduceLE, Int.reduceNeg, Int.reduceAdd, Int.reduceSub, Int.reduceMul, reduceCtorEq]
      refine wM_mono (hM8.tak (k := 268) hQ4 (by decide)) ?_
      rintro r w4 e (⟨g4, rfl, hM9⟩ | ⟨g4, rfl, hb, hq⟩)
      rotate_left
      · rw [stp_0f g4, stp_ff g4, stp_ff g4]
        simp only [wE_I, wE_V, wE_F, wE_A, wE_N, wE_1, wE_2, wE_D, wE_B, wE_If, wE_C, wE_CV, wE_SL, wE_SA, wA_0, wA_1, wC_B, wC_E, wC_And, wC_Or, wC_Not, wS_Skip, wS_Brk, wS_Cnt, wS_RetV, wS_Ret, wS_Seq, wS_Set, wS_Inc, wS_Do, wS_Put, wS_PutC, wS_Arr, wS_ArrC, wS_If, wS_Sw, wS_F0, wS_F1, wM_q, lu_ap, aL_ap, ct_0, ct_1, ct_2, ct_3, ct_4, ct_5, headD_1, List.mem_cons, List.not_mem_nil, or_false, false_or, or_true, true_or, true_and, and_true, false_and, and_false, not_true_eq_false, not_false_eq_true, if_true, if_false, nr_20, nr_24, nr_40, nr_41, nr_44, pt_lt, pt_ge, pt_eq, pt_ne, pt_gt, pt_le, pt_E, pt_N, pt_F, ite_10, ite_11, ne_eq, and_self, or_self, decide_true, decide_false, Bool.not_true, Bool.not_false, Bool.false_eq_true, Nat.reduceEqDiff, Nat.reduceAdd, Int.reduceEq, Int.reduceLT, Int.reduceLE, Int.reduceNeg, Int.reduceAdd, Int.reduceSub, Int.reduceMul, reduceCtorEq]
        exact ⟨hb, hq.1, fun z => absurd z g4⟩
      rw [stp_00 g4]
      -- share
      simp only [l0, l1, hpa, h.2.1.k, wE_I, wE_V, wE_F, wE_A, wE_N, wE_1, wE_2, wE_D, wE_B, wE_If, wE_C, wE_CV, wE_SL, wE_SA, wA_0, wA_1, wC_B, wC_E, wC_And, wC_Or, wC_Not, wS_Skip, wS_Brk, wS_Cnt, wS_RetV, wS_Ret, wS_Seq, wS_Set, wS_Inc, wS_Do, wS_Put, wS_PutC, wS_Arr, wS_ArrC, wS_If, wS_Sw, wS_F0, wS_F1, wM_q, lu_ap, aL_ap, ct_0, ct_1, ct_2, ct_3, ct_4, ct_5, headD_1, List.mem_cons, List.not_mem_nil, or_false, false_or, or_true, true_or, true_and, and_true, false_and, and_false, not_true_eq_false, not_false_eq_true, if_true, if_false, nr_20, nr_24, nr_40, nr_41, nr_44, pt_lt, pt_ge, pt_eq, pt_ne, pt_gt, pt_le, pt_E, pt_N, pt_F, ite_10, ite_11, ne_eq, and_self, or_self, decide_true, decide_false, Bool.not_true, Bool.not_false, Bool.false_eq_true, Nat.reduceEqDiff, Nat.reduceAdd, Int.reduceEq, Int.reduceLT, Int.reduceLE, Int.reduceNeg, Int.reduceAdd, Int.reduceSub, Int.reduceMul, reduceCtorEq]
      refine wM_mono (hM9.num (lo := 0) (hi := 9) hQ4) ?_
      rintro r w5 e (⟨g5, rfl, hMa⟩ | ⟨g5, rfl, hb, hq, hps⟩)
      rotate_left
      · have hcl : ∀ w, LnC u w T x v (fNu v T 0 9 (i + 2 + 1 + 1 + 1 + 1), i + 2 + 1 + 1 + 1 + 1) 0 → LnC u (vu w p 3 (-1)) T x v (fNu v T 0 9 (i + 2 + 1 + 1 + 1 + 1), i + 2 + 1 + 1 + 1 + 1) 0 := fun w hw => by
          unfold LnC at hw ⊢
          rw [vu_ne (by omega), vu_ne (by omega), vu_ne (by omega)]
          exact hw
        rw [stp_0f g5, stp_ff g5]
        simp only [vu_is, wE_I, wE_V, wE_F, wE_A, wE_N, wE_1, wE_2, wE_D, wE_B, wE_If, wE_C, wE_CV, wE_SL, wE_SA, wA_0, wA_1, wC_B, wC_E, wC_And, wC_Or, wC_Not, wS_Skip, wS_Brk, wS_Cnt, wS_RetV, wS_Ret, wS_Seq, wS_Set, wS_Inc, wS_Do, wS_Put, wS_PutC, wS_Arr, wS_ArrC, wS_If, wS_Sw, wS_F0, wS_F1, wM_q, lu_ap, aL_ap, ct_0, ct_1, ct_2, ct_3, ct_4, ct_5, headD_1, List.mem_cons, List.not_mem_nil, or_false, false_or, or_true, true_or, true_and, and_true, false_and, and_false, not_true_eq_false, not_false_eq_true, if_true, if_false, nr_20, nr_24, nr_40, nr_41, nr_44, pt_lt, pt_ge, pt_eq, pt_ne, pt_gt, pt_le, pt_E, pt_N, pt_F, ite_10, ite_11, ne_eq, and_self, or_self, decide_true, decide_false, Bool.not_true, Bool.not_false, Bool.false_eq_true, Nat.reduceEqDiff, Nat.reduceAdd, Int.reduceEq, Int.reduceLT, Int.reduceLE, Int.reduceNeg, Int.reduceAdd, Int.reduceSub, Int.reduceMul, reduceCtorEq]
        exact ⟨hcl _ hb, fun a j q1 q2 q3 => by rw [vu_ne (fun e => q3 (e.1.trans hp.symm))]; exact hq.1 a j q1 q2 q3, fun z => absurd z g5⟩
      rw [stp_00 g5]
      have b5 := fNu_0 g5
      have hMb := hMa.put (Q' := fun w => arF u w x P cnt ∧ w P 2 = cnt ∧ w p 0 = hk ∧ w p 1 = nmT v T (i + 2) ∧ w p 2 = nmT v T (i + 2 + 1 + 1) ∧ w p 3 = nmT v T (i + 2 + 1 + 1 + 1 + 1)) (k := 3) (z := nmT v T (i + 2 + 1 + 1 + 1 + 1)) hxp (by rw [hpa]; rfl) (fun w hw => ⟨fun a j q1 q2 q3 => by rw [vu_ne (fun e => q3 (e.1.trans hp.symm))]; exact hw.1 a j q1 q2 q3, by rw [vu_ne (fun e => hPp e.1)]; exact hw.2.1, by rw [vu_ne (by simp)]; exact hw.2.2.1, by rw [vu_ne (by simp)]; exact hw.2.2.2.1, by rw [vu_ne (by simp)]; exact hw.2.2.2.2, vu_is⟩)
      have ne5 : ¬ nmT v T (i + 2 + 1 + 1 + 1 + 1) = -1 := by omega
      have hQ5 : Qx x (fun w => arF u w x P cnt ∧ w P 2 = cnt ∧ w p 0 = hk ∧ w p 1 = nmT v T (i + 2) ∧ w p 2 = nmT v T (i + 2 + 1 + 1) ∧ w p 3 = nmT v T (i + 2 + 1 + 1 + 1 + 1)) := hQx _ (fun w k z hw _ => ⟨by rw [vu_ne (by omega)]; exact hw.1, by rw [vu_ne (by omega)]; exact hw.2.1, by rw [vu_ne (by omega)]; exact hw.2.2.1, by rw [vu_ne (by omega)]; exact hw.2.2.2⟩)
      simp only [vu_is, ne5, h.2.1.k, wE_I, wE_V, wE_F, wE_A, wE_N, wE_1, wE_2, wE_D, wE_B, wE_If, wE_C, wE_CV, wE_SL, wE_SA, wA_0, wA_1, wC_B, wC_E, wC_And, wC_Or, wC_Not, wS_Skip, wS_Brk, wS_Cnt, wS_RetV, wS_Ret, wS_Seq, wS_Set, wS_Inc, wS_Do, wS_Put, wS_PutC, wS_Arr, wS_ArrC, wS_If, wS_Sw, wS_F0, wS_F1, wM_q, lu_ap, aL_ap, ct_0, ct_1, ct_2, ct_3, ct_4, ct_5, headD_1, List.mem_cons, List.not_mem_nil, or_false, false_or, or_true, true_or, true_and, and_true, false_and, and_false, not_true_eq_false, not_false_eq_true, if_true, if_false, nr_20, nr_24, nr_40, nr_41, nr_44, pt_lt, pt_ge, pt_eq, pt_ne, pt_gt, pt_le, pt_E, pt_N, pt_F, ite_10, ite_11, ne_eq, and_self, or_self, decide_true, decide_false, Bool.not_true, Bool.not_false, Bool.false_eq_true, Nat.reduceEqDiff, Nat.reduceAdd, Int.reduceEq, Int.reduceLT, Int.reduceLE, Int.reduceNeg, Int.reduceAdd, Int.reduceSub, Int.reduceMul, reduceCtorEq]
      refine wM_mono (hMb.tak (k := 59) hQ5 (by decide)) ?_
      rintro r w6 e (⟨g6, rfl, hMc⟩ | ⟨g6, rfl, hb, hq⟩)
      rotate_left
      · rw [stp_0f g6]
        simp only [wE_I, wE_V, wE_F, wE_A, wE_N, wE_1, wE_2, wE_D, wE_B, wE_If, wE_C, wE_CV, wE_SL, wE_SA, wA_0, wA_1, wC_B, wC_E, wC_And, wC_Or, wC_Not, wS_Skip, wS_Brk, wS_Cnt, wS_RetV, wS_Ret, wS_Seq, wS_Set, wS_Inc, wS_Do, wS_Put, wS_PutC, wS_Arr, wS_ArrC, wS_If, wS_Sw, wS_F0, wS_F1, wM_q, lu_ap, aL_ap, ct_0, ct_1, ct_2, ct_3, ct_4, ct_5, headD_1, List.mem_cons, List.not_mem_nil, or_false, false_or, or_true, true_or, true_and, and_true, false_and, and_false, not_true_eq_false, not_false_eq_true, if_true, if_false, nr_20, nr_24, nr_40, nr_41, nr_44, pt_lt, pt_ge, pt_eq, pt_ne, pt_gt, pt_le, pt_E, pt_N, pt_F, ite_10, ite_11, ne_eq, and_self, or_self, decide_true, decide_false, Bool.not_true, Bool.not_false, Bool.false_eq_true, Nat.reduceEqDiff, Nat.reduceAdd, Int.reduceEq, Int.reduceLT, Int.reduceLE, Int.reduceNeg, Int.reduceAdd, Int.reduceSub, Int.reduceMul, reduceCtorEq]
        exact ⟨hb, hq.1, fun z => absurd z g6⟩
      rw [stp_00 g6]
      obtain ⟨hPc, htc, ⟨k3, k4⟩, z1, z2, z3, z4, z5, z6⟩ := hMc
      have e9 : w32 (cnt + 1) = cnt + 1 := w32_e (by omega)
      have hLk : S.1 P = 7 := hL.k
      simp only [l0, h.2.1.k, hPc.2.2.2.1, hLk, z2, e9, wE_I, wE_V, wE_F, wE_A, wE_N, wE_1, wE_2, wE_D, wE_B, wE_If, wE_C, wE_CV, wE_SL, wE_SA, wA_0, wA_1, wC_B, wC_E, wC_And, wC_Or, wC_Not, wS_Skip, wS_Brk, wS_Cnt, wS_RetV, wS_Ret, wS_Seq, wS_Set, wS_Inc, wS_Do, wS_Put, wS_PutC, wS_Arr, wS_ArrC, wS_If, wS_Sw, wS_F0, wS_F1, wM_q, lu_ap, aL_ap, ct_0, ct_1, ct_2, ct_3, ct_4, ct_5, headD_1, List.mem_cons, List.not_mem_nil, or_false, false_or, or_true, true_or, true_and, and_true, false_and, and_false, not_true_eq_false, not_false_eq_true, if_true, if_false, nr_20, nr_24, nr_40, nr_41, nr_44, pt_lt, pt_ge, pt_eq, pt_ne, pt_gt, pt_le, pt_E, pt_N, pt_F, ite_10, ite_11, ne_eq, and_self, or_self, decide_true, decide_false, Bool.not_true, Bool.not_false, Bool.false_eq_true, Nat.reduceEqDiff, Nat.reduceAdd, Int.reduceEq, Int.reduceLT, Int.reduceLE, Int.reduceNeg, Int.reduceAdd, Int.reduceSub, Int.reduceMul, reduceCtorEq, iA, iS, iM, iD, iR, iN, lA, lS, lM, lD, lR]
      clear e9
      refine ⟨Or.inl ⟨rfl, rfl, by rw [vu_ne (by omega)]; exact hPc.2.2.2.2.1, by rw [vu_ne (by omega)]; exact k3, by rw [vu_ne (by omega)]; exact k4⟩, fun a j q1 q2 q3 => by rw [vu_ne (fun e => q2 e.1 e.2)]; exact z1 a j q1 q2 q3, fun _ => ⟨vu_is, by rw [vu_ne (by omega)]; exact z3, by rw [vu_ne (by omega)]; exact z4, by rw [vu_ne (by omega), show i + 4 = i + 2 + 1 + 1 by omega]; exact z5, by rw [vu_ne (by omega), show i + 6 = i + 2 + 1 + 1 + 1 + 1 by omega]; exact z6, ck⟩⟩
end CA
