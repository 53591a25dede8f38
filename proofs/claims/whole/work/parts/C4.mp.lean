/-! STORE: the reference's small steps over the tokens -/
def nmT (v : QV) (T i : Int) : Int := if dvT v T i ≤ 999999 then dvT v T i else 1000000
/-- what is wrong at a token: a kind, a number is asked for -/
def fKd (v : QV) (T k : Int) : Int → Int := fun i => if kdT v T i = k then 0 else 1
def fNu (v : QV) (T lo hi : Int) : Int → Int := fun i => if kdT v T i = 3 then (if lo ≤ nmT v T i ∧ nmT v T i ≤ hi then 0 else 2) else 1
def stp (φ : Int → Int) (o : Int × Int) : Int × Int := if o.1 = 0 then (if φ o.2 = 0 then (0, o.2 + 1) else (φ o.2, o.2)) else o
def CX (v : QV) (M T n : Int) : Prop := TK v T ∧ v T 1 = n ∧ (0 ≤ n ∧ n ≤ 1000) ∧ bRel (v (T + 1)) (v (M + 28)) n ∧ LtO v M ∧ T + 4 < M
def Pw (S : QS) (v w : QV) (M n : Int) : Prop := LMo S w M ∧ w M 31 = n ∧ ∀ k, w (M + 28) k = v (M + 28) k ∧ w (M + 29) k = v (M + 29) k
def OP (v w : QV) (T M : Int) (o : Int × Int) : Prop := (0 ≤ o.2 ∧ o.2 < nTk v T) ∧ if o.1 = 0 then Sy v w T M o.2 ∧ w M 37 = 0 ∧ w M 38 = -1 else 0 < o.1 ∧ w M 37 = o.1 ∧ w M 38 = stT v T o.2
def Fp (M : Int) (v w : QV) : Prop := ∀ a k, (a = M → k < 32 ∨ 38 < k) → w a k = v a k
theorem Fp.rf {M : Int} {v : QV} : Fp M v v := fun _ _ _ => rfl
theorem Fp.tr {M : Int} {u v w : QV} (h : Fp M u v) (h' : Fp M v w) : Fp M u w := fun a k hk => (h' a k hk).trans (h a k hk)
theorem Fsc.fp {M : Int} {v w : QV} (h : Fsc M v w) : Fp M v w := fun a k hk => h a k (fun e => by have := hk e; omega)
theorem Fp.vu {M i z : Int} {v w : QV} (h : Fp M v w) (hi : 32 ≤ i ∧ i ≤ 38) : Fp M v (vu w M i z) := fun a k hk => by
  rw [vu_ne (by omega)]; exact h a k hk
theorem Sy.q {v w w' : QV} {T M i : Int} (h : Sy v w T M i) (hf : ∀ k, 32 ≤ k → k ≤ 36 → w' M k = w M k) : Sy v w' T M i := by
  unfold Sy at h ⊢
  rw [hf 33 (by decide) (by decide), hf 32 (by decide) (by decide), hf 34 (by decide) (by decide), hf 35 (by decide) (by decide), hf 36 (by decide) (by decide)]
  exact h
section MP
variable {S : QS} {v w : QV} {M T n : Int} {o : Int × Int}
theorem Pw.fp {w' : QV} (h : Pw S v w M n) (hk : Km S w w') (hf : Fp M w w') : Pw S v w' M n := by
  obtain ⟨h1, h2, h3⟩ := h
  exact ⟨h1.keep hk.p, by rw [hf _ _ (by omega)]; exact h2, fun k => ⟨by rw [hf _ _ (by omega)]; exact (h3 k).1, by rw [hf _ _ (by omega)]; exact (h3 k).2⟩⟩
theorem Sy.wd {i : Int} (h : Sy v w T M i) {j : Nat} (hj : j < 18) : (w M 34 = 2 ∧ w M 36 = j) ↔ kdT v T i = 256 + pmN j := by
  have hb : (pmN j : Int) < 18 := by have := pm_b j hj; omega
  obtain ⟨-, h⟩ := h
  unfold isSg at h
  rcases h with h | h | h | h | ⟨j', hj', h⟩ | h
  · omega
  · omega
  · omega
  · omega
  · have hb' : (pmN j' : Int) < 18 := by have := pm_b j' hj'; omega
    constructor
    · rintro ⟨-, e⟩
      have : j = j' := by omega
      rw [this]; exact h.1
    · intro e
      refine ⟨h.2.1, ?_⟩
      have e2 : pmN j = pmN j' := by omega
      have hinj : ∀ a : Nat, a < 18 → ∀ b : Nat, b < 18 → pmN a = pmN b → a = b := by decide +kernel
      rw [hinj j hj j' hj' e2]; exact h.2.2
  · omega
theorem Sy.nm {i : Int} (h : Sy v w T M i) : (w M 34 = 2 ∧ w M 36 = -1) ↔ kdT v T i = 4 := by
  obtain ⟨-, h⟩ := h
  unfold isSg at h
  rcases h with h | h | h | h | ⟨j', hj', h⟩ | h <;> omega
theorem Sy.nu {i : Int} (h : Sy v w T M i) : (w M 34 = 3 ↔ kdT v T i = 3) ∧ (w M 34 = 3 → nuR (w M 35) (dvT v T i) ∧ 0 ≤ dvT v T i) ∧ (w M 34 = 0 ↔ kdT v T i = 1) := by
  obtain ⟨-, h⟩ := h
  unfold isSg at h
  rcases h with h | h | h | h | ⟨j', hj', h⟩ | h
  · refine ⟨by omega, fun z => by omega, by omega⟩
  · refine ⟨by omega, fun z => by omega, by omega⟩
  · exact ⟨by omega, fun _ => h.2.2, by omega⟩
  · refine ⟨by omega, fun z => by omega, by omega⟩
  · refine ⟨by omega, fun z => by omega, by omega⟩
  · refine ⟨by omega, fun z => by omega, by omega⟩
theorem Sy.at' {i s : Int} (h : Sy v w T M i) (hs : isSg s) : (w M 34 = 4 ∧ v (M + 28) (stT v T i) = s) ↔ kdT v T i = s := by
  obtain ⟨-, h⟩ := h
  unfold isSg at h hs
  rcases h with h | h | h | h | ⟨j', hj', h⟩ | h <;> omega
theorem CX.st (h : CX v M T n) {i : Int} (hi : 0 ≤ i ∧ i < nTk v T) : 0 ≤ stT v T i ∧ stT v T i ≤ spT v T i ∧ spT v T i ≤ n ∧ (kdT v T i = 1 → i = nTk v T - 1) ∧ (i < nTk v T - 1 → stT v T i < n) := by
  obtain ⟨⟨t1, t2, t3, t4⟩, e, hn, -⟩ := h
  subst e
  by_cases c : i = nTk v T - 1
  · subst c
    rw [t2.2.1, t2.2.2]
    exact ⟨hn.1, Int.le_refl _, Int.le_refl _, fun _ => rfl, fun z => by omega⟩
  · obtain ⟨⟨o0, o1, o2⟩, o3, o4, o5⟩ := t3 i hi.1 (by omega)
    refine ⟨o0, by omega, o2, fun z => ?_, fun _ => by omega⟩
    exfalso
    unfold isKd isSg at o4
    by_cases cl : isLe (v (T + 1) (stT v T i))
    · rcases o4.1 cl with ⟨i', -, -, hk⟩ | ⟨hk, -⟩ <;> omega
    · by_cases cd : isDg (v (T + 1) (stT v T i))
      · have := o4.2.1 cd; omega
      · have := o4.2.2 cl cd; omega
theorem CX.ls (h : CX v M T n) {i : Int} (hi : 0 ≤ i ∧ i < nTk v T) : 0 ≤ lsO v T i ∧ lsO v T i ≤ n := by
  unfold lsO
  split
  · exact ⟨Int.le_refl _, h.2.2.1.1⟩
  · have := h.st (i := i - 1) (by omega)
    omega
theorem m_scanO (hc : CX v M T n) (hw : Pw S v w M n) {i : Int} (hi : 0 ≤ i ∧ i < nTk v T) (h32 : w M 32 = lsO v T i) (h37 : w M 37 = 0) (h38 : w M 38 = -1) : wM mX12_scan [M] S w (fun _ w' => OP v w' T M (0, i) ∧ Pw S v w' M n ∧ Fp M w w') := by
  have hls := hc.ls hi
  have hwb : w (M + 28) = v (M + 28) := funext fun k => (hw.2.2 k).1
  have hlt : LtO w M := fun k hk => by rw [(hw.2.2 k).2]; exact hc.2.2.2.2.1 k hk
  refine wM_mono (m_scan hw.1 hlt hw.2.1 hc.2.2.1.2 h32 hls) ?_
  rintro r w' e ⟨⟨q, r', hN, hS⟩, hf⟩
  rw [hwb] at hN hS
  have hs := hS.sy hc.1 hc.2.1 hc.2.2.2.1 hi hls.1 hN
  have hf' := hf.fp
  refine ⟨⟨hi, ?_⟩, hw.fp (Km.of kX12_scan e) hf', hf'⟩
  rw [if_pos rfl]
  exact ⟨hs, by rw [hf _ _ (by omega)]; exact h37, by rw [hf _ _ (by omega)]; exact h38⟩
theorem m_failO (hw : Pw S v w M n) (ho : OP v w T M o) {f : Int} (hf : 0 < f) : wM mX12_fail [M, f] S w (fun _ w' => OP v w' T M (if o.1 = 0 then (f, o.2) else o) ∧ Pw S v w' M n ∧ Fp M w w') := by
  obtain ⟨ho1, ho2⟩ := ho
  by_cases c : o.1 = 0
  · rw [if_pos c] at ho2 ⊢
    obtain ⟨hs, h37, h38⟩ := ho2
    have h33 := hs.1.1
    have hk : Km S w (vu (vu w M 37 f) M 38 (stT v T o.2)) := Km.vu (Km.vu Km.rf (by rw [hw.1.k]; rfl)) (by rw [hw.1.k]; rfl)
    have hfp : Fp M w (vu (vu w M 37 f) M 38 (stT v T o.2)) := Fp.vu (Fp.vu Fp.rf (by decide)) (by decide)
    have n33 : vu w M 37 f M 33 = stT v T o.2 := by rw [vu_ne (by simp)]; exact h33
    have n0 : ¬ (0 : Int) < 0 := by decide
    simp only [mX12_fail, sX12_fail, wE_I, wE_V, wE_F, wE_A, wE_N, wE_1, wE_2, wE_D, wE_B, wE_If, wE_C, wE_CV, wE_SL, wE_SA, wA_0, wA_1, wC_B, wC_E, wC_And, wC_Or, wC_Not, wS_Skip, wS_Brk, wS_Cnt, wS_RetV, wS_Ret, wS_Seq, wS_Set, wS_Inc, wS_Do, wS_Put, wS_PutC, wS_Arr, wS_ArrC, wS_If, wS_Sw, wS_F0, wS_F1, wM_q, lu_ap, aL_ap, ct_0, ct_1, ct_2, ct_3, ct_4, ct_5, headD_1, List.mem_cons, List.not_mem_nil, or_false, false_or, or_true, true_or, true_and, and_true, false_and, and_false, not_true_eq_false, not_false_eq_true, if_true, if_false, nr_20, nr_24, nr_40, nr_41, nr_44, pt_lt, pt_ge, pt_eq, pt_ne, pt_gt, pt_le, pt_E, pt_N, pt_F, ite_10, ite_11, ne_eq, and_self, or_self, decide_true, decide_false, Bool.not_true, Bool.not_false, Bool.false_eq_true, Nat.reduceEqDiff, Nat.reduceAdd, Int.reduceEq, Int.reduceLT, Int.reduceLE, Int.reduceNeg, Int.reduceAdd, Int.reduceSub, Int.reduceMul, reduceCtorEq, iA, iS, iM, iD, iR, iN, lA, lS, lM, lD, lR, hw.1.k, h37, n33, n0]
    refine ⟨⟨ho1, ?_⟩, hw.fp hk hfp, hfp⟩
    rw [if_neg (show ¬ f = 0 by omega)]
    exact ⟨hf, by rw [vu_ne (by simp), vu_is], vu_is⟩
  · rw [if_neg c] at ho2 ⊢
    obtain ⟨h0, h37, h38⟩ := ho2
    simp only [mX12_fail, sX12_fail, wE_I, wE_V, wE_F, wE_A, wE_N, wE_1, wE_2, wE_D, wE_B, wE_If, wE_C, wE_CV, wE_SL, wE_SA, wA_0, wA_1, wC_B, wC_E, wC_And, wC_Or, wC_Not, wS_Skip, wS_Brk, wS_Cnt, wS_RetV, wS_Ret, wS_Seq, wS_Set, wS_Inc, wS_Do, wS_Put, wS_PutC, wS_Arr, wS_ArrC, wS_If, wS_Sw, wS_F0, wS_F1, wM_q, lu_ap, aL_ap, ct_0, ct_1, ct_2, ct_3, ct_4, ct_5, headD_1, List.mem_cons, List.not_mem_nil, or_false, false_or, or_true, true_or, true_and, and_true, false_and, and_false, not_true_eq_false, not_false_eq_true, if_true, if_false, nr_20, nr_24, nr_40, nr_41, nr_44, pt_lt, pt_ge, pt_eq, pt_ne, pt_gt, pt_le, pt_E, pt_N, pt_F, ite_10, ite_11, ne_eq, and_self, or_self, decide_true, decide_false, Bool.not_true, Bool.not_false, Bool.false_eq_true, Nat.reduceEqDiff, Nat.reduceAdd, Int.reduceEq, Int.reduceLT, Int.reduceLE, Int.reduceNeg, Int.reduceAdd, Int.reduceSub, Int.reduceMul, reduceCtorEq, iA, iS, iM, iD, iR, iN, lA, lS, lM, lD, lR, hw.1.k, h37, h0]
    exact ⟨⟨ho1, by rw [if_neg c]; exact ⟨h0, h37, h38⟩⟩, hw, Fp.rf⟩
theorem m_isWordO (hw : Pw S v w M n) (ho : OP v w T M o) {j : Nat} (hj : j < 18) : mX12_isWord [M, (j : Int)] S w = some (if o.1 = 0 ∧ kdT v T o.2 = 256 + pmN j then 1 else 0, w) := by
  obtain ⟨ho1, ho2⟩ := ho
  apply wM_eq
  by_cases c : o.1 = 0
  · rw [if_pos c] at ho2
    obtain ⟨hs, h37, h38⟩ := ho2
    have hwd := hs.wd hj
    by_cases c2 : w M 34 = 2
    · by_cases c3 : w M 36 = j
      · simp only [mX12_isWord, sX12_isWord, wE_I, wE_V, wE_F, wE_A, wE_N, wE_1, wE_2, wE_D, wE_B, wE_If, wE_C, wE_CV, wE_SL, wE_SA, wA_0, wA_1, wC_B, wC_E, wC_And, wC_Or, wC_Not, wS_Skip, wS_Brk, wS_Cnt, wS_RetV, wS_Ret, wS_Seq, wS_Set, wS_Inc, wS_Do, wS_Put, wS_PutC, wS_Arr, wS_ArrC, wS_If, wS_Sw, wS_F0, wS_F1, wM_q, lu_ap, aL_ap, ct_0, ct_1, ct_2, ct_3, ct_4, ct_5, headD_1, List.mem_cons, List.not_mem_nil, or_false, false_or, or_true, true_or, true_and, and_true, false_and, and_false, not_true_eq_false, not_false_eq_true, if_true, if_false, nr_20, nr_24, nr_40, nr_41, nr_44, pt_lt, pt_ge, pt_eq, pt_ne, pt_gt, pt_le, pt_E, pt_N, pt_F, ite_10, ite_11, ne_eq, and_self, or_self, decide_true, decide_false, Bool.not_true, Bool.not_false, Bool.false_eq_true, Nat.reduceEqDiff, Nat.reduceAdd, Int.reduceEq, Int.reduceLT, Int.reduceLE, Int.reduceNeg, Int.reduceAdd, Int.reduceSub, Int.reduceMul, reduceCtorEq, iA, iS, iM, iD, iR, iN, lA, lS, lM, lD, lR, hw.1.k, h37, c2, c3, c, hwd.mp ⟨c2, c3⟩]
      · have c4 : ¬ kdT v T o.2 = 256 + pmN j := fun e => c3 (hwd.mpr e).2
        simp only [mX12_isWord, sX12_isWord, wE_I, wE_V, wE_F, wE_A, wE_N, wE_1, wE_2, wE_D, wE_B, wE_If, wE_C, wE_CV, wE_SL, wE_SA, wA_0, wA_1, wC_B, wC_E, wC_And, wC_Or, wC_Not, wS_Skip, wS_Brk, wS_Cnt, wS_RetV, wS_Ret, wS_Seq, wS_Set, wS_Inc, wS_Do, wS_Put, wS_PutC, wS_Arr, wS_ArrC, wS_If, wS_Sw, wS_F0, wS_F1, wM_q, lu_ap, aL_ap, ct_0, ct_1, ct_2, ct_3, ct_4, ct_5, headD_1, List.mem_cons, List.not_mem_nil, or_false, false_or, or_true, true_or, true_and, and_true, false_and, and_false, not_true_eq_false, not_false_eq_true, if_true, if_false, nr_20, nr_24, nr_40, nr_41, nr_44, pt_lt, pt_ge, pt_eq, pt_ne, pt_gt, pt_le, pt_E, pt_N, pt_F, ite_10, ite_11, ne_eq, and_self, or_self, decide_true, decide_false, Bool.not_true, Bool.not_false, Bool.false_eq_true, Nat.reduceEqDiff, Nat.reduceAdd, Int.reduceEq, Int.reduceLT, Int.reduceLE, Int.reduceNeg, Int.reduceAdd, Int.reduceSub, Int.reduceMul, reduceCtorEq, iA, iS, iM, iD, iR, iN, lA, lS, lM, lD, lR, hw.1.k, h37, c2, c3, c, c4]
    · have c4 : ¬ kdT v T o.2 = 256 + pmN j := fun e => c2 (hwd.mpr e).1
      simp only [mX12_isWord, sX12_isWord, wE_I, wE_V, wE_F, wE_A, wE_N, wE_1, wE_2, wE_D, wE_B, wE_If, wE_C, wE_CV, wE_SL, wE_SA, wA_0, wA_1, wC_B, wC_E, wC_And, wC_Or, wC_Not, wS_Skip, wS_Brk, wS_Cnt, wS_RetV, wS_Ret, wS_Seq, wS_Set, wS_Inc, wS_Do, wS_Put, wS_PutC, wS_Arr, wS_ArrC, wS_If, wS_Sw, wS_F0, wS_F1, wM_q, lu_ap, aL_ap, ct_0, ct_1, ct_2, ct_3, ct_4, ct_5, headD_1, List.mem_cons, List.not_mem_nil, or_false, false_or, or_true, true_or, true_and, and_true, false_and, and_false, not_true_eq_false, not_false_eq_true, if_true, if_false, nr_20, nr_24, nr_40, nr_41, nr_44, pt_lt, pt_ge, pt_eq, pt_ne, pt_gt, pt_le, pt_E, pt_N, pt_F, ite_10, ite_11, ne_eq, and_self, or_self, decide_true, decide_false, Bool.not_true, Bool.not_false, Bool.false_eq_true, Nat.reduceEqDiff, Nat.reduceAdd, Int.reduceEq, Int.reduceLT, Int.reduceLE, Int.reduceNeg, Int.reduceAdd, Int.reduceSub, Int.reduceMul, reduceCtorEq, iA, iS, iM, iD, iR, iN, lA, lS, lM, lD, lR, hw.1.k, h37, c2, c, c4]
  · rw [if_neg c] at ho2
    have h37 : ¬ w M 37 = 0 := by omega
    simp only [mX12_isWord, sX12_isWord, wE_I, wE_V, wE_F, wE_A, wE_N, wE_1, wE_2, wE_D, wE_B, wE_If, wE_C, wE_CV, wE_SL, wE_SA, wA_0, wA_1, wC_B, wC_E, wC_And, wC_Or, wC_Not, wS_Skip, wS_Brk, wS_Cnt, wS_RetV, wS_Ret, wS_Seq, wS_Set, wS_Inc, wS_Do, wS_Put, wS_PutC, wS_Arr, wS_ArrC, wS_If, wS_Sw, wS_F0, wS_F1, wM_q, lu_ap, aL_ap, ct_0, ct_1, ct_2, ct_3, ct_4, ct_5, headD_1, List.mem_cons, List.not_mem_nil, or_false, false_or, or_true, true_or, true_and, and_true, false_and, and_false, not_true_eq_false, not_false_eq_true, if_true, if_false, nr_20, nr_24, nr_40, nr_41, nr_44, pt_lt, pt_ge, pt_eq, pt_ne, pt_gt, pt_le, pt_E, pt_N, pt_F, ite_10, ite_11, ne_eq, and_self, or_self, decide_true, decide_false, Bool.not_true, Bool.not_false, Bool.false_eq_true, Nat.reduceEqDiff, Nat.reduceAdd, Int.reduceEq, Int.reduceLT, Int.reduceLE, Int.reduceNeg, Int.reduceAdd, Int.reduceSub, Int.reduceMul, reduceCtorEq, iA, iS, iM, iD, iR, iN, lA, lS, lM, lD, lR, hw.1.k, h37, c]
theorem m_isNameO (hw : Pw S v w M n) (ho : OP v w T M o) : mX12_isName [M] S w = some (if o.1 = 0 ∧ kdT v T o.2 = 4 then 1 else 0, w) := by
  obtain ⟨ho1, ho2⟩ := ho
  apply wM_eq
  by_cases c : o.1 = 0
  · rw [if_pos c] at ho2
    obtain ⟨hs, h37, h38⟩ := ho2
    have hwd := hs.nm
    by_cases c2 : w M 34 = 2
    · by_cases c3 : w M 36 = -1
      · simp only [mX12_isName, sX12_isName, wE_I, wE_V, wE_F, wE_A, wE_N, wE_1, wE_2, wE_D, wE_B, wE_If, wE_C, wE_CV, wE_SL, wE_SA, wA_0, wA_1, wC_B, wC_E, wC_And, wC_Or, wC_Not, wS_Skip, wS_Brk, wS_Cnt, wS_RetV, wS_Ret, wS_Seq, wS_Set, wS_Inc, wS_Do, wS_Put, wS_PutC, wS_Arr, wS_ArrC, wS_If, wS_Sw, wS_F0, wS_F1, wM_q, lu_ap, aL_ap, ct_0, ct_1, ct_2, ct_3, ct_4, ct_5, headD_1, List.mem_cons, List.not_mem_nil, or_false, false_or, or_true, true_or, true_and, and_true, false_and, and_false, not_true_eq_false, not_false_eq_true, if_true, if_false, nr_20, nr_24, nr_40, nr_41, nr_44, pt_lt, pt_ge, pt_eq, pt_ne, pt_gt, pt_le, pt_E, pt_N, pt_F, ite_10, ite_11, ne_eq, and_self, or_self, decide_true, decide_false, Bool.not_true, Bool.not_false, Bool.false_eq_true, Nat.reduceEqDiff, Nat.reduceAdd, Int.reduceEq, Int.reduceLT, Int.reduceLE, Int.reduceNeg, Int.reduceAdd, Int.reduceSub, Int.reduceMul, reduceCtorEq, iA, iS, iM, iD, iR, iN, lA, lS, lM, lD, lR, hw.1.k, h37, c2, c3, c, hwd.mp ⟨c2, c3⟩]
      · have c4 : ¬ kdT v T o.2 = 4 := fun e => c3 (hwd.mpr e).2
        simp only [mX12_isName, sX12_isName, wE_I, wE_V, wE_F, wE_A, wE_N, wE_1, wE_2, wE_D, wE_B, wE_If, wE_C, wE_CV, wE_SL, wE_SA, wA_0, wA_1, wC_B, wC_E, wC_And, wC_Or, wC_Not, wS_Skip, wS_Brk, wS_Cnt, wS_RetV, wS_Ret, wS_Seq, wS_Set, wS_Inc, wS_Do, wS_Put, wS_PutC, wS_Arr, wS_ArrC, wS_If, wS_Sw, wS_F0, wS_F1, wM_q, lu_ap, aL_ap, ct_0, ct_1, ct_2, ct_3, ct_4, ct_5, headD_1, List.mem_cons, List.not_mem_nil, or_false, false_or, or_true, true_or, true_and, and_true, false_and, and_false, not_true_eq_false, not_false_eq_true, if_true, if_false, nr_20, nr_24, nr_40, nr_41, nr_44, pt_lt, pt_ge, pt_eq, pt_ne, pt_gt, pt_le, pt_E, pt_N, pt_F, ite_10, ite_11, ne_eq, and_self, or_self, decide_true, decide_false, Bool.not_true, Bool.not_false, Bool.false_eq_true, Nat.reduceEqDiff, Nat.reduceAdd, Int.reduceEq, Int.reduceLT, Int.reduceLE, Int.reduceNeg, Int.reduceAdd, Int.reduceSub, Int.reduceMul, reduceCtorEq, iA, iS, iM, iD, iR, iN, lA, lS, lM, lD, lR, hw.1.k, h37, c2, c3, c, c4]
    · have c4 : ¬ kdT v T o.2 = 4 := fun e => c2 (hwd.mpr e).1
      simp only [mX12_isName, sX12_isName, wE_I, wE_V, wE_F, wE_A, wE_N, wE_1, wE_2, wE_D, wE_B, wE_If, wE_C, wE_CV, wE_SL, wE_SA, wA_0, wA_1, wC_B, wC_E, wC_And, wC_Or, wC_Not, wS_Skip, wS_Brk, wS_Cnt, wS_RetV, wS_Ret, wS_Seq, wS_Set, wS_Inc, wS_Do, wS_Put, wS_PutC, wS_Arr, wS_ArrC, wS_If, wS_Sw, wS_F0, wS_F1, wM_q, lu_ap, aL_ap, ct_0, ct_1, ct_2, ct_3, ct_4, ct_5, headD_1, List.mem_cons, List.not_mem_nil, or_false, false_or, or_true, true_or, true_and, and_true, false_and, and_false, not_true_eq_false, not_false_eq_true, if_true, if_false, nr_20, nr_24, nr_40, nr_41, nr_44, pt_lt, pt_ge, pt_eq, pt_ne, pt_gt, pt_le, pt_E, pt_N, pt_F, ite_10, ite_11, ne_eq, and_self, or_self, decide_true, decide_false, Bool.not_true, Bool.not_false, Bool.false_eq_true, Nat.reduceEqDiff, Nat.reduceAdd, Int.reduceEq, Int.reduceLT, Int.reduceLE, Int.reduceNeg, Int.reduceAdd, Int.reduceSub, Int.reduceMul, reduceCtorEq, iA, iS, iM, iD, iR, iN, lA, lS, lM, lD, lR, hw.1.k, h37, c2, c, c4]
  · rw [if_neg c] at ho2
    have h37 : ¬ w M 37 = 0 := by omega
    simp only [mX12_isName, sX12_isName, wE_I, wE_V, wE_F, wE_A, wE_N, wE_1, wE_2, wE_D, wE_B, wE_If, wE_C, wE_CV, wE_SL, wE_SA, wA_0, wA_1, wC_B, wC_E, wC_And, wC_Or, wC_Not, wS_Skip, wS_Brk, wS_Cnt, wS_RetV, wS_Ret, wS_Seq, wS_Set, wS_Inc, wS_Do, wS_Put, wS_PutC, wS_Arr, wS_ArrC, wS_If, wS_Sw, wS_F0, wS_F1, wM_q, lu_ap, aL_ap, ct_0, ct_1, ct_2, ct_3, ct_4, ct_5, headD_1, List.mem_cons, List.not_mem_nil, or_false, false_or, or_true, true_or, true_and, and_true, false_and, and_false, not_true_eq_false, not_false_eq_true, if_true, if_false, nr_20, nr_24, nr_40, nr_41, nr_44, pt_lt, pt_ge, pt_eq, pt_ne, pt_gt, pt_le, pt_E, pt_N, pt_F, ite_10, ite_11, ne_eq, and_self, or_self, decide_true, decide_false, Bool.not_true, Bool.not_false, Bool.false_eq_true, Nat.reduceEqDiff, Nat.reduceAdd, Int.reduceEq, Int.reduceLT, Int.reduceLE, Int.reduceNeg, Int.reduceAdd, Int.reduceSub, Int.reduceMul, reduceCtorEq, iA, iS, iM, iD, iR, iN, lA, lS, lM, lD, lR, hw.1.k, h37, c]
theorem m_isAtO (hc : CX v M T n) (hw : Pw S v w M n) (ho : OP v w T M o) {s : Int} (hsg : isSg s) : mX12_isAt [M, s] S w = some (if o.1 = 0 ∧ kdT v T o.2 = s then 1 else 0, w) := by
  obtain ⟨ho1, ho2⟩ := ho
  apply wM_eq
  by_cases c : o.1 = 0
  · rw [if_pos c] at ho2
    obtain ⟨hs, h37, h38⟩ := ho2
    have hat := hs.at' hsg
    have hst := hc.st ho1
    have h33 := hs.1.1
    have hsa := m_signAt hw.1 (p := stT v T o.2) hst.1 (by rw [hw.2.1]; exact hc.2.2.1.2)
    by_cases c2 : w M 34 = 4
    · have hne : o.2 < nTk v T - 1 := by
        by_cases z : o.2 = nTk v T - 1
        · have h1 : kdT v T o.2 = 1 := by rw [z]; exact hc.1.2.1.1
          have := hs.nu.2.2.mpr h1
          omega
        · omega
      rw [if_pos (by rw [hw.2.1]; exact hst.2.2.2.2 hne), (hw.2.2 _).1] at hsa
      by_cases c3 : v (M + 28) (stT v T o.2) = s
      · simp only [mX12_isAt, sX12_isAt, wE_I, wE_V, wE_F, wE_A, wE_N, wE_1, wE_2, wE_D, wE_B, wE_If, wE_C, wE_CV, wE_SL, wE_SA, wA_0, wA_1, wC_B, wC_E, wC_And, wC_Or, wC_Not, wS_Skip, wS_Brk, wS_Cnt, wS_RetV, wS_Ret, wS_Seq, wS_Set, wS_Inc, wS_Do, wS_Put, wS_PutC, wS_Arr, wS_ArrC, wS_If, wS_Sw, wS_F0, wS_F1, wM_q, lu_ap, aL_ap, ct_0, ct_1, ct_2, ct_3, ct_4, ct_5, headD_1, List.mem_cons, List.not_mem_nil, or_false, false_or, or_true, true_or, true_and, and_true, false_and, and_false, not_true_eq_false, not_false_eq_true, if_true, if_false, nr_20, nr_24, nr_40, nr_41, nr_44, pt_lt, pt_ge, pt_eq, pt_ne, pt_gt, pt_le, pt_E, pt_N, pt_F, ite_10, ite_11, ne_eq, and_self, or_self, decide_true, decide_false, Bool.not_true, Bool.not_false, Bool.false_eq_true, Nat.reduceEqDiff, Nat.reduceAdd, Int.reduceEq, Int.reduceLT, Int.reduceLE, Int.reduceNeg, Int.reduceAdd, Int.reduceSub, Int.reduceMul, reduceCtorEq, iA, iS, iM, iD, iR, iN, lA, lS, lM, lD, lR, hw.1.k, h37, c2, h33, wM_of hsa, c3, c, hat.mp ⟨c2, c3⟩]
      · have c4 : ¬ kdT v T o.2 = s := fun e => c3 (hat.mpr e).2
        simp only [mX12_isAt, sX12_isAt, wE_I, wE_V, wE_F, wE_A, wE_N, wE_1, wE_2, wE_D, wE_B, wE_If, wE_C, wE_CV, wE_SL, wE_SA, wA_0, wA_1, wC_B, wC_E, wC_And, wC_Or, wC_Not, wS_Skip, wS_Brk, wS_Cnt, wS_RetV, wS_Ret, wS_Seq, wS_Set, wS_Inc, wS_Do, wS_Put, wS_PutC, wS_Arr, wS_ArrC, wS_If, wS_Sw, wS_F0, wS_F1, wM_q, lu_ap, aL_ap, ct_0, ct_1, ct_2, ct_3, ct_4, ct_5, headD_1, List.mem_cons, List.not_mem_nil, or_false, false_or, or_true, true_or, true_and, and_true, false_and, and_false, not_true_eq_false, not_false_eq_true, if_true, if_false, nr_20, nr_24, nr_40, nr_41, nr_44, pt_lt, pt_ge, pt_eq, pt_ne, pt_gt, pt_le, pt_E, pt_N, pt_F, ite_10, ite_11, ne_eq, and_self, or_self, decide_true, decide_false, Bool.not_true, Bool.not_false, Bool.false_eq_true, Nat.reduceEqDiff, Nat.reduceAdd, Int.reduceEq, Int.reduceLT, Int.reduceLE, Int.reduceNeg, Int.reduceAdd, Int.reduceSub, Int.reduceMul, reduceCtorEq, iA, iS, iM, iD, iR, iN, lA, lS, lM, lD, lR, hw.1.k, h37, c2, h33, wM_of hsa, c3, c, c4]
    · have c4 : ¬ kdT v T o.2 = s := fun e => c2 (hat.mpr e).1
      simp only [mX12_isAt, sX12_isAt, wE_I, wE_V, wE_F, wE_A, wE_N, wE_1, wE_2, wE_D, wE_B, wE_If, wE_C, wE_CV, wE_SL, wE_SA, wA_0, wA_1, wC_B, wC_E, wC_And, wC_Or, wC_Not, wS_Skip, wS_Brk, wS_Cnt, wS_RetV, wS_Ret, wS_Seq, wS_Set, wS_Inc, wS_Do, wS_Put, wS_PutC, wS_Arr, wS_ArrC, wS_If, wS_Sw, wS_F0, wS_F1, wM_q, lu_ap, aL_ap, ct_0, ct_1, ct_2, ct_3, ct_4, ct_5, headD_1, List.mem_cons, List.not_mem_nil, or_false, false_or, or_true, true_or, true_and, and_true, false_and, and_false, not_true_eq_false, not_false_eq_true, if_true, if_false, nr_20, nr_24, nr_40, nr_41, nr_44, pt_lt, pt_ge, pt_eq, pt_ne, pt_gt, pt_le, pt_E, pt_N, pt_F, ite_10, ite_11, ne_eq, and_self, or_self, decide_true, decide_false, Bool.not_true, Bool.not_false, Bool.false_eq_true, Nat.reduceEqDiff, Nat.reduceAdd, Int.reduceEq, Int.reduceLT, Int.reduceLE, Int.reduceNeg, Int.reduceAdd, Int.reduceSub, Int.reduceMul, reduceCtorEq, iA, iS, iM, iD, iR, iN, lA, lS, lM, lD, lR, hw.1.k, h37, c2, c, c4]
  · rw [if_neg c] at ho2
    have h37 : ¬ w M 37 = 0 := by omega
    simp only [mX12_isAt, sX12_isAt, wE_I, wE_V, wE_F, wE_A, wE_N, wE_1, wE_2, wE_D, wE_B, wE_If, wE_C, wE_CV, wE_SL, wE_SA, wA_0, wA_1, wC_B, wC_E, wC_And, wC_Or, wC_Not, wS_Skip, wS_Brk, wS_Cnt, wS_RetV, wS_Ret, wS_Seq, wS_Set, wS_Inc, wS_Do, wS_Put, wS_PutC, wS_Arr, wS_ArrC, wS_If, wS_Sw, wS_F0, wS_F1, wM_q, lu_ap, aL_ap, ct_0, ct_1, ct_2, ct_3, ct_4, ct_5, headD_1, List.mem_cons, List.not_mem_nil, or_false, false_or, or_true, true_or, true_and, and_true, false_and, and_false, not_true_eq_false, not_false_eq_true, if_true, if_false, nr_20, nr_24, nr_40, nr_41, nr_44, pt_lt, pt_ge, pt_eq, pt_ne, pt_gt, pt_le, pt_E, pt_N, pt_F, ite_10, ite_11, ne_eq, and_self, or_self, decide_true, decide_false, Bool.not_true, Bool.not_false, Bool.false_eq_true, Nat.reduceEqDiff, Nat.reduceAdd, Int.reduceEq, Int.reduceLT, Int.reduceLE, Int.reduceNeg, Int.reduceAdd, Int.reduceSub, Int.reduceMul, reduceCtorEq, iA, iS, iM, iD, iR, iN, lA, lS, lM, lD, lR, hw.1.k, h37, c]
/-- the next token -/
theorem OP.nx (hc : CX v M T n) {i : Int} (ho : OP v w T M (0, i)) (hk : kdT v T i ≠ 1) : (0 ≤ i + 1 ∧ i + 1 < nTk v T) ∧ w M 32 = lsO v T (i + 1) ∧ w M 37 = 0 ∧ w M 38 = -1 := by
  obtain ⟨ho1, ho2⟩ := ho
  rw [if_pos rfl] at ho2
  dsimp only at ho1 ho2
  have hne : i ≠ nTk v T - 1 := fun e => hk (by rw [e]; exact hc.1.2.1.1)
  refine ⟨by omega, ?_, ho2.2⟩
  unfold lsO
  rw [if_neg (by omega), show i + 1 - 1 = i by omega]
  exact ho2.1.1.2
end MP
