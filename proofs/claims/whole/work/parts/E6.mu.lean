/-! STORE: a unit of a formula, the reference's -/
def mfr (M B l0 : Int) (u w : QV) : Prop := ∀ a k, (a = M → (k < 32 ∨ 38 < k) ∧ k ≠ 44 ∧ k ≠ 45) → a ≠ M + 31 → (a = M + 6 ∨ a = M + 7 → k ≠ B) → (a = M + 24 → k < 100 * B + l0 ∨ 100 * B + 100 ≤ k) → w a k = u a k
def MQf (u : QV) (M B l0 : Int) (st : List Int) (c : Int → Int) (l un op : Int) (w : QV) : Prop := mfr M B l0 u w ∧ MRp w M B st c l ∧ w (M + 6) B = un ∧ w M 45 = op
section MU
variable {S : QS} {u v w w' u0 : QV} {M T n x B l0 nm op un : Int} {ns : Nat} {β : Int → Int} {st st' : List Int} {c c' : Int → Int} {l l' i : Int} {o : Int × Int}
theorem MRp.fp (h : MRp w M B st c l) (hf : Fp M w w') : MRp w' M B st c l := by
  obtain ⟨h1, h2, h3, h4⟩ := h
  exact ⟨by rw [hf _ _ (by omega)]; exact h1, fun k hk => by rw [hf _ _ (by omega)]; exact h2 k hk, by rw [hf _ _ (by omega)]; exact h3, fun k k0 k1 => by rw [hf _ _ (by omega)]; exact h4 k k0 k1⟩
theorem MQf.qz : Qz M (MQf u0 M B l0 st c l un op) := fun w w' h hf => ⟨fun a k q1 q2 q3 q4 => (hf a k (fun e => (q1 e).1)).trans (h.1 a k q1 q2 q3 q4), h.2.1.fp hf, by rw [hf _ _ (by omega)]; exact h.2.2.1, by rw [hf _ _ (by omega)]; exact h.2.2.2⟩
/-- beside the machine's fields nothing else moves -/
theorem Mm.me {Q Q' : QV → Prop} (h : Mm S v T M n Q w o) (hg : meG M B l0 w w') (hk : Km S w w') (hq : Q' w') : Mm S v T M n Q' w' o := by
  obtain ⟨⟨h1, h2⟩, ⟨p1, p2, p3⟩, h4⟩ := h
  have e : ∀ j, j ≠ 44 → w' M j = w M j := fun j hj => hg _ _ (fun _ => hj) (by omega) (by omega) (by omega)
  refine ⟨⟨h1, ?_⟩, ⟨p1.keep hk.p, by rw [e 31 (by decide)]; exact p2, fun j => ⟨by rw [hg _ _ (by omega) (by omega) (by omega) (by omega)]; exact (p3 j).1, by rw [hg _ _ (by omega) (by omega) (by omega) (by omega)]; exact (p3 j).2⟩⟩, hq⟩
  by_cases c : o.1 = 0
  · rw [if_pos c] at h2 ⊢
    exact ⟨h2.1.q (fun j j0 j1 => e j (by omega)), by rw [e 37 (by decide)]; exact h2.2.1, by rw [e 38 (by decide)]; exact h2.2.2⟩
  · rw [if_neg c] at h2 ⊢
    rw [e 37 (by decide), e 38 (by decide)]
    exact h2
theorem MQf.me (h : MQf u0 M B l0 st c l un op w) (hg : meG M B l0 w w') (hm : MRp w' M B st' c' l') : MQf u0 M B l0 st' c' l' un op w' := ⟨fun a k q1 q2 q3 q4 => (hg a k (fun e => (q1 e).2.1) q2 (fun e => q3 (Or.inr e)) q4).trans (h.1 a k q1 q2 q3 q4), hm, by rw [hg _ _ (by omega) (by omega) (by omega) (by omega)]; exact h.2.2.1, by rw [hg _ _ (by omega) (by omega) (by omega) (by omega)]; exact h.2.2.2⟩
theorem NR.mfr (h : NR u u0 T x M) (hf : mfr M B l0 u0 w) : NR u w T x M := by
  obtain ⟨⟨h1, h2, h3⟩, h4⟩ := h
  refine ⟨⟨by rw [hf _ _ (by omega) (by omega) (by omega) (by omega)]; exact h1, h2, h3⟩, fun j j0 j1 => ?_⟩
  obtain ⟨g1, ⟨g2, g3⟩, g4, g5⟩ := h4 j j0 j1
  exact ⟨g1, ⟨by rw [hf _ _ (by omega) (by omega) (by omega) (by omega)]; exact g2, by rw [hf _ _ (by omega) (by omega) (by omega) (by omega)]; exact g3⟩, g4, by rw [hf _ _ (by omega) (by omega) (by omega) (by omega)]; exact g5⟩
theorem fRl_4 : ∀ (st : List Int), fRl 4 st c l = (st, c, l)
  | [] => rfl
  | s :: st => by
    have : ¬ (4 : Int) ≤ rkS s := by
      unfold rkS
      split
      · decide
      · split
        · decide
        · split <;> decide
    simp only [fRl]
    rw [if_neg this]
theorem m_readUnit (hc : CX v M T n) (hB : B = 0 ∨ B = 1) (h : Mm S v T M n (MQf u0 M B l0 st c l un op) w (0, i)) (hu : ∀ q k, T ≤ q → q ≤ T + 4 → u q k = v q k) (hR : NR u u0 T x M) (hβ : ∀ r, kdT v T i = 4 → isBe u T x i r → r = β i) (hv : fV st c l op un 0 l0 nm ns) (hb : bOk v T β nm ns) : wM mX12_readUnit [M, B] S w (fun r w' => (fUn v T β op un i = 0 ∧ (kdT v T i = 40 → r = 1 ∧ Mm S v T M n (MQf u0 M B l0 (40 :: st) c l (un + 1) (op + 1)) w' (0, i + 1)) ∧ (¬ kdT v T i = 40 → r = 0 ∧ Mm S v T M n (MQf u0 M B l0 st (fu c l (cdU v T β i)) (l + 1) (un + 1) op) w' (0, i + 1))) ∨ (¬ fUn v T β op un i = 0 ∧ r = 0 ∧ Mm S v T M n (MQf u0 M B l0 st c l un op) w' (fUn v T β op un i, i))) := by
  have hM := h.2.1.1
  have hi := h.1.1
  dsimp only at hi
  have hu5 : nTk u T = nTk v T := nt_q hu
  have hsy := h.1.2
  rw [if_pos rfl] at hsy
  dsimp only at hsy
  have h37 := hsy.2.1
  have h33 := hsy.1.1.1
  have h32 := hsy.1.1.2
  obtain ⟨y1, y2, y3⟩ := hsy.1.nu
  have hat := m_isAtO hc h.2.1 h.1 (s := 40) (by unfold isSg; omega)
  have hnm := m_isNameO h.2.1 h.1
  simp only [true_and] at hat hnm
  have oB : 0 ≤ B ∧ B < 2 := by omega
  have hun := h.2.2.2.2.1
  have hop := h.2.2.2.2.2
  have hmr := h.2.2.2.1
  obtain ⟨v1, v2, ⟨v3, v4⟩, v5, v6, v7, v8⟩ := id hv
  have hcn := cO_n st
  have hcl := cP_len st
  have hcp := cP_n st
  have hfl : ∀ f, 0 < f → wM mX12_fail [M, f] S w (fun _ w' => 0 < w' M 37 ∧ S.1 M = 13 ∧ Mm S v T M n (MQf u0 M B l0 st c l un op) w' (f, i)) := fun f hf => by
    refine wM_mono (h.fl MQf.qz hf) ?_
    rintro r w' e hm
    rw [if_pos rfl] at hm
    exact ⟨hm.dead (by dsimp only; omega), hM.k, hm⟩
  have hnh : ∀ w2, Pw S v w2 M n → mfr M B l0 u0 w2 → w2 M 33 = stT v T i → w2 M 32 = spT v T i → kdT v T i = 4 → mX12_nameHere [M] S w2 = some (if β i = -1 then -1 else cvB (β i), w2) := fun w2 q1 q2 q3 q4 q5 => by
    obtain ⟨r, w1, e, rfl, b, hbe, rfl⟩ := m_nameHere q1 hc hu hu5 (hR.mfr q2) hi q3 q4
    rw [← hβ b q5 hbe]
    exact e
  -- one more unit
  have n6 : ∀ k, vu w (M + 6) B (un + 1) M k = w M k := fun k => vu_ne (by omega)
  have h1 : Mm S v T M n (MQf u0 M B l0 st c l (un + 1) op) (vu w (M + 6) B (un + 1)) (0, i) := h.put (by omega) (by rw [hM.a6]; rfl) (fun w' q => by
    obtain ⟨q1, ⟨r1, r2, r3, r4⟩, q3, q4⟩ := q
    refine ⟨fun a k p1 p2 p3 p4 => ?_, ⟨by rw [vu_ne (by omega)]; exact r1, fun k hk => by rw [vu_ne (by omega)]; exact r2 k hk, by rw [vu_ne (by omega)]; exact r3, fun k k0 k1 => by rw [vu_ne (by omega)]; exact r4 k k0 k1⟩, vu_is, by rw [vu_ne (by omega)]; exact q4⟩
    rw [vu_ne (fun e => p3 (Or.inl e.1) e.2)]
    exact q1 a k p1 p2 p3 p4)
  have eun : un < 30 → w32 (un + 1) = un + 1 := fun hq => w32_e (by omega)
  -- a code laid, the next token
  have hgo : un < 30 → ∀ z, kdT v T i ≠ 1 → wM mX12_lay [M, B, z] S (vu w (M + 6) B (un + 1)) (fun _ w2 => S.1 M = 13 ∧ wM mX12_scan [M] S w2 (fun _ w' => Mm S v T M n (MQf u0 M B l0 st (fu c l z) (l + 1) (un + 1) op) w' (0, i + 1))) := fun hq z hk => by
    have hM1 := h1.2.1.1
    have hly := m_lay (z := z) hM1 hB h1.2.2.2.1.2.2.1 ⟨by omega, by omega⟩
    rw [wM_of hly]
    have hmr1 := h1.2.2.2.1.lay (z := z) (show 0 ≤ l by omega)
    have g2 : meG M B l0 (vu w (M + 6) B (un + 1)) (vu (vu (vu w (M + 6) B (un + 1)) (M + 24) (100 * B + l) z) (M + 7) B (l + 1)) := fun a k q1 q2 q3 q4 => by
      rw [vu_ne (fun e => q3 e.1 e.2), vu_ne (fun e => by have := q4 e.1; omega)]
    have hm2 := h1.me g2 ((Km.rf.vu (by rw [hM.a24]; rfl)).vu (by rw [hM.a7]; rfl)) (h1.2.2.me g2 hmr1)
    exact ⟨hM.k, hm2.sc hc MQf.qz hk⟩
  by_cases k3 : kdT v T i = 3
  · have h34 := y1.mpr k3
    obtain ⟨hnu, hd0⟩ := y2 h34
    have k40 : ¬ kdT v T i = 40 := by omega
    have k4 : ¬ kdT v T i = 4 := by omega
    rw [if_neg k40] at hat
    rw [if_neg k4] at hnm
    have hcd : cdU v T β i = nmT v T i := by unfold cdU; rw [if_pos k3]
    have h35 : 9999 < w M 35 ↔ 9999 < nmT v T i := by
      unfold nmT
      obtain ⟨z1, z2⟩ := hnu
      by_cases q : dvT v T i ≤ 999999
      · rw [if_pos q, z1 q]
      · rw [if_neg q]
        have := z2 (by omega)
        omega
    by_cases g : 9999 < nmT v T i
    · have hf : fUn v T β op un i = 2 := by unfold fUn; rw [if_neg (by omega), if_pos ⟨k3, g⟩]
      rw [hf]
      have g' := h35.mpr g
      simp only [mX12_readUnit, sX12_readUnit, wE_I, wE_V, wE_F, wE_A, wE_N, wE_1, wE_2, wE_D, wE_B, wE_If, wE_C, wE_CV, wE_SL, wE_SA, wA_0, wA_1, wC_B, wC_E, wC_And, wC_Or, wC_Not, wS_Skip, wS_Brk, wS_Cnt, wS_RetV, wS_Ret, wS_Seq, wS_Set, wS_Inc, wS_Do, wS_Put, wS_PutC, wS_Arr, wS_ArrC, wS_If, wS_Sw, wS_F0, wS_F1, wM_q, lu_ap, aL_ap, ct_0, ct_1, ct_2, ct_3, ct_4, ct_5, headD_1, List.mem_cons, List.not_mem_nil, or_false, false_or, or_true, true_or, true_and, and_true, false_and, and_false, not_true_eq_false, not_false_eq_true, if_true, if_false, nr_20, nr_24, nr_40, nr_41, nr_44, pt_lt, pt_ge, pt_eq, pt_ne, pt_gt, pt_le, pt_E, pt_N, pt_F, ite_10, ite_11, ne_eq, and_self, or_self, decide_true, decide_false, Bool.not_true, Bool.not_false, Bool.false_eq_true, Nat.reduceEqDiff, Nat.reduceAdd, Int.reduceEq, Int.reduceLT, Int.reduceLE, Int.reduceNeg, Int.reduceAdd, Int.reduceSub, Int.reduceMul, reduceCtorEq, iA, iS, iM, iD, iR, iN, lA, lS, lM, lD, lR, hM.k, wM_of hat, wM_of hnm, h34, g']
      refine wM_mono (hfl 2 (by decide)) ?_
      rintro r w' e ⟨q1, q2, q3⟩
      simp only [wE_I, wE_V, wE_F, wE_A, wE_N, wE_1, wE_2, wE_D, wE_B, wE_If, wE_C, wE_CV, wE_SL, wE_SA, wA_0, wA_1, wC_B, wC_E, wC_And, wC_Or, wC_Not, wS_Skip, wS_Brk, wS_Cnt, wS_RetV, wS_Ret, wS_Seq, wS_Set, wS_Inc, wS_Do, wS_Put, wS_PutC, wS_Arr, wS_ArrC, wS_If, wS_Sw, wS_F0, wS_F1, wM_q, lu_ap, aL_ap, ct_0, ct_1, ct_2, ct_3, ct_4, ct_5, headD_1, List.mem_cons, List.not_mem_nil, or_false, false_or, or_true, true_or, true_and, and_true, false_and, and_false, not_true_eq_false, not_false_eq_true, if_true, if_false, nr_20, nr_24, nr_40, nr_41, nr_44, pt_lt, pt_ge, pt_eq, pt_ne, pt_gt, pt_le, pt_E, pt_N, pt_F, ite_10, ite_11, ne_eq, and_self, or_self, decide_true, decide_false, Bool.not_true, Bool.not_false, Bool.false_eq_true, Nat.reduceEqDiff, Nat.reduceAdd, Int.reduceEq, Int.reduceLT, Int.reduceLE, Int.reduceNeg, Int.reduceAdd, Int.reduceSub, Int.reduceMul, reduceCtorEq, q1, q2]
      exact q3
    · have g' : ¬ 9999 < w M 35 := fun z => g (h35.mp z)
      have hval : w M 35 = nmT v T i := by
        unfold nmT at g ⊢
        by_cases q : dvT v T i ≤ 999999
        · rw [if_pos q]; exact hnu.1 q
        · rw [if_neg q] at g; omega
      have g2 : ¬ 9999 < nmT v T i := g
      by_cases q : 30 ≤ un ∨ 4 < op
      · have hf : fUn v T β op un i = 4 := by unfold fUn; rw [if_neg (by omega), if_neg (fun z => g z.2), if_neg (by omega), if_pos q]
        rw [hf]
        by_cases q1 : un = 30
        · rw [q1] at hun
          simp only [mX12_readUnit, sX12_readUnit, wE_I, wE_V, wE_F, wE_A, wE_N, wE_1, wE_2, wE_D, wE_B, wE_If, wE_C, wE_CV, wE_SL, wE_SA, wA_0, wA_1, wC_B, wC_E, wC_And, wC_Or, wC_Not, wS_Skip, wS_Brk, wS_Cnt, wS_RetV, wS_Ret, wS_Seq, wS_Set, wS_Inc, wS_Do, wS_Put, wS_PutC, wS_Arr, wS_ArrC, wS_If, wS_Sw, wS_F0, wS_F1, wM_q, lu_ap, aL_ap, ct_0, ct_1, ct_2, ct_3, ct_4, ct_5, headD_1, List.mem_cons, List.not_mem_nil, or_false, false_or, or_true, true_or, true_and, and_true, false_and, and_false, not_true_eq_false, not_false_eq_true, if_true, if_false, nr_20, nr_24, nr_40, nr_41, nr_44, pt_lt, pt_ge, pt_eq, pt_ne, pt_gt, pt_le, pt_E, pt_N, pt_F, ite_10, ite_11, ne_eq, and_self, or_self, decide_true, decide_false, Bool.not_true, Bool.not_false, Bool.false_eq_true, Nat.reduceEqDiff, Nat.reduceAdd, Int.reduceEq, Int.reduceLT, Int.reduceLE, Int.reduceNeg, Int.reduceAdd, Int.reduceSub, Int.reduceMul, reduceCtorEq, iA, iS, iM, iD, iR, iN, lA, lS, lM, lD, lR, hM.k, wM_of hat, wM_of hnm, h34, g', hM.p5, hM.a6, hM.n6, oB, hun]
          refine wM_mono (hfl 4 (by decide)) ?_
          rintro r w' e ⟨q1, q2, q3⟩
          simp only [wE_I, wE_V, wE_F, wE_A, wE_N, wE_1, wE_2, wE_D, wE_B, wE_If, wE_C, wE_CV, wE_SL, wE_SA, wA_0, wA_1, wC_B, wC_E, wC_And, wC_Or, wC_Not, wS_Skip, wS_Brk, wS_Cnt, wS_RetV, wS_Ret, wS_Seq, wS_Set, wS_Inc, wS_Do, wS_Put, wS_PutC, wS_Arr, wS_ArrC, wS_If, wS_Sw, wS_F0, wS_F1, wM_q, lu_ap, aL_ap, ct_0, ct_1, ct_2, ct_3, ct_4, ct_5, headD_1, List.mem_cons, List.not_mem_nil, or_false, false_or, or_true, true_or, true_and, and_true, false_and, and_false, not_true_eq_false, not_false_eq_true, if_true, if_false, nr_20, nr_24, nr_40, nr_41, nr_44, pt_lt, pt_ge, pt_eq, pt_ne, pt_gt, pt_le, pt_E, pt_N, pt_F, ite_10, ite_11, ne_eq, and_self, or_self, decide_true, decide_false, Bool.not_true, Bool.not_false, Bool.false_eq_true, Nat.reduceEqDiff, Nat.reduceAdd, Int.reduceEq, Int.reduceLT, Int.reduceLE, Int.reduceNeg, Int.reduceAdd, Int.reduceSub, Int.reduceMul, reduceCtorEq, q1, q2]
          exact q3
        · have q2 : 4 < op := by omega
          simp only [mX12_readUnit, sX12_readUnit, wE_I, wE_V, wE_F, wE_A, wE_N, wE_1, wE_2, wE_D, wE_B, wE_If, wE_C, wE_CV, wE_SL, wE_SA, wA_0, wA_1, wC_B, wC_E, wC_And, wC_Or, wC_Not, wS_Skip, wS_Brk, wS_Cnt, wS_RetV, wS_Ret, wS_Seq, wS_Set, wS_Inc, wS_Do, wS_Put, wS_PutC, wS_Arr, wS_ArrC, wS_If, wS_Sw, wS_F0, wS_F1, wM_q, lu_ap, aL_ap, ct_0, ct_1, ct_2, ct_3, ct_4, ct_5, headD_1, List.mem_cons, List.not_mem_nil, or_false, false_or, or_true, true_or, true_and, and_true, false_and, and_false, not_true_eq_false, not_false_eq_true, if_true, if_false, nr_20, nr_24, nr_40, nr_41, nr_44, pt_lt, pt_ge, pt_eq, pt_ne, pt_gt, pt_le, pt_E, pt_N, pt_F, ite_10, ite_11, ne_eq, and_self, or_self, decide_true, decide_false, Bool.not_true, Bool.not_false, Bool.false_eq_true, Nat.reduceEqDiff, Nat.reduceAdd, Int.reduceEq, Int.reduceLT, Int.reduceLE, Int.reduceNeg, Int.reduceAdd, Int.reduceSub, Int.reduceMul, reduceCtorEq, iA, iS, iM, iD, iR, iN, lA, lS, lM, lD, lR, hM.k, wM_of hat, wM_of hnm, h34, g', hM.p5, hM.a6, hM.n6, oB, hun, q1, hop, q2]
          refine wM_mono (hfl 4 (by decide)) ?_
          rintro r w' e ⟨q1, q2, q3⟩
          simp only [wE_I, wE_V, wE_F, wE_A, wE_N, wE_1, wE_2, wE_D, wE_B, wE_If, wE_C, wE_CV, wE_SL, wE_SA, wA_0, wA_1, wC_B, wC_E, wC_And, wC_Or, wC_Not, wS_Skip, wS_Brk, wS_Cnt, wS_RetV, wS_Ret, wS_Seq, wS_Set, wS_Inc, wS_Do, wS_Put, wS_PutC, wS_Arr, wS_ArrC, wS_If, wS_Sw, wS_F0, wS_F1, wM_q, lu_ap, aL_ap, ct_0, ct_1, ct_2, ct_3, ct_4, ct_5, headD_1, List.mem_cons, List.not_mem_nil, or_false, false_or, or_true, true_or, true_and, and_true, false_and, and_false, not_true_eq_false, not_false_eq_true, if_true, if_false, nr_20, nr_24, nr_40, nr_41, nr_44, pt_lt, pt_ge, pt_eq, pt_ne, pt_gt, pt_le, pt_E, pt_N, pt_F, ite_10, ite_11, ne_eq, and_self, or_self, decide_true, decide_false, Bool.not_true, Bool.not_false, Bool.false_eq_true, Nat.reduceEqDiff, Nat.reduceAdd, Int.reduceEq, Int.reduceLT, Int.reduceLE, Int.reduceNeg, Int.reduceAdd, Int.reduceSub, Int.reduceMul, reduceCtorEq, q1, q2]
          exact q3
      · have hf : fUn v T β op un i = 0 := by unfold fUn; rw [if_neg (by omega), if_neg (fun z => g z.2), if_neg (by omega), if_neg q]
        rw [hf, hcd]
        have q1 : ¬ un = 30 := fun z => q (Or.inl (by omega))
        have q2 : ¬ 4 < op := fun z => q (Or.inr z)
        have hg1 := hgo (by omega) (nmT v T i) (by omega)
        have e1 := eun (by omega)
        have n0 : ¬ (0 : Int) < 0 := by decide
        simp only [mX12_readUnit, sX12_readUnit, wE_I, wE_V, wE_F, wE_A, wE_N, wE_1, wE_2, wE_D, wE_B, wE_If, wE_C, wE_CV, wE_SL, wE_SA, wA_0, wA_1, wC_B, wC_E, wC_And, wC_Or, wC_Not, wS_Skip, wS_Brk, wS_Cnt, wS_RetV, wS_Ret, wS_Seq, wS_Set, wS_Inc, wS_Do, wS_Put, wS_PutC, wS_Arr, wS_ArrC, wS_If, wS_Sw, wS_F0, wS_F1, wM_q, lu_ap, aL_ap, ct_0, ct_1, ct_2, ct_3, ct_4, ct_5, headD_1, List.mem_cons, List.not_mem_nil, or_false, false_or, or_true, true_or, true_and, and_true, false_and, and_false, not_true_eq_false, not_false_eq_true, if_true, if_false, nr_20, nr_24, nr_40, nr_41, nr_44, pt_lt, pt_ge, pt_eq, pt_ne, pt_gt, pt_le, pt_E, pt_N, pt_F, ite_10, ite_11, ne_eq, and_self, or_self, decide_true, decide_false, Bool.not_true, Bool.not_false, Bool.false_eq_true, Nat.reduceEqDiff, Nat.reduceAdd, Int.reduceEq, Int.reduceLT, Int.reduceLE, Int.reduceNeg, Int.reduceAdd, Int.reduceSub, Int.reduceMul, reduceCtorEq, iA, iS, iM, iD, iR, iN, lA, lS, lM, lD, lR, hM.k, wM_of hat, wM_of hnm, h34, g', hM.p5, hM.a6, hM.n6, oB, hun, q1, hop, q2, h37, n0, e1, n6, hval, g2]
        clear e1
        refine wM_mono hg1 ?_
        rintro r w2 e ⟨z1, z2⟩
        refine wM_mono z2 ?_
        rintro r w3 e z3
        exact ⟨fun z => absurd z (by omega), fun _ => z3⟩
  · have h34 : ¬ w M 34 = 3 := fun z => k3 (y1.mp z)
    by_cases k4 : kdT v T i = 4
    · have k40 : ¬ kdT v T i = 40 := by omega
      rw [if_neg k40] at hat
      rw [if_pos k4] at hnm
      have hnn := hnh w h.2.1 h.2.2.1 h33 h32 k4
      have hbb := hb.2.2.1 i hi.1 hi.2 k4
      have hn4 := hb.1
      have hs4 := hb.2.1
      by_cases g : β i = -1
      · have hf : fUn v T β op un i = 3 := by unfold fUn; rw [if_neg (by omega), if_neg (by omega), if_pos ⟨k4, g⟩]
        rw [hf]
        rw [if_pos g] at hnn
        simp only [mX12_readUnit, sX12_readUnit, wE_I, wE_V, wE_F, wE_A, wE_N, wE_1, wE_2, wE_D, wE_B, wE_If, wE_C, wE_CV, wE_SL, wE_SA, wA_0, wA_1, wC_B, wC_E, wC_And, wC_Or, wC_Not, wS_Skip, wS_Brk, wS_Cnt, wS_RetV, wS_Ret, wS_Seq, wS_Set, wS_Inc, wS_Do, wS_Put, wS_PutC, wS_Arr, wS_ArrC, wS_If, wS_Sw, wS_F0, wS_F1, wM_q, lu_ap, aL_ap, ct_0, ct_1, ct_2, ct_3, ct_4, ct_5, headD_1, List.mem_cons, List.not_mem_nil, or_false, false_or, or_true, true_or, true_and, and_true, false_and, and_false, not_true_eq_false, not_false_eq_true, if_true, if_false, nr_20, nr_24, nr_40, nr_41, nr_44, pt_lt, pt_ge, pt_eq, pt_ne, pt_gt, pt_le, pt_E, pt_N, pt_F, ite_10, ite_11, ne_eq, and_self, or_self, decide_true, decide_false, Bool.not_true, Bool.not_false, Bool.false_eq_true, Nat.reduceEqDiff, Nat.reduceAdd, Int.reduceEq, Int.reduceLT, Int.reduceLE, Int.reduceNeg, Int.reduceAdd, Int.reduceSub, Int.reduceMul, reduceCtorEq, iA, iS, iM, iD, iR, iN, lA, lS, lM, lD, lR, hM.k, wM_of hat, wM_of hnm, h34, wM_of hnn]
        refine wM_mono (hfl 3 (by decide)) ?_
        rintro r w' e ⟨q1, q2, q3⟩
        simp only [wE_I, wE_V, wE_F, wE_A, wE_N, wE_1, wE_2, wE_D, wE_B, wE_If, wE_C, wE_CV, wE_SL, wE_SA, wA_0, wA_1, wC_B, wC_E, wC_And, wC_Or, wC_Not, wS_Skip, wS_Brk, wS_Cnt, wS_RetV, wS_Ret, wS_Seq, wS_Set, wS_Inc, wS_Do, wS_Put, wS_PutC, wS_Arr, wS_ArrC, wS_If, wS_Sw, wS_F0, wS_F1, wM_q, lu_ap, aL_ap, ct_0, ct_1, ct_2, ct_3, ct_4, ct_5, headD_1, List.mem_cons, List.not_mem_nil, or_false, false_or, or_true, true_or, true_and, and_true, false_and, and_false, not_true_eq_false, not_false_eq_true, if_true, if_false, nr_20, nr_24, nr_40, nr_41, nr_44, pt_lt, pt_ge, pt_eq, pt_ne, pt_gt, pt_le, pt_E, pt_N, pt_F, ite_10, ite_11, ne_eq, and_self, or_self, decide_true, decide_false, Bool.not_true, Bool.not_false, Bool.false_eq_true, Nat.reduceEqDiff, Nat.reduceAdd, Int.reduceEq, Int.reduceLT, Int.reduceLE, Int.reduceNeg, Int.reduceAdd, Int.reduceSub, Int.reduceMul, reduceCtorEq, q1, q2]
        exact q3
      · rw [if_neg g] at hnn
        have hcv : ¬ cvB (β i) < 0 := by unfold cvB; split <;> omega
        by_cases q : 30 ≤ un ∨ 4 < op
        · have hf : fUn v T β op un i = 4 := by unfold fUn; rw [if_neg (by omega), if_neg (by omega), if_neg (fun z => g z.2), if_pos q]
          rw [hf]
          by_cases q1 : un = 30
          · rw [q1] at hun
            simp only [mX12_readUnit, sX12_readUnit, wE_I, wE_V, wE_F, wE_A, wE_N, wE_1, wE_2, wE_D, wE_B, wE_If, wE_C, wE_CV, wE_SL, wE_SA, wA_0, wA_1, wC_B, wC_E, wC_And, wC_Or, wC_Not, wS_Skip, wS_Brk, wS_Cnt, wS_RetV, wS_Ret, wS_Seq, wS_Set, wS_Inc, wS_Do, wS_Put, wS_PutC, wS_Arr, wS_ArrC, wS_If, wS_Sw, wS_F0, wS_F1, wM_q, lu_ap, aL_ap, ct_0, ct_1, ct_2, ct_3, ct_4, ct_5, headD_1, List.mem_cons, List.not_mem_nil, or_false, false_or, or_true, true_or, true_and, and_true, false_and, and_false, not_true_eq_false, not_false_eq_true, if_true, if_false, nr_20, nr_24, nr_40, nr_41, nr_44, pt_lt, pt_ge, pt_eq, pt_ne, pt_gt, pt_le, pt_E, pt_N, pt_F, ite_10, ite_11, ne_eq, and_self, or_self, decide_true, decide_false, Bool.not_true, Bool.not_false, Bool.false_eq_true, Nat.reduceEqDiff, Nat.reduceAdd, Int.reduceEq, Int.reduceLT, Int.reduceLE, Int.reduceNeg, Int.reduceAdd, Int.reduceSub, Int.reduceMul, reduceCtorEq, iA, iS, iM, iD, iR, iN, lA, lS, lM, lD, lR, hM.k, wM_of hat, wM_of hnm, h34, wM_of hnn, hcv, hM.p5, hM.a6, hM.n6, oB, hun]
            refine wM_mono (hfl 4 (by decide)) ?_
            rintro r w' e ⟨q1, q2, q3⟩
            simp only [wE_I, wE_V, wE_F, wE_A, wE_N, wE_1, wE_2, wE_D, wE_B, wE_If, wE_C, wE_CV, wE_SL, wE_SA, wA_0, wA_1, wC_B, wC_E, wC_And, wC_Or, wC_Not, wS_Skip, wS_Brk, wS_Cnt, wS_RetV, wS_Ret, wS_Seq, wS_Set, wS_Inc, wS_Do, wS_Put, wS_PutC, wS_Arr, wS_ArrC, wS_If, wS_Sw, wS_F0, wS_F1, wM_q, lu_ap, aL_ap, ct_0, ct_1, ct_2, ct_3, ct_4, ct_5, headD_1, List.mem_cons, List.not_mem_nil, or_false, false_or, or_true, true_or, true_and, and_true, false_and, and_false, not_true_eq_false, not_false_eq_true, if_true, if_false, nr_20, nr_24, nr_40, nr_41, nr_44, pt_lt, pt_ge, pt_eq, pt_ne, pt_gt, pt_le, pt_E, pt_N, pt_F, ite_10, ite_11, ne_eq, and_self, or_self, decide_true, decide_false, Bool.not_true, Bool.not_false, Bool.false_eq_true, Nat.reduceEqDiff, Nat.reduceAdd, Int.reduceEq, Int.reduceLT, Int.reduceLE, Int.reduceNeg, Int.reduceAdd, Int.reduceSub, Int.reduceMul, reduceCtorEq, q1, q2]
            exact q3
          · have q2 : 4 < op := by omega
            simp only [mX12_readUnit, sX12_readUnit, wE_I, wE_V, wE_F, wE_A, wE_N, wE_1, wE_2, wE_D, wE_B, wE_If, wE_C, wE_CV, wE_SL, wE_SA, wA_0, wA_1, wC_B, wC_E, wC_And, wC_Or, wC_Not, wS_Skip, wS_Brk, wS_Cnt, wS_RetV, wS_Ret, wS_Seq, wS_Set, wS_Inc, wS_Do, wS_Put, wS_PutC, wS_Arr, wS_ArrC, wS_If, wS_Sw, wS_F0, wS_F1, wM_q, lu_ap, aL_ap, ct_0, ct_1, ct_2, ct_3, ct_4, ct_5, headD_1, List.mem_cons, List.not_mem_nil, or_false, false_or, or_true, true_or, true_and, and_true, false_and, and_false, not_true_eq_false, not_false_eq_true, if_true, if_false, nr_20, nr_24, nr_40, nr_41, nr_44, pt_lt, pt_ge, pt_eq, pt_ne, pt_gt, pt_le, pt_E, pt_N, pt_F, ite_10, ite_11, ne_eq, and_self, or_self, decide_true, decide_false, Bool.not_true, Bool.not_false, Bool.false_eq_true, Nat.reduceEqDiff, Nat.reduceAdd, Int.reduceEq, Int.reduceLT, Int.reduceLE, Int.reduceNeg, Int.reduceAdd, Int.reduceSub, Int.reduceMul, reduceCtorEq, iA, iS, iM, iD, iR, iN, lA, lS, lM, lD, lR, hM.k, wM_of hat, wM_of hnm, h34, wM_of hnn, hcv, hM.p5, hM.a6, hM.n6, oB, hun, q1, hop, q2]
            refine wM_mono (hfl 4 (by decide)) ?_
            rintro r w' e ⟨q1, q2, q3⟩
            simp only [wE_I, wE_V, wE_F, wE_A, wE_N, wE_1, wE_2, wE_D, wE_B, wE_If, wE_C, wE_CV, wE_SL, wE_SA, wA_0, wA_1, wC_B, wC_E, wC_And, wC_Or, wC_Not, wS_Skip, wS_Brk, wS_Cnt, wS_RetV, wS_Ret, wS_Seq, wS_Set, wS_Inc, wS_Do, wS_Put, wS_PutC, wS_Arr, wS_ArrC, wS_If, wS_Sw, wS_F0, wS_F1, wM_q, lu_ap, aL_ap, ct_0, ct_1, ct_2, ct_3, ct_4, ct_5, headD_1, List.mem_cons, List.not_mem_nil, or_false, false_or, or_true, true_or, true_and, and_true, false_and, and_false, not_true_eq_false, not_false_eq_true, if_true, if_false, nr_20, nr_24, nr_40, nr_41, nr_44, pt_lt, pt_ge, pt_eq, pt_ne, pt_gt, pt_le, pt_E, pt_N, pt_F, ite_10, ite_11, ne_eq, and_self, or_self, decide_true, decide_false, Bool.not_true, Bool.not_false, Bool.false_eq_true, Nat.reduceEqDiff, Nat.reduceAdd, Int.reduceEq, Int.reduceLT, Int.reduceLE, Int.reduceNeg, Int.reduceAdd, Int.reduceSub, Int.reduceMul, reduceCtorEq, q1, q2]
            exact q3
        · have hf : fUn v T β op un i = 0 := by unfold fUn; rw [if_neg (by omega), if_neg (by omega), if_neg (fun z => g z.2), if_neg q]
          rw [hf]
          have q1 : ¬ un = 30 := fun z => q (Or.inl (by omega))
          have q2 : ¬ 4 < op := fun z => q (Or.inr z)
          have hn1 := hnh _ h1.2.1 h1.2.2.1 ((n6 _).trans h33) ((n6 _).trans h32) k4
          rw [if_neg g] at hn1
          have hg1 := hgo (by omega) (cdU v T β i) (by omega)
          have n0 : ¬ (0 : Int) < 0 := by decide
          by_cases b4 : β i < 4
          · have hcd : cdU v T β i = 10000 + β i := by unfold cdU; rw [if_neg k3, if_pos b4]
            have hcv2 : cvB (β i) = β i := by unfold cvB; rw [if_pos b4]
            rw [hcv2] at hnn hn1
            have hlt : β i < 10 := by omega
            have hnl : ¬ β i < 0 := by omega
            have e1 := eun (by omega)
            have e2 : w32 (10000 + β i) = cdU v T β i := by clear e1; rw [hcd]; exact w32_e (by omega)
            simp only [mX12_readUnit, sX12_readUnit, wE_I, wE_V, wE_F, wE_A, wE_N, wE_1, wE_2, wE_D, wE_B, wE_If, wE_C, wE_CV, wE_SL, wE_SA, wA_0, wA_1, wC_B, wC_E, wC_And, wC_Or, wC_Not, wS_Skip, wS_Brk, wS_Cnt, wS_RetV, wS_Ret, wS_Seq, wS_Set, wS_Inc, wS_Do, wS_Put, wS_PutC, wS_Arr, wS_ArrC, wS_If, wS_Sw, wS_F0, wS_F1, wM_q, lu_ap, aL_ap, ct_0, ct_1, ct_2, ct_3, ct_4, ct_5, headD_1, List.mem_cons, List.not_mem_nil, or_false, false_or, or_true, true_or, true_and, and_true, false_and, and_false, not_true_eq_false, not_false_eq_true, if_true, if_false, nr_20, nr_24, nr_40, nr_41, nr_44, pt_lt, pt_ge, pt_eq, pt_ne, pt_gt, pt_le, pt_E, pt_N, pt_F, ite_10, ite_11, ne_eq, and_self, or_self, decide_true, decide_false, Bool.not_true, Bool.not_false, Bool.false_eq_true, Nat.reduceEqDiff, Nat.reduceAdd, Int.reduceEq, Int.reduceLT, Int.reduceLE, Int.reduceNeg, Int.reduceAdd, Int.reduceSub, Int.reduceMul, reduceCtorEq, iA, iS, iM, iD, iR, iN, lA, lS, lM, lD, lR, hM.k, wM_of hat, wM_of hnm, h34, wM_of hnn, hnl, hM.p5, hM.a6, hM.n6, oB, hun, q1, hop, q2, h37, n0, e1, n6, wM_of hn1, hlt, e2]
            clear e1 e2
            refine wM_mono hg1 ?_
            rintro r w2 e ⟨z1, z2⟩
            refine wM_mono z2 ?_
            rintro r w3 e z3
            exact ⟨fun z => absurd z k40, fun _ => z3⟩
          · have hcd : cdU v T β i = 10010 + (β i - 4) := by unfold cdU; rw [if_neg k3, if_neg b4]
            have hcv2 : cvB (β i) = β i + 6 := by unfold cvB; rw [if_neg b4]
            rw [hcv2] at hnn hn1
            have hlt : ¬ β i + 6 < 10 := by omega
            have hnl : ¬ β i + 6 < 0 := by omega
            have e1 := eun (by omega)
            have e2 : w32 (10010 + (β i + 6)) = 10010 + (β i + 6) := by clear e1; exact w32_e (by omega)
            have e3 : w32 (10010 + (β i + 6) - 10) = cdU v T β i := by clear e1 e2; rw [hcd, w32_e (by omega)]; omega
            simp only [mX12_readUnit, sX12_readUnit, wE_I, wE_V, wE_F, wE_A, wE_N, wE_1, wE_2, wE_D, wE_B, wE_If, wE_C, wE_CV, wE_SL, wE_SA, wA_0, wA_1, wC_B, wC_E, wC_And, wC_Or, wC_Not, wS_Skip, wS_Brk, wS_Cnt, wS_RetV, wS_Ret, wS_Seq, wS_Set, wS_Inc, wS_Do, wS_Put, wS_PutC, wS_Arr, wS_ArrC, wS_If, wS_Sw, wS_F0, wS_F1, wM_q, lu_ap, aL_ap, ct_0, ct_1, ct_2, ct_3, ct_4, ct_5, headD_1, List.mem_cons, List.not_mem_nil, or_false, false_or, or_true, true_or, true_and, and_true, false_and, and_false, not_true_eq_false, not_false_eq_true, if_true, if_false, nr_20, nr_24, nr_40, nr_41, nr_44, pt_lt, pt_ge, pt_eq, pt_ne, pt_gt, pt_le, pt_E, pt_N, pt_F, ite_10, ite_11, ne_eq, and_self, or_self, decide_true, decide_false, Bool.not_true, Bool.not_false, Bool.false_eq_true, Nat.reduceEqDiff, Nat.reduceAdd, Int.reduceEq, Int.reduceLT, Int.reduceLE, Int.reduceNeg, Int.reduceAdd, Int.reduceSub, Int.reduceMul, reduceCtorEq, iA, iS, iM, iD, iR, iN, lA, lS, lM, lD, lR, hM.k, wM_of hat, wM_of hnm, h34, wM_of hnn, hnl, hM.p5, hM.a6, hM.n6, oB, hun, q1, hop, q2, h37, n0, e1, n6, wM_of hn1, hlt, e2, e3]
            clear e1 e2 e3
            refine wM_mono hg1 ?_
            rintro r w2 e ⟨z1, z2⟩
            refine wM_mono z2 ?_
            rintro r w3 e z3
            exact ⟨fun z => absurd z k40, fun _ => z3⟩
    · rw [if_neg k4] at hnm
      by_cases k40 : kdT v T i = 40
      · rw [if_pos k40] at hat
        by_cases q : 30 ≤ un ∨ 4 < op
        · have hf : fUn v T β op un i = 4 := by unfold fUn; rw [if_neg (by omega), if_neg (by omega), if_neg (by omega), if_pos q]
          rw [hf]
          by_cases q1 : un = 30
          · rw [q1] at hun
            simp only [mX12_readUnit, sX12_readUnit, wE_I, wE_V, wE_F, wE_A, wE_N, wE_1, wE_2, wE_D, wE_B, wE_If, wE_C, wE_CV, wE_SL, wE_SA, wA_0, wA_1, wC_B, wC_E, wC_And, wC_Or, wC_Not, wS_Skip, wS_Brk, wS_Cnt, wS_RetV, wS_Ret, wS_Seq, wS_Set, wS_Inc, wS_Do, wS_Put, wS_PutC, wS_Arr, wS_ArrC, wS_If, wS_Sw, wS_F0, wS_F1, wM_q, lu_ap, aL_ap, ct_0, ct_1, ct_2, ct_3, ct_4, ct_5, headD_1, List.mem_cons, List.not_mem_nil, or_false, false_or, or_true, true_or, true_and, and_true, false_and, and_false, not_true_eq_false, not_false_eq_true, if_true, if_false, nr_20, nr_24, nr_40, nr_41, nr_44, pt_lt, pt_ge, pt_eq, pt_ne, pt_gt, pt_le, pt_E, pt_N, pt_F, ite_10, ite_11, ne_eq, and_self, or_self, decide_true, decide_false, Bool.not_true, Bool.not_false, Bool.false_eq_true, Nat.reduceEqDiff, Nat.reduceAdd, Int.reduceEq, Int.reduceLT, Int.reduceLE, Int.reduceNeg, Int.reduceAdd, Int.reduceSub, Int.reduceMul, reduceCtorEq, iA, iS, iM, iD, iR, iN, lA, lS, lM, lD, lR, hM.k, wM_of hat, wM_of hnm, h34, hM.p5, hM.a6, hM.n6, oB, hun]
            refine wM_mono (hfl 4 (by decide)) ?_
            rintro r w' e ⟨q1, q2, q3⟩
            simp only [wE_I, wE_V, wE_F, wE_A, wE_N, wE_1, wE_2, wE_D, wE_B, wE_If, wE_C, wE_CV, wE_SL, wE_SA, wA_0, wA_1, wC_B, wC_E, wC_And, wC_Or, wC_Not, wS_Skip, wS_Brk, wS_Cnt, wS_RetV, wS_Ret, wS_Seq, wS_Set, wS_Inc, wS_Do, wS_Put, wS_PutC, wS_Arr, wS_ArrC, wS_If, wS_Sw, wS_F0, wS_F1, wM_q, lu_ap, aL_ap, ct_0, ct_1, ct_2, ct_3, ct_4, ct_5, headD_1, List.mem_cons, List.not_mem_nil, or_false, false_or, or_true, true_or, true_and, and_true, false_and, and_false, not_true_eq_false, not_false_eq_true, if_true, if_false, nr_20, nr_24, nr_40, nr_41, nr_44, pt_lt, pt_ge, pt_eq, pt_ne, pt_gt, pt_le, pt_E, pt_N, pt_F, ite_10, ite_11, ne_eq, and_self, or_self, decide_true, decide_false, Bool.not_true, Bool.not_false, Bool.false_eq_true, Nat.reduceEqDiff, Nat.reduceAdd, Int.reduceEq, Int.reduceLT, Int.reduceLE, Int.reduceNeg, Int.reduceAdd, Int.reduceSub, Int.reduceMul, reduceCtorEq, q1, q2]
            exact q3
          · have q2 : 4 < op := by omega
            simp only [mX12_readUnit, sX12_readUnit, wE_I, wE_V, wE_F, wE_A, wE_N, wE_1, wE_2, wE_D, wE_B, wE_If, wE_C, wE_CV, wE_SL, wE_SA, wA_0, wA_1, wC_B, wC_E, wC_And, wC_Or, wC_Not, wS_Skip, wS_Brk, wS_Cnt, wS_RetV, wS_Ret, wS_Seq, wS_Set, wS_Inc, wS_Do, wS_Put, wS_PutC, wS_Arr, wS_ArrC, wS_If, wS_Sw, wS_F0, wS_F1, wM_q, lu_ap, aL_ap, ct_0, ct_1, ct_2, ct_3, ct_4, ct_5, headD_1, List.mem_cons, List.not_mem_nil, or_false, false_or, or_true, true_or, true_and, and_true, false_and, and_false, not_true_eq_false, not_false_eq_true, if_true, if_false, nr_20, nr_24, nr_40, nr_41, nr_44, pt_lt, pt_ge, pt_eq, pt_ne, pt_gt, pt_le, pt_E, pt_N, pt_F, ite_10, ite_11, ne_eq, and_self, or_self, decide_true, decide_false, Bool.not_true, Bool.not_false, Bool.false_eq_true, Nat.reduceEqDiff, Nat.reduceAdd, Int.reduceEq, Int.reduceLT, Int.reduceLE, Int.reduceNeg, Int.reduceAdd, Int.reduceSub, Int.reduceMul, reduceCtorEq, iA, iS, iM, iD, iR, iN, lA, lS, lM, lD, lR, hM.k, wM_of hat, wM_of hnm, h34, hM.p5, hM.a6, hM.n6, oB, hun, q1, hop, q2]
            refine wM_mono (hfl 4 (by decide)) ?_
            rintro r w' e ⟨q1, q2, q3⟩
            simp only [wE_I, wE_V, wE_F, wE_A, wE_N, wE_1, wE_2, wE_D, wE_B, wE_If, wE_C, wE_CV, wE_SL, wE_SA, wA_0, wA_1, wC_B, wC_E, wC_And, wC_Or, wC_Not, wS_Skip, wS_Brk, wS_Cnt, wS_RetV, wS_Ret, wS_Seq, wS_Set, wS_Inc, wS_Do, wS_Put, wS_PutC, wS_Arr, wS_ArrC, wS_If, wS_Sw, wS_F0, wS_F1, wM_q, lu_ap, aL_ap, ct_0, ct_1, ct_2, ct_3, ct_4, ct_5, headD_1, List.mem_cons, List.not_mem_nil, or_false, false_or, or_true, true_or, true_and, and_true, false_and, and_false, not_true_eq_false, not_false_eq_true, if_true, if_false, nr_20, nr_24, nr_40, nr_41, nr_44, pt_lt, pt_ge, pt_eq, pt_ne, pt_gt, pt_le, pt_E, pt_N, pt_F, ite_10, ite_11, ne_eq, and_self, or_self, decide_true, decide_false, Bool.not_true, Bool.not_false, Bool.false_eq_true, Nat.reduceEqDiff, Nat.reduceAdd, Int.reduceEq, Int.reduceLT, Int.reduceLE, Int.reduceNeg, Int.reduceAdd, Int.reduceSub, Int.reduceMul, reduceCtorEq, q1, q2]
            exact q3
        · have hf : fUn v T β op un i = 0 := by unfold fUn; rw [if_neg (by omega), if_neg (by omega), if_neg (by omega), if_neg q]
          rw [hf]
          have q1 : ¬ un = 30 := fun z => q (Or.inl (by omega))
          have q2 : ¬ 4 < op := fun z => q (Or.inr z)
          have hpu := m_push (z := 40) (r := 4) (l0 := l0) h1.2.1.1 hB h1.2.2.2.1 v1 (Or.inr ⟨rfl, rfl⟩) ⟨by omega, by omega⟩ (by omega) (by omega)
          rw [fRl_4 st] at hpu
          dsimp only at hpu
          rw [show cvS 40 = 10025 from rfl] at hpu
          have n0 : ¬ (0 : Int) < 0 := by decide
          have e1 := eun (by omega)
          simp only [mX12_readUnit, sX12_readUnit, wE_I, wE_V, wE_F, wE_A, wE_N, wE_1, wE_2, wE_D, wE_B, wE_If, wE_C, wE_CV, wE_SL, wE_SA, wA_0, wA_1, wC_B, wC_E, wC_And, wC_Or, wC_Not, wS_Skip, wS_Brk, wS_Cnt, wS_RetV, wS_Ret, wS_Seq, wS_Set, wS_Inc, wS_Do, wS_Put, wS_PutC, wS_Arr, wS_ArrC, wS_If, wS_Sw, wS_F0, wS_F1, wM_q, lu_ap, aL_ap, ct_0, ct_1, ct_2, ct_3, ct_4, ct_5, headD_1, List.mem_cons, List.not_mem_nil, or_false, false_or, or_true, true_or, true_and, and_true, false_and, and_false, not_true_eq_false, not_false_eq_true, if_true, if_false, nr_20, nr_24, nr_40, nr_41, nr_44, pt_lt, pt_ge, pt_eq, pt_ne, pt_gt, pt_le, pt_E, pt_N, pt_F, ite_10, ite_11, ne_eq, and_self, or_self, decide_true, decide_false, Bool.not_true, Bool.not_false, Bool.false_eq_true, Nat.reduceEqDiff, Nat.reduceAdd, Int.reduceEq, Int.reduceLT, Int.reduceLE, Int.reduceNeg, Int.reduceAdd, Int.reduceSub, Int.reduceMul, reduceCtorEq, iA, iS, iM, iD, iR, iN, lA, lS, lM, lD, lR, hM.k, wM_of hat, wM_of hnm, h34, hM.p5, hM.a6, hM.n6, oB, hun, q1, hop, q2, h37, n0, e1, n6]
          clear e1
          refine wM_mono hpu ?_
          rintro r w2 e ⟨z1, z2, z3⟩
          have h2 := h1.me z2 z3 (h1.2.2.me z2 z1)
          have hop2 : w2 M 45 = op := h2.2.2.2.2.2
          have h3 := h2.p27 (Q' := MQf u0 M B l0 (40 :: st) c l (un + 1) (op + 1)) (k := 45) (z := op + 1) (by decide) (by decide) (fun w' q => by
            obtain ⟨q1, ⟨r1, r2, r3, r4⟩, q3, q4⟩ := q
            refine ⟨fun a k p1 p2 p3 p4 => ?_, ⟨by rw [vu_ne (by simp)]; exact r1, fun k hk => by rw [vu_ne (by omega)]; exact r2 k hk, by rw [vu_ne (by omega)]; exact r3, fun k k0 k1 => by rw [vu_ne (by omega)]; exact r4 k k0 k1⟩, by rw [vu_ne (by omega)]; exact q3, vu_is⟩
            rw [vu_ne (fun e => (p1 e.1).2.2 e.2)]
            exact q1 a k p1 p2 p3 p4)
          have e2 : w32 (op + 1) = op + 1 := w32_e (by omega)
          simp only [wE_I, wE_V, wE_F, wE_A, wE_N, wE_1, wE_2, wE_D, wE_B, wE_If, wE_C, wE_CV, wE_SL, wE_SA, wA_0, wA_1, wC_B, wC_E, wC_And, wC_Or, wC_Not, wS_Skip, wS_Brk, wS_Cnt, wS_RetV, wS_Ret, wS_Seq, wS_Set, wS_Inc, wS_Do, wS_Put, wS_PutC, wS_Arr, wS_ArrC, wS_If, wS_Sw, wS_F0, wS_F1, wM_q, lu_ap, aL_ap, ct_0, ct_1, ct_2, ct_3, ct_4, ct_5, headD_1, List.mem_cons, List.not_mem_nil, or_false, false_or, or_true, true_or, true_and, and_true, false_and, and_false, not_true_eq_false, not_false_eq_true, if_true, if_false, nr_20, nr_24, nr_40, nr_41, nr_44, pt_lt, pt_ge, pt_eq, pt_ne, pt_gt, pt_le, pt_E, pt_N, pt_F, ite_10, ite_11, ne_eq, and_self, or_self, decide_true, decide_false, Bool.not_true, Bool.not_false, Bool.false_eq_true, Nat.reduceEqDiff, Nat.reduceAdd, Int.reduceEq, Int.reduceLT, Int.reduceLE, Int.reduceNeg, Int.reduceAdd, Int.reduceSub, Int.reduceMul, reduceCtorEq, hM.k, hop2, e2]
          clear e2
          refine wM_mono (h3.sc hc MQf.qz (by omega)) ?_
          rintro r w3 e z4
          exact ⟨fun _ => z4, fun z => absurd k40 z⟩
      · rw [if_neg k40] at hat
        have hf : fUn v T β op un i = 1 := by unfold fUn; rw [if_pos ⟨k3, k4, k40⟩]
        rw [hf]
        simp only [mX12_readUnit, sX12_readUnit, wE_I, wE_V, wE_F, wE_A, wE_N, wE_1, wE_2, wE_D, wE_B, wE_If, wE_C, wE_CV, wE_SL, wE_SA, wA_0, wA_1, wC_B, wC_E, wC_And, wC_Or, wC_Not, wS_Skip, wS_Brk, wS_Cnt, wS_RetV, wS_Ret, wS_Seq, wS_Set, wS_Inc, wS_Do, wS_Put, wS_PutC, wS_Arr, wS_ArrC, wS_If, wS_Sw, wS_F0, wS_F1, wM_q, lu_ap, aL_ap, ct_0, ct_1, ct_2, ct_3, ct_4, ct_5, headD_1, List.mem_cons, List.not_mem_nil, or_false, false_or, or_true, true_or, true_and, and_true, false_and, and_false, not_true_eq_false, not_false_eq_true, if_true, if_false, nr_20, nr_24, nr_40, nr_41, nr_44, pt_lt, pt_ge, pt_eq, pt_ne, pt_gt, pt_le, pt_E, pt_N, pt_F, ite_10, ite_11, ne_eq, and_self, or_self, decide_true, decide_false, Bool.not_true, Bool.not_false, Bool.false_eq_true, Nat.reduceEqDiff, Nat.reduceAdd, Int.reduceEq, Int.reduceLT, Int.reduceLE, Int.reduceNeg, Int.reduceAdd, Int.reduceSub, Int.reduceMul, reduceCtorEq, iA, iS, iM, iD, iR, iN, lA, lS, lM, lD, lR, hM.k, wM_of hat, wM_of hnm, h34]
        refine wM_mono (hfl 1 (by decide)) ?_
        rintro r w' e ⟨q1, q2, q3⟩
        simp only [wE_I, wE_V, wE_F, wE_A, wE_N, wE_1, wE_2, wE_D, wE_B, wE_If, wE_C, wE_CV, wE_SL, wE_SA, wA_0, wA_1, wC_B, wC_E, wC_And, wC_Or, wC_Not, wS_Skip, wS_Brk, wS_Cnt, wS_RetV, wS_Ret, wS_Seq, wS_Set, wS_Inc, wS_Do, wS_Put, wS_PutC, wS_Arr, wS_ArrC, wS_If, wS_Sw, wS_F0, wS_F1, wM_q, lu_ap, aL_ap, ct_0, ct_1, ct_2, ct_3, ct_4, ct_5, headD_1, List.mem_cons, List.not_mem_nil, or_false, false_or, or_true, true_or, true_and, and_true, false_and, and_false, not_true_eq_false, not_false_eq_true, if_true, if_false, nr_20, nr_24, nr_40, nr_41, nr_44, pt_lt, pt_ge, pt_eq, pt_ne, pt_gt, pt_le, pt_E, pt_N, pt_F, ite_10, ite_11, ne_eq, and_self, or_self, decide_true, decide_false, Bool.not_true, Bool.not_false, Bool.false_eq_true, Nat.reduceEqDiff, Nat.reduceAdd, Int.reduceEq, Int.reduceLT, Int.reduceLE, Int.reduceNeg, Int.reduceAdd, Int.reduceSub, Int.reduceMul, reduceCtorEq, q1, q2]
        exact q3
end MU
