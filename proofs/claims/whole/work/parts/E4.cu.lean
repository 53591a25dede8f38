/-! STORE: a unit of a formula, the class's -/
def ffr (x F : Int) (u w : QV) : Prop := ∀ a k, (a = x → k ≠ 2 ∧ k ≠ 3 ∧ k ≠ 4 ∧ k ≠ 9) → a ≠ x + 3 → (a = F → k ≠ 1 ∧ k ≠ 2) → a ≠ F + 1 → a ≠ F + 2 → w a k = u a k
def FQ (S : QS) (u : QV) (x F : Int) (st : List Int) (c : Int → Int) (l un : Int) (w : QV) : Prop := ffr x F u w ∧ FRp S w x F st c l ∧ w F 1 = un
section CU
variable {S : QS} {u v w : QV} {T x P F l0 nm op un : Int} {ns : Nat} {β : Int → Int} {st : List Int} {c : Int → Int} {l i : Int}
theorem FRp.px {k z : Int} (h : FRp S w x F st c l) (hF : x + 3 < F) (hx : S.1 x = 6) (hk : k = 2 ∨ k = 3 ∨ k = 4) : FRp S (vu w x k z) x F st c l := by
  obtain ⟨h1, h2, h3, h4, h5⟩ := h
  refine ⟨h1.keep (Kp.rf.vuc (by rw [hx]; rcases hk with rfl | rfl | rfl <;> rfl)), by rw [vu_ne (by omega)]; exact h2, fun k k0 k1 => by rw [vu_ne (by omega), vu_ne (by omega)]; exact h3 k k0 k1, by rw [vu_ne (by omega)]; exact h4, fun k hk => by rw [vu_ne (by omega)]; exact h5 k hk⟩
theorem FQ.qx (hF : x + 3 < F) (hx : S.1 x = 6) : Qx x (FQ S u x F st c l un) := fun w k z hw hk => ⟨fun a j q1 q2 q3 q4 q5 => by
  rw [vu_ne (fun e => by have := q1 e.1; omega)]; exact hw.1 a j q1 q2 q3 q4 q5, hw.2.1.px hF hx hk, by rw [vu_ne (by omega)]; exact hw.2.2⟩
/-- the names that a formula can use stay -/
theorem ffr.nb (h : ffr x F u w) (hF : x + 3 < F) (hT : T + 5 = x) (hN : NB u T x) : NB w T x := by
  have e7 : w x 7 = u x 7 := h _ _ (by omega) (by omega) (by omega) (by omega) (by omega)
  have e5 : nTk w T = nTk u T := nt_5 (h _ _ (by omega) (by omega) (by omega) (by omega) (by omega))
  refine ⟨by rw [e7]; exact hN.1, fun j h0 h1 => ?_⟩
  rw [e7] at h1
  rw [e5, h (x + 1) _ (by omega) (by omega) (by omega) (by omega) (by omega), h (x + 2) _ (by omega) (by omega) (by omega) (by omega) (by omega)]
  exact hN.2 j h0 h1
theorem ffr.be {r : Int} (h : ffr x F u w) (hF : x + 3 < F) (hT : T + 5 = x) (hb : isBe w T x i r) : isBe u T x i r :=
  isBe_q (fun a k h1 h2 => h _ _ (by omega) (by omega) (by omega) (by omega) (by omega)) (h _ _ (by omega) (by omega) (by omega) (by omega) (by omega)) (fun k => h _ _ (by omega) (by omega) (by omega) (by omega) (by omega)) (fun k => h _ _ (by omega) (by omega) (by omega) (by omega) (by omega)) hb
theorem c_unit (hP : S.1 P = 7) (hP5 : u P 5 = F) (hxP : x + 3 < P) (hPF : P < F) (h : Mi S u v T x P (FQ S u x F st c l un) w i) (hN : NB u T x) (hβ : ∀ r, kdT v T i = 4 → isBe u T x i r → r = β i) (hv : fV st c l op un 0 l0 nm ns) (hb : bOk v T β nm ns) : wM mX5_unit [x, op] S w (fun r w' => (fUn v T β op un i = 0 ∧ r = 1 ∧ (kdT v T i = 40 → Mi S u v T x P (FQ S u x F (40 :: st) c l (un + 1)) w' i) ∧ (¬ kdT v T i = 40 → Mi S u v T x P (FQ S u x F st (fu c l (cdU v T β i)) (l + 1) (un + 1)) w' i)) ∨ (¬ fUn v T β op un i = 0 ∧ r = 0 ∧ LnC u w' T x v (fUn v T β op un i, i) 0 ∧ ffr x F u w')) := by
  obtain ⟨hPS, hTR, hxx, hfr, hFR, hun⟩ := id h
  have hx := hPS.2.1
  have h10 := hPS.2.2.2.2.2.2.2.2.2
  have x0 := hPS.2.2.1
  have x1 := hPS.2.2.2.1
  have x2 := hPS.2.2.2.2.1
  have hk := h.kd
  have hFx : x + 3 < F := by omega
  have hQx : Qx x (FQ S u x F st c l un) := FQ.qx hFx hx.k
  have p5 : w P 5 = F := by rw [hfr _ _ (by omega) (by omega) (by omega) (by omega) (by omega)]; exact hP5
  have hfl : ∀ f, mX5_fail [x, f] S w = some (0, vu (vu w x 3 f) x 4 (stT v T i)) := fun f => h.fl
  have hfb : ∀ f, 0 < f → LnC u (vu (vu w x 3 f) x 4 (stT v T i)) T x v (f, i) 0 ∧ ffr x F u (vu (vu w x 3 f) x 4 (stT v T i)) := fun f hf => ⟨(h.fail hQx hf).1, (h.fail hQx hf).2.1⟩
  have hi6 : 0 ≤ i ∧ i < nTk v T := by have := hPS.2.2.2.2.2.1; rw [nt_q hTR] at this; exact this
  obtain ⟨v1, v2, ⟨v3, v4⟩, v5, v6, v7, v8⟩ := id hv
  have hcn := cO_n st
  -- one more unit
  have kF : S.1 F = 2 := hFR.1.k
  have hun1 : Mi S u v T x P (FQ S u x F st c l (un + 1)) (vu w F 1 (un + 1)) i := h.put (by omega) (by rw [kF]; rfl) (fun w' q => ⟨fun a j q1 q2 q3 q4 q5 => by
    rw [vu_ne (fun e => (q3 e.1).1 e.2)]; exact q.1 a j q1 q2 q3 q4 q5, ⟨q.2.1.1.keep (Kp.rf.vuc (by rw [kF]; rfl)), by rw [vu_ne (by omega)]; exact q.2.1.2.1, fun k k0 k1 => by rw [vu_ne (by omega), vu_ne (by omega)]; exact q.2.1.2.2.1 k k0 k1, by rw [vu_ne (by omega)]; exact q.2.1.2.2.2.1, fun k hk => by rw [vu_ne (by omega)]; exact q.2.1.2.2.2.2 k hk⟩, vu_is⟩)
  have hlay : ∀ a b z, crel a b z → ∀ w1, Mi S u v T x P (FQ S u x F st c l (un + 1)) w1 i → Mi S u v T x P (FQ S u x F st (fu c l z) (l + 1) (un + 1)) (vu (vu (vu w1 (F + 1) l a) (F + 2) l b) F 2 (l + 1)) i := fun a b z hz w1 hM => by
    obtain ⟨m1, m2, m3, m4, m5, m6⟩ := id hM
    have hp := m5.put (a := a) (b := b) (z := z) hFx (by omega) hz
    refine ⟨((m1.put (Or.inr (by omega)) (by rw [hFR.1.a1]; rfl)).put (Or.inr (by omega)) (by rw [hFR.1.a2]; rfl)).put (Or.inr (by omega)) (by rw [kF]; rfl), ((m2.vu (by omega)).vu (by omega)).vu (by omega), ⟨by rw [vu_ne (by omega), vu_ne (by omega), vu_ne (by omega)]; exact m3.1, by rw [vu_ne (by omega), vu_ne (by omega), vu_ne (by omega)]; exact m3.2⟩, fun a j q1 q2 q3 q4 q5 => ?_, hp, by rw [vu_ne (by simp), vu_ne (by omega), vu_ne (by omega)]; exact m6⟩
    rw [vu_ne (fun e => (q3 e.1).2 e.2), vu_ne (fun e => q5 e.1), vu_ne (fun e => q4 e.1)]
    exact m4 a j q1 q2 q3 q4 q5
  have t1 : vu w F 1 (un + 1) x 1 = P := by rw [vu_ne (by omega)]; exact x1
  have t5 : vu w F 1 (un + 1) P 5 = F := by rw [vu_ne (by omega)]; exact p5
  have put1 : un < 30 → ∀ a b, mX1_put [F, a, b] S (vu w F 1 (un + 1)) = some (0, vu (vu (vu (vu w F 1 (un + 1)) (F + 1) l a) (F + 2) l b) F 2 (l + 1)) := fun hu a b => q_put hun1.2.2.2.2.1.1 hun1.2.2.2.2.1.2.1 ⟨by omega, by omega⟩
  have eun : un < 30 → w32 (un + 1) = un + 1 := fun hu => w32_e (by have := v3; omega)
  by_cases k3 : kdT v T i = 3
  · have hno := q_numberOf hPS (by rw [kd_q hTR]; exact k3)
    rw [nmT_q hTR] at hno
    have hn0 := hb.2.2.2 i hi6.1 hi6.2 k3
    have hcd : cdU v T β i = nmT v T i := by unfold cdU; rw [if_pos k3]
    by_cases g : 9999 < nmT v T i
    · have hf : fUn v T β op un i = 2 := by unfold fUn; rw [if_neg (by omega), if_pos ⟨k3, g⟩]
      rw [hf]
      simp only [mX5_unit, sX5_unit, wE_I, wE_V, wE_F, wE_A, wE_N, wE_1, wE_2, wE_D, wE_B, wE_If, wE_C, wE_CV, wE_SL, wE_SA, wA_0, wA_1, wC_B, wC_E, wC_And, wC_Or, wC_Not, wS_Skip, wS_Brk, wS_Cnt, wS_RetV, wS_Ret, wS_Seq, wS_Set, wS_Inc, wS_Do, wS_Put, wS_PutC, wS_Arr, wS_ArrC, wS_If, wS_Sw, wS_F0, wS_F1, wM_q, lu_ap, aL_ap, ct_0, ct_1, ct_2, ct_3, ct_4, ct_5, headD_1, List.mem_cons, List.not_mem_nil, or_false, false_or, or_true, true_or, true_and, and_true, false_and, and_false, not_true_eq_false, not_false_eq_true, if_true, if_false, nr_20, nr_24, nr_40, nr_41, nr_44, pt_lt, pt_ge, pt_eq, pt_ne, pt_gt, pt_le, pt_E, pt_N, pt_F, ite_10, ite_11, ne_eq, and_self, or_self, decide_true, decide_false, Bool.not_true, Bool.not_false, Bool.false_eq_true, Nat.reduceEqDiff, Nat.reduceAdd, Int.reduceEq, Int.reduceLT, Int.reduceLE, Int.reduceNeg, Int.reduceAdd, Int.reduceSub, Int.reduceMul, reduceCtorEq, iA, iS, iM, iD, iR, iN, lA, lS, lM, lD, lR, hx.k, wM_of hk, k3, x0, x2, hPS.1.k, wM_of hno, g, wM_of (hfl 2)]
      exact hfb 2 (by decide)
    · by_cases q : 30 ≤ un ∨ 4 < op
      · have hf : fUn v T β op un i = 4 := by unfold fUn; rw [if_neg (by omega), if_neg (fun z => g z.2), if_neg (by omega), if_pos q]
        rw [hf]
        by_cases q1 : 30 ≤ un
        · simp only [mX5_unit, sX5_unit, wE_I, wE_V, wE_F, wE_A, wE_N, wE_1, wE_2, wE_D, wE_B, wE_If, wE_C, wE_CV, wE_SL, wE_SA, wA_0, wA_1, wC_B, wC_E, wC_And, wC_Or, wC_Not, wS_Skip, wS_Brk, wS_Cnt, wS_RetV, wS_Ret, wS_Seq, wS_Set, wS_Inc, wS_Do, wS_Put, wS_PutC, wS_Arr, wS_ArrC, wS_If, wS_Sw, wS_F0, wS_F1, wM_q, lu_ap, aL_ap, ct_0, ct_1, ct_2, ct_3, ct_4, ct_5, headD_1, List.mem_cons, List.not_mem_nil, or_false, false_or, or_true, true_or, true_and, and_true, false_and, and_false, not_true_eq_false, not_false_eq_true, if_true, if_false, nr_20, nr_24, nr_40, nr_41, nr_44, pt_lt, pt_ge, pt_eq, pt_ne, pt_gt, pt_le, pt_E, pt_N, pt_F, ite_10, ite_11, ne_eq, and_self, or_self, decide_true, decide_false, Bool.not_true, Bool.not_false, Bool.false_eq_true, Nat.reduceEqDiff, Nat.reduceAdd, Int.reduceEq, Int.reduceLT, Int.reduceLE, Int.reduceNeg, Int.reduceAdd, Int.reduceSub, Int.reduceMul, reduceCtorEq, iA, iS, iM, iD, iR, iN, lA, lS, lM, lD, lR, hx.k, wM_of hk, k3, x0, x2, hPS.1.k, wM_of hno, g, x1, hP, p5, kF, hun, q1, wM_of (hfl 4)]
          exact hfb 4 (by decide)
        · have q2 : 4 < op := by omega
          simp only [mX5_unit, sX5_unit, wE_I, wE_V, wE_F, wE_A, wE_N, wE_1, wE_2, wE_D, wE_B, wE_If, wE_C, wE_CV, wE_SL, wE_SA, wA_0, wA_1, wC_B, wC_E, wC_And, wC_Or, wC_Not, wS_Skip, wS_Brk, wS_Cnt, wS_RetV, wS_Ret, wS_Seq, wS_Set, wS_Inc, wS_Do, wS_Put, wS_PutC, wS_Arr, wS_ArrC, wS_If, wS_Sw, wS_F0, wS_F1, wM_q, lu_ap, aL_ap, ct_0, ct_1, ct_2, ct_3, ct_4, ct_5, headD_1, List.mem_cons, List.not_mem_nil, or_false, false_or, or_true, true_or, true_and, and_true, false_and, and_false, not_true_eq_false, not_false_eq_true, if_true, if_false, nr_20, nr_24, nr_40, nr_41, nr_44, pt_lt, pt_ge, pt_eq, pt_ne, pt_gt, pt_le, pt_E, pt_N, pt_F, ite_10, ite_11, ne_eq, and_self, or_self, decide_true, decide_false, Bool.not_true, Bool.not_false, Bool.false_eq_true, Nat.reduceEqDiff, Nat.reduceAdd, Int.reduceEq, Int.reduceLT, Int.reduceLE, Int.reduceNeg, Int.reduceAdd, Int.reduceSub, Int.reduceMul, reduceCtorEq, iA, iS, iM, iD, iR, iN, lA, lS, lM, lD, lR, hx.k, wM_of hk, k3, x0, x2, hPS.1.k, wM_of hno, g, x1, hP, p5, kF, hun, q1, q2, wM_of (hfl 4)]
          exact hfb 4 (by decide)
      · have hf : fUn v T β op un i = 0 := by unfold fUn; rw [if_neg (by omega), if_neg (fun z => g z.2), if_neg (by omega), if_neg q]
        rw [hf, hcd]
        have q1 : ¬ 30 ≤ un := fun z => q (Or.inl z)
        have q2 : ¬ 4 < op := fun z => q (Or.inr z)
        have hput := put1 (by omega) 1 (1000 * nmT v T i)
        have em : nmT v T i * 1000 = 1000 * nmT v T i := Int.mul_comm _ _
        have hfin := hlay 1 (1000 * nmT v T i) (nmT v T i) (Or.inl ⟨rfl, hn0, by omega, rfl⟩) _ hun1
        have e1 := eun (by omega)
        have e2 : w32 (1000 * nmT v T i) = 1000 * nmT v T i := by clear e1; exact w32_e (by omega)
        simp only [mX5_unit, sX5_unit, wE_I, wE_V, wE_F, wE_A, wE_N, wE_1, wE_2, wE_D, wE_B, wE_If, wE_C, wE_CV, wE_SL, wE_SA, wA_0, wA_1, wC_B, wC_E, wC_And, wC_Or, wC_Not, wS_Skip, wS_Brk, wS_Cnt, wS_RetV, wS_Ret, wS_Seq, wS_Set, wS_Inc, wS_Do, wS_Put, wS_PutC, wS_Arr, wS_ArrC, wS_If, wS_Sw, wS_F0, wS_F1, wM_q, lu_ap, aL_ap, ct_0, ct_1, ct_2, ct_3, ct_4, ct_5, headD_1, List.mem_cons, List.not_mem_nil, or_false, false_or, or_true, true_or, true_and, and_true, false_and, and_false, not_true_eq_false, not_false_eq_true, if_true, if_false, nr_20, nr_24, nr_40, nr_41, nr_44, pt_lt, pt_ge, pt_eq, pt_ne, pt_gt, pt_le, pt_E, pt_N, pt_F, ite_10, ite_11, ne_eq, and_self, or_self, decide_true, decide_false, Bool.not_true, Bool.not_false, Bool.false_eq_true, Nat.reduceEqDiff, Nat.reduceAdd, Int.reduceEq, Int.reduceLT, Int.reduceLE, Int.reduceNeg, Int.reduceAdd, Int.reduceSub, Int.reduceMul, reduceCtorEq, iA, iS, iM, iD, iR, iN, lA, lS, lM, lD, lR, hx.k, wM_of hk, k3, x0, x2, hPS.1.k, wM_of hno, g, x1, hP, p5, kF, hun, q1, q2, e1, t1, t5, em, e2, wM_of hput]
        exact ⟨fun z => z.elim, fun _ => hfin⟩
  · by_cases k4 : kdT v T i = 4
    · obtain ⟨r, w1, ebr, rfl, hbe⟩ := c_bearerHere hPS (hfr.nb hFx h10 hN)
      have er := hβ r k4 (hfr.be hFx h10 hbe)
      subst er
      have hbb := hb.2.2.1 i hi6.1 hi6.2 k4
      have hn4 := hb.1
      have hs4 := hb.2.1
      by_cases g : β i = -1
      · have hf : fUn v T β op un i = 3 := by unfold fUn; rw [if_neg (by omega), if_neg (by omega), if_pos ⟨k4, g⟩]
        rw [hf]
        rw [g] at ebr
        simp only [mX5_unit, sX5_unit, wE_I, wE_V, wE_F, wE_A, wE_N, wE_1, wE_2, wE_D, wE_B, wE_If, wE_C, wE_CV, wE_SL, wE_SA, wA_0, wA_1, wC_B, wC_E, wC_And, wC_Or, wC_Not, wS_Skip, wS_Brk, wS_Cnt, wS_RetV, wS_Ret, wS_Seq, wS_Set, wS_Inc, wS_Do, wS_Put, wS_PutC, wS_Arr, wS_ArrC, wS_If, wS_Sw, wS_F0, wS_F1, wM_q, lu_ap, aL_ap, ct_0, ct_1, ct_2, ct_3, ct_4, ct_5, headD_1, List.mem_cons, List.not_mem_nil, or_false, false_or, or_true, true_or, true_and, and_true, false_and, and_false, not_true_eq_false, not_false_eq_true, if_true, if_false, nr_20, nr_24, nr_40, nr_41, nr_44, pt_lt, pt_ge, pt_eq, pt_ne, pt_gt, pt_le, pt_E, pt_N, pt_F, ite_10, ite_11, ne_eq, and_self, or_self, decide_true, decide_false, Bool.not_true, Bool.not_false, Bool.false_eq_true, Nat.reduceEqDiff, Nat.reduceAdd, Int.reduceEq, Int.reduceLT, Int.reduceLE, Int.reduceNeg, Int.reduceAdd, Int.reduceSub, Int.reduceMul, reduceCtorEq, iA, iS, iM, iD, iR, iN, lA, lS, lM, lD, lR, hx.k, wM_of hk, k4, wM_of ebr, wM_of (hfl 3)]
        exact hfb 3 (by decide)
      · by_cases q : 30 ≤ un ∨ 4 < op
        · have hf : fUn v T β op un i = 4 := by unfold fUn; rw [if_neg (by omega), if_neg (by omega), if_neg (fun z => g z.2), if_pos q]
          rw [hf]
          by_cases q1 : 30 ≤ un
          · simp only [mX5_unit, sX5_unit, wE_I, wE_V, wE_F, wE_A, wE_N, wE_1, wE_2, wE_D, wE_B, wE_If, wE_C, wE_CV, wE_SL, wE_SA, wA_0, wA_1, wC_B, wC_E, wC_And, wC_Or, wC_Not, wS_Skip, wS_Brk, wS_Cnt, wS_RetV, wS_Ret, wS_Seq, wS_Set, wS_Inc, wS_Do, wS_Put, wS_PutC, wS_Arr, wS_ArrC, wS_If, wS_Sw, wS_F0, wS_F1, wM_q, lu_ap, aL_ap, ct_0, ct_1, ct_2, ct_3, ct_4, ct_5, headD_1, List.mem_cons, List.not_mem_nil, or_false, false_or, or_true, true_or, true_and, and_true, false_and, and_false, not_true_eq_false, not_false_eq_true, if_true, if_false, nr_20, nr_24, nr_40, nr_41, nr_44, pt_lt, pt_ge, pt_eq, pt_ne, pt_gt, pt_le, pt_E, pt_N, pt_F, ite_10, ite_11, ne_eq, and_self, or_self, decide_true, decide_false, Bool.not_true, Bool.not_false, Bool.false_eq_true, Nat.reduceEqDiff, Nat.reduceAdd, Int.reduceEq, Int.reduceLT, Int.reduceLE, Int.reduceNeg, Int.reduceAdd, Int.reduceSub, Int.reduceMul, reduceCtorEq, iA, iS, iM, iD, iR, iN, lA, lS, lM, lD, lR, hx.k, wM_of hk, k4, wM_of ebr, g, x1, hP, p5, kF, hun, q1, wM_of (hfl 4)]
            exact hfb 4 (by decide)
          · have q2 : 4 < op := by omega
            simp only [mX5_unit, sX5_unit, wE_I, wE_V, wE_F, wE_A, wE_N, wE_1, wE_2, wE_D, wE_B, wE_If, wE_C, wE_CV, wE_SL, wE_SA, wA_0, wA_1, wC_B, wC_E, wC_And, wC_Or, wC_Not, wS_Skip, wS_Brk, wS_Cnt, wS_RetV, wS_Ret, wS_Seq, wS_Set, wS_Inc, wS_Do, wS_Put, wS_PutC, wS_Arr, wS_ArrC, wS_If, wS_Sw, wS_F0, wS_F1, wM_q, lu_ap, aL_ap, ct_0, ct_1, ct_2, ct_3, ct_4, ct_5, headD_1, List.mem_cons, List.not_mem_nil, or_false, false_or, or_true, true_or, true_and, and_true, false_and, and_false, not_true_eq_false, not_false_eq_true, if_true, if_false, nr_20, nr_24, nr_40, nr_41, nr_44, pt_lt, pt_ge, pt_eq, pt_ne, pt_gt, pt_le, pt_E, pt_N, pt_F, ite_10, ite_11, ne_eq, and_self, or_self, decide_true, decide_false, Bool.not_true, Bool.not_false, Bool.false_eq_true, Nat.reduceEqDiff, Nat.reduceAdd, Int.reduceEq, Int.reduceLT, Int.reduceLE, Int.reduceNeg, Int.reduceAdd, Int.reduceSub, Int.reduceMul, reduceCtorEq, iA, iS, iM, iD, iR, iN, lA, lS, lM, lD, lR, hx.k, wM_of hk, k4, wM_of ebr, g, x1, hP, p5, kF, hun, q1, q2, wM_of (hfl 4)]
            exact hfb 4 (by decide)
        · have hf : fUn v T β op un i = 0 := by unfold fUn; rw [if_neg (by omega), if_neg (by omega), if_neg (fun z => g z.2), if_neg q]
          rw [hf]
          have q1 : ¬ 30 ≤ un := fun z => q (Or.inl z)
          have q2 : ¬ 4 < op := fun z => q (Or.inr z)
          by_cases b4 : β i < 4
          · have hcd : cdU v T β i = 10000 + β i := by unfold cdU; rw [if_neg k3, if_pos b4]
            rw [hcd]
            have hput := put1 (by omega) 2 (β i)
            have hfin := hlay 2 (β i) (10000 + β i) (Or.inr (Or.inl ⟨rfl, by omega, b4, rfl⟩)) _ hun1
            have e1 := eun (by omega)
            simp only [mX5_unit, sX5_unit, wE_I, wE_V, wE_F, wE_A, wE_N, wE_1, wE_2, wE_D, wE_B, wE_If, wE_C, wE_CV, wE_SL, wE_SA, wA_0, wA_1, wC_B, wC_E, wC_And, wC_Or, wC_Not, wS_Skip, wS_Brk, wS_Cnt, wS_RetV, wS_Ret, wS_Seq, wS_Set, wS_Inc, wS_Do, wS_Put, wS_PutC, wS_Arr, wS_ArrC, wS_If, wS_Sw, wS_F0, wS_F1, wM_q, lu_ap, aL_ap, ct_0, ct_1, ct_2, ct_3, ct_4, ct_5, headD_1, List.mem_cons, List.not_mem_nil, or_false, false_or, or_true, true_or, true_and, and_true, false_and, and_false, not_true_eq_false, not_false_eq_true, if_true, if_false, nr_20, nr_24, nr_40, nr_41, nr_44, pt_lt, pt_ge, pt_eq, pt_ne, pt_gt, pt_le, pt_E, pt_N, pt_F, ite_10, ite_11, ne_eq, and_self, or_self, decide_true, decide_false, Bool.not_true, Bool.not_false, Bool.false_eq_true, Nat.reduceEqDiff, Nat.reduceAdd, Int.reduceEq, Int.reduceLT, Int.reduceLE, Int.reduceNeg, Int.reduceAdd, Int.reduceSub, Int.reduceMul, reduceCtorEq, iA, iS, iM, iD, iR, iN, lA, lS, lM, lD, lR, hx.k, wM_of hk, k4, wM_of ebr, g, x1, hP, p5, kF, hun, q1, q2, e1, t1, t5, b4, wM_of hput]
            exact ⟨fun z => z.elim, fun _ => hfin⟩
          · have hcd : cdU v T β i = 10010 + (β i - 4) := by unfold cdU; rw [if_neg k3, if_neg b4]
            rw [hcd]
            have hput := put1 (by omega) 3 (β i - 4)
            have hfin := hlay 3 (β i - 4) (10010 + (β i - 4)) (Or.inr (Or.inr (Or.inl ⟨rfl, by omega, by omega, rfl⟩))) _ hun1
            have e1 := eun (by omega)
            have e2 : w32 (β i - 4) = β i - 4 := by clear e1; exact w32_e (by omega)
            simp only [mX5_unit, sX5_unit, wE_I, wE_V, wE_F, wE_A, wE_N, wE_1, wE_2, wE_D, wE_B, wE_If, wE_C, wE_CV, wE_SL, wE_SA, wA_0, wA_1, wC_B, wC_E, wC_And, wC_Or, wC_Not, wS_Skip, wS_Brk, wS_Cnt, wS_RetV, wS_Ret, wS_Seq, wS_Set, wS_Inc, wS_Do, wS_Put, wS_PutC, wS_Arr, wS_ArrC, wS_If, wS_Sw, wS_F0, wS_F1, wM_q, lu_ap, aL_ap, ct_0, ct_1, ct_2, ct_3, ct_4, ct_5, headD_1, List.mem_cons, List.not_mem_nil, or_false, false_or, or_true, true_or, true_and, and_true, false_and, and_false, not_true_eq_false, not_false_eq_true, if_true, if_false, nr_20, nr_24, nr_40, nr_41, nr_44, pt_lt, pt_ge, pt_eq, pt_ne, pt_gt, pt_le, pt_E, pt_N, pt_F, ite_10, ite_11, ne_eq, and_self, or_self, decide_true, decide_false, Bool.not_true, Bool.not_false, Bool.false_eq_true, Nat.reduceEqDiff, Nat.reduceAdd, Int.reduceEq, Int.reduceLT, Int.reduceLE, Int.reduceNeg, Int.reduceAdd, Int.reduceSub, Int.reduceMul, reduceCtorEq, iA, iS, iM, iD, iR, iN, lA, lS, lM, lD, lR, hx.k, wM_of hk, k4, wM_of ebr, g, x1, hP, p5, kF, hun, q1, q2, e1, t1, t5, b4, e2, wM_of hput]
            exact ⟨fun z => z.elim, fun _ => hfin⟩
    · by_cases k40 : kdT v T i = 40
      · by_cases q : 30 ≤ un ∨ 4 < op
        · have hf : fUn v T β op un i = 4 := by unfold fUn; rw [if_neg (by omega), if_neg (by omega), if_neg (by omega), if_pos q]
          rw [hf]
          by_cases q1 : 30 ≤ un
          · simp only [mX5_unit, sX5_unit, wE_I, wE_V, wE_F, wE_A, wE_N, wE_1, wE_2, wE_D, wE_B, wE_If, wE_C, wE_CV, wE_SL, wE_SA, wA_0, wA_1, wC_B, wC_E, wC_And, wC_Or, wC_Not, wS_Skip, wS_Brk, wS_Cnt, wS_RetV, wS_Ret, wS_Seq, wS_Set, wS_Inc, wS_Do, wS_Put, wS_PutC, wS_Arr, wS_ArrC, wS_If, wS_Sw, wS_F0, wS_F1, wM_q, lu_ap, aL_ap, ct_0, ct_1, ct_2, ct_3, ct_4, ct_5, headD_1, List.mem_cons, List.not_mem_nil, or_false, false_or, or_true, true_or, true_and, and_true, false_and, and_false, not_true_eq_false, not_false_eq_true, if_true, if_false, nr_20, nr_24, nr_40, nr_41, nr_44, pt_lt, pt_ge, pt_eq, pt_ne, pt_gt, pt_le, pt_E, pt_N, pt_F, ite_10, ite_11, ne_eq, and_self, or_self, decide_true, decide_false, Bool.not_true, Bool.not_false, Bool.false_eq_true, Nat.reduceEqDiff, Nat.reduceAdd, Int.reduceEq, Int.reduceLT, Int.reduceLE, Int.reduceNeg, Int.reduceAdd, Int.reduceSub, Int.reduceMul, reduceCtorEq, iA, iS, iM, iD, iR, iN, lA, lS, lM, lD, lR, hx.k, wM_of hk, k40, x1, hP, p5, kF, hun, q1, wM_of (hfl 4)]
            exact hfb 4 (by decide)
          · have q2 : 4 < op := by omega
            simp only [mX5_unit, sX5_unit, wE_I, wE_V, wE_F, wE_A, wE_N, wE_1, wE_2, wE_D, wE_B, wE_If, wE_C, wE_CV, wE_SL, wE_SA, wA_0, wA_1, wC_B, wC_E, wC_And, wC_Or, wC_Not, wS_Skip, wS_Brk, wS_Cnt, wS_RetV, wS_Ret, wS_Seq, wS_Set, wS_Inc, wS_Do, wS_Put, wS_PutC, wS_Arr, wS_ArrC, wS_If, wS_Sw, wS_F0, wS_F1, wM_q, lu_ap, aL_ap, ct_0, ct_1, ct_2, ct_3, ct_4, ct_5, headD_1, List.mem_cons, List.not_mem_nil, or_false, false_or, or_true, true_or, true_and, and_true, false_and, and_false, not_true_eq_false, not_false_eq_true, if_true, if_false, nr_20, nr_24, nr_40, nr_41, nr_44, pt_lt, pt_ge, pt_eq, pt_ne, pt_gt, pt_le, pt_E, pt_N, pt_F, ite_10, ite_11, ne_eq, and_self, or_self, decide_true, decide_false, Bool.not_true, Bool.not_false, Bool.false_eq_true, Nat.reduceEqDiff, Nat.reduceAdd, Int.reduceEq, Int.reduceLT, Int.reduceLE, Int.reduceNeg, Int.reduceAdd, Int.reduceSub, Int.reduceMul, reduceCtorEq, iA, iS, iM, iD, iR, iN, lA, lS, lM, lD, lR, hx.k, wM_of hk, k40, x1, hP, p5, kF, hun, q1, q2, wM_of (hfl 4)]
            exact hfb 4 (by decide)
        · have hf : fUn v T β op un i = 0 := by unfold fUn; rw [if_neg (by omega), if_neg (by omega), if_neg (by omega), if_neg q]
          rw [hf]
          have q1 : ¬ 30 ≤ un := fun z => q (Or.inl z)
          have q2 : ¬ 4 < op := fun z => q (Or.inr z)
          obtain ⟨m1, m2, m3, m4, m5, m6⟩ := id hun1
          obtain ⟨a1, a2⟩ := q_await (s := 40) m1.2.1 m5 hFx (by omega)
          have hfin : Mi S u v T x P (FQ S u x F (40 :: st) c l (un + 1)) (vu (vu (vu w F 1 (un + 1)) (x + 3) st.length 40) x 9 (st.length + 1)) i := by
            refine ⟨(m1.put (a := x + 3) (Or.inr (by omega)) (by rw [hx.a3]; rfl)).mv (Kp.rf.vuc (by rw [hx.k]; rfl)) (TR.rf.vu (by omega)) (by rw [vu_ne (by simp)]) (by rw [vu_ne (by simp)]) (by rw [vu_ne (by simp), vu_ne (by omega)]; exact m1.2.2.2.2.1) ?_, (m2.vu (by omega)).vu (by omega), ⟨by rw [vu_ne (by simp), vu_ne (by omega)]; exact m3.1, by rw [vu_ne (by simp), vu_ne (by omega)]; exact m3.2⟩, fun a j q1 q2 q3 q4 q5 => ?_, a2, by rw [vu_ne (by omega), vu_ne (by omega)]; exact m6⟩
            · rw [nt_5 (show vu (vu w F 1 (un + 1)) (x + 3) (st.length : Int) 40 T 5 = w T 5 by rw [vu_ne (by omega), vu_ne (by omega)]), nt_q hTR]; exact hi6
            · rw [vu_ne (fun e => (q1 e.1).2.2.2 e.2), vu_ne (fun e => q2 e.1)]
              exact m4 a j q1 q2 q3 q4 q5
          have e1 := eun (by omega)
          simp only [mX5_unit, sX5_unit, wE_I, wE_V, wE_F, wE_A, wE_N, wE_1, wE_2, wE_D, wE_B, wE_If, wE_C, wE_CV, wE_SL, wE_SA, wA_0, wA_1, wC_B, wC_E, wC_And, wC_Or, wC_Not, wS_Skip, wS_Brk, wS_Cnt, wS_RetV, wS_Ret, wS_Seq, wS_Set, wS_Inc, wS_Do, wS_Put, wS_PutC, wS_Arr, wS_ArrC, wS_If, wS_Sw, wS_F0, wS_F1, wM_q, lu_ap, aL_ap, ct_0, ct_1, ct_2, ct_3, ct_4, ct_5, headD_1, List.mem_cons, List.not_mem_nil, or_false, false_or, or_true, true_or, true_and, and_true, false_and, and_false, not_true_eq_false, not_false_eq_true, if_true, if_false, nr_20, nr_24, nr_40, nr_41, nr_44, pt_lt, pt_ge, pt_eq, pt_ne, pt_gt, pt_le, pt_E, pt_N, pt_F, ite_10, ite_11, ne_eq, and_self, or_self, decide_true, decide_false, Bool.not_true, Bool.not_false, Bool.false_eq_true, Nat.reduceEqDiff, Nat.reduceAdd, Int.reduceEq, Int.reduceLT, Int.reduceLE, Int.reduceNeg, Int.reduceAdd, Int.reduceSub, Int.reduceMul, reduceCtorEq, iA, iS, iM, iD, iR, iN, lA, lS, lM, lD, lR, hx.k, wM_of hk, k40, x1, hP, p5, kF, hun, q1, q2, e1, wM_of a1]
          exact ⟨fun _ => hfin, fun z => z.elim⟩
      · have hf : fUn v T β op un i = 1 := by unfold fUn; rw [if_pos ⟨k3, k4, k40⟩]
        rw [hf]
        simp only [mX5_unit, sX5_unit, wE_I, wE_V, wE_F, wE_A, wE_N, wE_1, wE_2, wE_D, wE_B, wE_If, wE_C, wE_CV, wE_SL, wE_SA, wA_0, wA_1, wC_B, wC_E, wC_And, wC_Or, wC_Not, wS_Skip, wS_Brk, wS_Cnt, wS_RetV, wS_Ret, wS_Seq, wS_Set, wS_Inc, wS_Do, wS_Put, wS_PutC, wS_Arr, wS_ArrC, wS_If, wS_Sw, wS_F0, wS_F1, wM_q, lu_ap, aL_ap, ct_0, ct_1, ct_2, ct_3, ct_4, ct_5, headD_1, List.mem_cons, List.not_mem_nil, or_false, false_or, or_true, true_or, true_and, and_true, false_and, and_false, not_true_eq_false, not_false_eq_true, if_true, if_false, nr_20, nr_24, nr_40, nr_41, nr_44, pt_lt, pt_ge, pt_eq, pt_ne, pt_gt, pt_le, pt_E, pt_N, pt_F, ite_10, ite_11, ne_eq, and_self, or_self, decide_true, decide_false, Bool.not_true, Bool.not_false, Bool.false_eq_true, Nat.reduceEqDiff, Nat.reduceAdd, Int.reduceEq, Int.reduceLT, Int.reduceLE, Int.reduceNeg, Int.reduceAdd, Int.reduceSub, Int.reduceMul, reduceCtorEq, iA, iS, iM, iD, iR, iN, lA, lS, lM, lD, lR, hx.k, wM_of hk, k3, k4, k40, wM_of (hfl 1)]
        exact hfb 1 (by decide)
end CU
