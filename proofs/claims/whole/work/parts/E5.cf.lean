/-! STORE: a formula, the class's -/
theorem cP_len : ∀ st : List Int, cP st ≤ st.length
  | [] => Int.le_refl _
  | s :: st => by
    have := cP_len st
    simp only [cP, List.length_cons]
    split <;> omega
def FR0 (S : QS) (w : QV) (F : Int) (c : Int → Int) (l : Int) : Prop := LFo S w F ∧ w F 2 = l ∧ ∀ k, 0 ≤ k → k < l → crel (w (F + 1) k) (w (F + 2) k) (c k)
def FQ0 (S : QS) (u : QV) (x F : Int) (c : Int → Int) (l un : Int) (w : QV) : Prop := ffr x F u w ∧ FR0 S w F c l ∧ w F 1 = un
section CFo
variable {S : QS} {u v w w' : QV} {T x P F l0 nm op un : Int} {ns : Nat} {β : Int → Int} {st st' : List Int} {c c' : Int → Int} {l l' i : Int}
theorem Mi.hx {Q : QV → Prop} (h : Mi S u v T x P Q w i) : S.1 x = 6 ∧ T + 5 = x ∧ (0 ≤ i ∧ i < nTk v T) ∧ w x 1 = P ∧ w x 2 = i ∧ nTk v T ≤ 1001 := by
  obtain ⟨hPS, hTR, -, -⟩ := h
  obtain ⟨p1, p2, p3, p4, p5, p6, p7, p8, p9, p10⟩ := hPS
  have h7 := p7.1
  rw [nt_q hTR] at p6 h7
  exact ⟨p2.k, p10, p6, p4, p5, by omega⟩
theorem Mi.rel (h : Mi S u v T x P (FQ S u x F st c l un) w i) (hFx : x + 3 < F) (hf : FRp S w' x F st' c' l') (hr : reF x F w w') (hk : Kp S w w') : Mi S u v T x P (FQ S u x F st' c' l' un) w' i := by
  obtain ⟨hx, h10, hi, -, h2, -⟩ := h.hx
  obtain ⟨hPS, hTR, hxx, hfr, hFR, hun⟩ := h
  have e : ∀ k, k ≠ 9 → w' x k = w x k := fun k hk => hr _ _ (fun _ => hk) (by omega) (by omega) (by omega)
  have hT : TR T w w' := fun a k h1 h2 => hr _ _ (by omega) (by omega) (by omega) (by omega)
  refine ⟨hPS.mv hk hT (e 0 (by decide)) (e 1 (by decide)) ((e 2 (by decide)).trans h2) (by rw [nt_q hTR]; exact hi), hTR.tr hT, ⟨by rw [e 3 (by decide)]; exact hxx.1, by rw [e 4 (by decide)]; exact hxx.2⟩, fun a k q1 q2 q3 q4 q5 => ?_, hf, by rw [hr _ _ (by omega) (by omega) (by omega) (by omega)]; exact hun⟩
  rw [hr a k (fun z => (q1 z).2.2.2) (fun z => (q3 z).2) q4 q5]
  exact hfr a k q1 q2 q3 q4 q5
theorem Mi.awa {s : Int} (h : Mi S u v T x P (FQ S u x F st c l un) w i) (hFx : x + 3 < F) (hlen : st.length < 60) : mX5_await [x, s] S w = some (0, vu (vu w (x + 3) st.length s) x 9 (st.length + 1)) ∧ Mi S u v T x P (FQ S u x F (s :: st) c l un) (vu (vu w (x + 3) st.length s) x 9 (st.length + 1)) i := by
  obtain ⟨hx, h10, hi, -, h2, -⟩ := h.hx
  obtain ⟨hPS, hTR, hxx, hfr, hFR, hun⟩ := h
  obtain ⟨a1, a2⟩ := q_await (s := s) hPS.2.1 hFR hFx hlen
  refine ⟨a1, (hPS.put (a := x + 3) (Or.inr (by omega)) (by rw [hPS.2.1.a3]; rfl)).mv (Kp.rf.vuc (by rw [hx]; rfl)) (TR.rf.vu (by omega)) (by rw [vu_ne (by simp)]) (by rw [vu_ne (by simp)]) (by rw [vu_ne (by simp), vu_ne (by omega)]; exact h2) ?_, (hTR.vu (by omega)).vu (by omega), ⟨by rw [vu_ne (by simp), vu_ne (by omega)]; exact hxx.1, by rw [vu_ne (by simp), vu_ne (by omega)]; exact hxx.2⟩, fun a j q1 q2 q3 q4 q5 => ?_, a2, by rw [vu_ne (by omega), vu_ne (by omega)]; exact hun⟩
  · rw [nt_5 (show vu w (x + 3) (st.length : Int) s T 5 = w T 5 from vu_ne (by omega)), nt_q hTR]; exact hi
  · rw [vu_ne (fun e => (q1 e.1).2.2.2 e.2), vu_ne (fun e => q2 e.1)]
    exact hfr a j q1 q2 q3 q4 q5
/-- waiting signs set anew: none, or one less -/
theorem Mi.wt9 {z : Int} (h : Mi S u v T x P (FQ S u x F st c l un) w i) (hFx : x + 3 < F) (hz : z = st'.length) (hs : ∀ k : Nat, k < st'.length → w (x + 3) ((st'.length : Int) - 1 - k) = st'.getD k 0) : Mi S u v T x P (FQ S u x F st' c l un) (vu w x 9 z) i := by
  obtain ⟨hx, h10, hi, -, h2, -⟩ := h.hx
  obtain ⟨hPS, hTR, hxx, hfr, ⟨f1, f2, f3, f4, f5⟩, hun⟩ := h
  have hk : Kp S w (vu w x 9 z) := Kp.rf.vuc (by rw [hx]; rfl)
  refine ⟨hPS.mv hk (TR.rf.vu (by omega)) (by rw [vu_ne (by simp)]) (by rw [vu_ne (by simp)]) (by rw [vu_ne (by simp)]; exact h2) (by rw [nt_q hTR]; exact hi), hTR.vu (by omega), ⟨by rw [vu_ne (by simp)]; exact hxx.1, by rw [vu_ne (by simp)]; exact hxx.2⟩, fun a j q1 q2 q3 q4 q5 => ?_, ⟨f1.keep hk, by rw [vu_ne (by omega)]; exact f2, fun k k0 k1 => by rw [vu_ne (by omega), vu_ne (by omega)]; exact f3 k k0 k1, by rw [vu_is]; exact hz, fun k hk => by rw [vu_ne (by omega)]; exact hs k hk⟩, by rw [vu_ne (by omega)]; exact hun⟩
  rw [vu_ne (fun e => (q1 e.1).2.2.2 e.2)]
  exact hfr a j q1 q2 q3 q4 q5
/-- a formula's codes laid so far -/
theorem Mi.wt0 (h : Mi S u v T x P (FQ0 S u x F c l un) w i) (hFx : x + 3 < F) : Mi S u v T x P (FQ S u x F [] c l un) (vu w x 9 0) i := by
  obtain ⟨hx, h10, hi, -, h2, -⟩ := h.hx
  obtain ⟨hPS, hTR, hxx, hfr, ⟨f1, f2, f3⟩, hun⟩ := h
  have hk : Kp S w (vu w x 9 0) := Kp.rf.vuc (by rw [hx]; rfl)
  refine ⟨hPS.mv hk (TR.rf.vu (by omega)) (by rw [vu_ne (by simp)]) (by rw [vu_ne (by simp)]) (by rw [vu_ne (by simp)]; exact h2) (by rw [nt_q hTR]; exact hi), hTR.vu (by omega), ⟨by rw [vu_ne (by simp)]; exact hxx.1, by rw [vu_ne (by simp)]; exact hxx.2⟩, fun a j q1 q2 q3 q4 q5 => ?_, ⟨f1.keep hk, by rw [vu_ne (by omega)]; exact f2, fun k k0 k1 => by rw [vu_ne (by omega), vu_ne (by omega)]; exact f3 k k0 k1, vu_is, fun k hk => absurd hk (Nat.not_lt_zero _)⟩, by rw [vu_ne (by omega)]; exact hun⟩
  rw [vu_ne (fun e => (q1 e.1).2.2.2 e.2)]
  exact hfr a j q1 q2 q3 q4 q5
theorem FQ0.qx (hF : x + 3 < F) (hx : S.1 x = 6) : Qx x (FQ0 S u x F c l un) := fun w k z hw hk => ⟨fun a j q1 q2 q3 q4 q5 => by
  rw [vu_ne (fun e => by have := q1 e.1; omega)]; exact hw.1 a j q1 q2 q3 q4 q5, ⟨hw.2.1.1.keep (Kp.rf.vuc (by rw [hx]; rcases hk with rfl | rfl | rfl <;> rfl)), by rw [vu_ne (by omega)]; exact hw.2.1.2.1, fun k k0 k1 => by rw [vu_ne (by omega), vu_ne (by omega)]; exact hw.2.1.2.2 k k0 k1⟩, by rw [vu_ne (by omega)]; exact hw.2.2⟩
theorem c_formula (hP : S.1 P = 7) (hP5 : u P 5 = F) (hxP : x + 3 < P) (hPF : P < F) {i0 : Int} (h : Mi S u v T x P (FQ0 S u x F c l un) w i0) (hN : NB u T x) (hβ : ∀ i r, (0 ≤ i ∧ i < nTk v T) → kdT v T i = 4 → isBe u T x i r → r = β i) (hu : 0 ≤ un ∧ un ≤ 30) (hl : 0 ≤ l ∧ l ≤ 2 * un) (hb : bOk v T β nm ns) (hend : kdT v T (nTk v T - 1) = 1) {RES : (Int × Int) × (Int → Int) × Int × Int} (hR : RES = fmG v T β (nTk v T - i0).toNat [] c l 0 un true i0) : wM mX5_formula [x] S w (fun r w' => ((stp (fKd v T 59) RES.1).1 = 0 ∧ r = 1 ∧ ∃ st', Mi S u v T x P (FQ S u x F st' RES.2.1 RES.2.2.1 RES.2.2.2) w' (stp (fKd v T 59) RES.1).2) ∨ (¬ (stp (fKd v T 59) RES.1).1 = 0 ∧ r = 0 ∧ LnC u w' T x v (stp (fKd v T 59) RES.1) 0 ∧ ffr x F u w')) := by
  have hFx : x + 3 < F := by omega
  obtain ⟨hx, h10, hi0, hx1, -, hT5⟩ := h.hx
  have hM0 := h.wt0 hFx
  have hV0 : fV [] c l 0 un (if true then 0 else 1) l nm ns := by
    refine ⟨fun s hs => absurd hs (by simp), rfl, ⟨by simp; omega, hu.2⟩, by simp only [cO, if_true]; omega, ⟨hl.1, Int.le_refl _⟩, ?_, fun j hj => by omega⟩
    rw [show (l - l).toNat = 0 by omega]
    rfl
  simp only [mX5_formula, sX5_formula, wE_I, wE_V, wE_F, wE_A, wE_N, wE_1, wE_2, wE_D, wE_B, wE_If, wE_C, wE_CV, wE_SL, wE_SA, wA_0, wA_1, wC_B, wC_E, wC_And, wC_Or, wC_Not, wS_Skip, wS_Brk, wS_Cnt, wS_RetV, wS_Ret, wS_Seq, wS_Set, wS_Inc, wS_Do, wS_Put, wS_PutC, wS_Arr, wS_ArrC, wS_If, wS_Sw, wS_F0, wS_F1, wM_q, lu_ap, aL_ap, ct_0, ct_1, ct_2, ct_3, ct_4, ct_5, headD_1, List.mem_cons, List.not_mem_nil, or_false, false_or, or_true, true_or, true_and, and_true, false_and, and_false, not_true_eq_false, not_false_eq_true, if_true, if_false, nr_20, nr_24, nr_40, nr_41, nr_44, pt_lt, pt_ge, pt_eq, pt_ne, pt_gt, pt_le, pt_E, pt_N, pt_F, ite_10, ite_11, ne_eq, and_self, or_self, decide_true, decide_false, Bool.not_true, Bool.not_false, Bool.false_eq_true, Nat.reduceEqDiff, Nat.reduceAdd, Int.reduceEq, Int.reduceLT, Int.reduceLE, Int.reduceNeg, Int.reduceAdd, Int.reduceSub, Int.reduceMul, reduceCtorEq, iA, iS, iM, iD, iR, iN, lA, lS, lM, lD, lR, hx]
  generalize vu w x 9 0 = w0 at *
  refine wS_While (fun k L w' => ∃ (st : List Int) (c : Int → Int) (l2 op un : Int) (wt : Bool) (i : Int), (L 0 = x ∧ L 1 = op ∧ L 2 = (if wt then 1 else 0) ∧ L 3 = i - i0) ∧ ((k : Int) = nTk v T - i ∧ i0 ≤ i) ∧ Mi S u v T x P (FQ S u x F st c l2 un) w' i ∧ fV st c l2 op un (if wt then 0 else 1) l nm ns ∧ RES = fmG v T β k st c l2 op un wt i) (nTk v T - i0).toNat (by omega) ?_ ?_
  · exact ⟨[], c, l, 0, un, true, i0, ⟨by simp [lu_ap, aL_ap, ct_0, ct_1, ct_2], by simp [lu_ap], by simp [lu_ap], by simp [lu_ap]⟩, by omega, hM0, hV0, hR⟩
  · clear hR hV0 hM0 hl hu h
    rintro k L w1 ⟨st, c, l2, op, un, wt, i, ⟨l0, l1, l2', l3⟩, ⟨hk, hii⟩, hM, hV, hR⟩
    obtain ⟨-, -, hi, m1, m2, -⟩ := hM.hx
    obtain ⟨k, rfl⟩ : ∃ k', k = k' + 1 := ⟨k - 1, by omega⟩
    have c3 : i - i0 ≤ 1000 := by omega
    have hkd := hM.kd
    have hQx : Qx x (FQ S u x F st c l2 un) := FQ.qx hFx hx
    have lt : k < k + 1 := Nat.lt_succ_self k
    have nk : (k : Int) = nTk v T - (i + 1) ∧ i0 ≤ i + 1 := by omega
    have n3 : i - i0 + 1 = i + 1 - i0 := by omega
    obtain ⟨v1, v2, ⟨v3, v4⟩, v5, v6, v7, v8⟩ := id hV
    have hcn := cO_n st
    have hcp := cP_n st
    have hcl := cP_len st
    cases wt with
    | true =>
      have l2t : L 2 = 1 := l2'
      simp only [fmG] at hR
      simp only [cX5_formula_1, bX5_formula_1, wE_I, wE_V, wE_F, wE_A, wE_N, wE_1, wE_2, wE_D, wE_B, wE_If, wE_C, wE_CV, wE_SL, wE_SA, wA_0, wA_1, wC_B, wC_E, wC_And, wC_Or, wC_Not, wS_Skip, wS_Brk, wS_Cnt, wS_RetV, wS_Ret, wS_Seq, wS_Set, wS_Inc, wS_Do, wS_Put, wS_PutC, wS_Arr, wS_ArrC, wS_If, wS_Sw, wS_F0, wS_F1, wM_q, lu_ap, aL_ap, ct_0, ct_1, ct_2, ct_3, ct_4, ct_5, headD_1, List.mem_cons, List.not_mem_nil, or_false, false_or, or_true, true_or, true_and, and_true, false_and, and_false, not_true_eq_false, not_false_eq_true, if_true, if_false, nr_20, nr_24, nr_40, nr_41, nr_44, pt_lt, pt_ge, pt_eq, pt_ne, pt_gt, pt_le, pt_E, pt_N, pt_F, ite_10, ite_11, ne_eq, and_self, or_self, decide_true, decide_false, Bool.not_true, Bool.not_false, Bool.false_eq_true, Nat.reduceEqDiff, Nat.reduceAdd, Int.reduceEq, Int.reduceLT, Int.reduceLE, Int.reduceNeg, Int.reduceAdd, Int.reduceSub, Int.reduceMul, reduceCtorEq, iA, iS, iM, iD, iR, iN, lA, lS, lM, lD, lR, l0, l1, l2t, l3, c3, hx, wM_of hkd]
      refine wM_mono (c_unit hP hP5 hxP hPF hM hN (fun r a b => hβ i r hi a b) hV hb) ?_
      rintro r w2 e (⟨g0, rfl, hA, hB⟩ | ⟨g0, rfl, hC, hD⟩)
      · rw [if_pos g0] at hR
        obtain ⟨gk, gu, go⟩ := fUn_0 g0
        have hk1 : kdT v T i ≠ 1 := by omega
        by_cases k40 : kdT v T i = 40
        · rw [if_pos k40] at hR
          have hM2 := hA k40
          have t2 : w2 x 2 = i := hM2.tok
          have hnx := (hM2.nx (FQ.qx hFx hx) hk1).1
          have hV2 := fV.opn hV gu
          have e1 : w32 (op + 1) = op + 1 := w32_e (by omega)
          have e2 : w32 (i + 1) = i + 1 := by clear e1; exact w32_e (by omega)
          have e3 : w32 (i - i0 + 1) = i - i0 + 1 := by clear e1 e2; exact w32_e (by omega)
          simp only [uX5_formula_1, wE_I, wE_V, wE_F, wE_A, wE_N, wE_1, wE_2, wE_D, wE_B, wE_If, wE_C, wE_CV, wE_SL, wE_SA, wA_0, wA_1, wC_B, wC_E, wC_And, wC_Or, wC_Not, wS_Skip, wS_Brk, wS_Cnt, wS_RetV, wS_Ret, wS_Seq, wS_Set, wS_Inc, wS_Do, wS_Put, wS_PutC, wS_Arr, wS_ArrC, wS_If, wS_Sw, wS_F0, wS_F1, wM_q, lu_ap, aL_ap, ct_0, ct_1, ct_2, ct_3, ct_4, ct_5, headD_1, List.mem_cons, List.not_mem_nil, or_false, false_or, or_true, true_or, true_and, and_true, false_and, and_false, not_true_eq_false, not_false_eq_true, if_true, if_false, nr_20, nr_24, nr_40, nr_41, nr_44, pt_lt, pt_ge, pt_eq, pt_ne, pt_gt, pt_le, pt_E, pt_N, pt_F, ite_10, ite_11, ne_eq, and_self, or_self, decide_true, decide_false, Bool.not_true, Bool.not_false, Bool.false_eq_true, Nat.reduceEqDiff, Nat.reduceAdd, Int.reduceEq, Int.reduceLT, Int.reduceLE, Int.reduceNeg, Int.reduceAdd, Int.reduceSub, Int.reduceMul, reduceCtorEq, l0, l1, l2t, l3, hx, k40, t2, e1, e2, e3]
          clear e1 e2 e3
          exact ⟨k, lt, _, _, _, _, _, true, i + 1, ⟨rfl, rfl, n3⟩, nk, hnx, hV2, hR⟩
        · rw [if_neg k40] at hR
          have hM2 := hB k40
          have t2 : w2 x 2 = i := hM2.tok
          have hnx := (hM2.nx (FQ.qx hFx hx) hk1).1
          have hV2 : fV st (fu c l2 (cdU v T β i)) (l2 + 1) op (un + 1) 1 l nm ns := fV.cd hV gu (cdU_b hb hi g0 k40)
          have e1 : w32 op = op := w32_e (by omega)
          have e2 : w32 (i + 1) = i + 1 := by clear e1; exact w32_e (by omega)
          have e3 : w32 (i - i0 + 1) = i - i0 + 1 := by clear e1 e2; exact w32_e (by omega)
          simp only [uX5_formula_1, wE_I, wE_V, wE_F, wE_A, wE_N, wE_1, wE_2, wE_D, wE_B, wE_If, wE_C, wE_CV, wE_SL, wE_SA, wA_0, wA_1, wC_B, wC_E, wC_And, wC_Or, wC_Not, wS_Skip, wS_Brk, wS_Cnt, wS_RetV, wS_Ret, wS_Seq, wS_Set, wS_Inc, wS_Do, wS_Put, wS_PutC, wS_Arr, wS_ArrC, wS_If, wS_Sw, wS_F0, wS_F1, wM_q, lu_ap, aL_ap, ct_0, ct_1, ct_2, ct_3, ct_4, ct_5, headD_1, List.mem_cons, List.not_mem_nil, or_false, false_or, or_true, true_or, true_and, and_true, false_and, and_false, not_true_eq_false, not_false_eq_true, if_true, if_false, nr_20, nr_24, nr_40, nr_41, nr_44, pt_lt, pt_ge, pt_eq, pt_ne, pt_gt, pt_le, pt_E, pt_N, pt_F, ite_10, ite_11, ne_eq, and_self, or_self, decide_true, decide_false, Bool.not_true, Bool.not_false, Bool.false_eq_true, Nat.reduceEqDiff, Nat.reduceAdd, Int.reduceEq, Int.reduceLT, Int.reduceLE, Int.reduceNeg, Int.reduceAdd, Int.reduceSub, Int.reduceMul, reduceCtorEq, l0, l1, l2t, l3, hx, k40, t2, e1, e2, e3, Int.add_zero]
          clear e1 e2 e3
          exact ⟨k, lt, _, _, _, _, _, false, i + 1, ⟨rfl, rfl, n3⟩, nk, hnx, hV2, hR⟩
      · rw [if_neg g0] at hR
        subst hR
        rw [stp_d (by exact g0)]
        simp only [wE_I, wE_V, wE_F, wE_A, wE_N, wE_1, wE_2, wE_D, wE_B, wE_If, wE_C, wE_CV, wE_SL, wE_SA, wA_0, wA_1, wC_B, wC_E, wC_And, wC_Or, wC_Not, wS_Skip, wS_Brk, wS_Cnt, wS_RetV, wS_Ret, wS_Seq, wS_Set, wS_Inc, wS_Do, wS_Put, wS_PutC, wS_Arr, wS_ArrC, wS_If, wS_Sw, wS_F0, wS_F1, wM_q, lu_ap, aL_ap, ct_0, ct_1, ct_2, ct_3, ct_4, ct_5, headD_1, List.mem_cons, List.not_mem_nil, or_false, false_or, or_true, true_or, true_and, and_true, false_and, and_false, not_true_eq_false, not_false_eq_true, if_true, if_false, nr_20, nr_24, nr_40, nr_41, nr_44, pt_lt, pt_ge, pt_eq, pt_ne, pt_gt, pt_le, pt_E, pt_N, pt_F, ite_10, ite_11, ne_eq, and_self, or_self, decide_true, decide_false, Bool.not_true, Bool.not_false, Bool.false_eq_true, Nat.reduceEqDiff, Nat.reduceAdd, Int.reduceEq, Int.reduceLT, Int.reduceLE, Int.reduceNeg, Int.reduceAdd, Int.reduceSub, Int.reduceMul, reduceCtorEq, g0]
        exact ⟨hC, hD⟩
    | false =>
      have l2f : L 2 = 0 := l2'
      simp only [fmG] at hR
      have hrk := fun u : QV => q_rank (S := S) (w := u) (s := kdT v T i)
      have hlen : st.length < 60 := by simp at v3; omega
      have hbo : 0 ≤ l2 ∧ l2 + cO st ≤ 60 := by simp at v5; omega
      have p5 : w1 P 5 = F := by rw [hM.2.2.2.1 _ _ (by omega) (by omega) (by omega) (by omega) (by omega)]; exact hP5
      have hrl := fun r (hr : 0 < r) => c_release (r := r) hM.1.2.1 m1 hP p5 hxP hPF hM.2.2.2.2.1 hr hbo.1 hbo.2 hlen
      by_cases c0 : 0 < rkS (kdT v T i)
      · rw [if_pos c0] at hR
        obtain ⟨g1, g2, g3, g4⟩ := fRl_v c0 _ _ _ hV
        simp only [cX5_formula_1, bX5_formula_1, wE_I, wE_V, wE_F, wE_A, wE_N, wE_1, wE_2, wE_D, wE_B, wE_If, wE_C, wE_CV, wE_SL, wE_SA, wA_0, wA_1, wC_B, wC_E, wC_And, wC_Or, wC_Not, wS_Skip, wS_Brk, wS_Cnt, wS_RetV, wS_Ret, wS_Seq, wS_Set, wS_Inc, wS_Do, wS_Put, wS_PutC, wS_Arr, wS_ArrC, wS_If, wS_Sw, wS_F0, wS_F1, wM_q, lu_ap, aL_ap, ct_0, ct_1, ct_2, ct_3, ct_4, ct_5, headD_1, List.mem_cons, List.not_mem_nil, or_false, false_or, or_true, true_or, true_and, and_true, false_and, and_false, not_true_eq_false, not_false_eq_true, if_true, if_false, nr_20, nr_24, nr_40, nr_41, nr_44, pt_lt, pt_ge, pt_eq, pt_ne, pt_gt, pt_le, pt_E, pt_N, pt_F, ite_10, ite_11, ne_eq, and_self, or_self, decide_true, decide_false, Bool.not_true, Bool.not_false, Bool.false_eq_true, Nat.reduceEqDiff, Nat.reduceAdd, Int.reduceEq, Int.reduceLT, Int.reduceLE, Int.reduceNeg, Int.reduceAdd, Int.reduceSub, Int.reduceMul, reduceCtorEq, iA, iS, iM, iD, iR, iN, lA, lS, lM, lD, lR, l0, l1, l2f, l3, c3, hx, wM_of hkd, wM_of (hrk _), c0]
        refine wM_mono (hrl _ c0) ?_
        rintro r w2 e ⟨r1, r2, r3⟩
        have hM2 := hM.rel hFx r1 r2 r3
        generalize fRl (rkS (kdT v T i)) st c l2 = q at *
        obtain ⟨q1, q2, q3⟩ := q
        dsimp only at *
        obtain ⟨a1, hM3⟩ := hM2.awa (s := kdT v T i) hFx (by have := g1.2.2.1; omega)
        have t2 := hM3.tok
        have hnx := (hM3.nx (FQ.qx hFx hx) (rk_1 c0)).1
        have hV2 := fV.bi g1 (rkS_p.mp c0)
        have e2 : w32 (i + 1) = i + 1 := w32_e (by omega)
        have e3 : w32 (i - i0 + 1) = i - i0 + 1 := by clear e2; exact w32_e (by omega)
        simp only [uX5_formula_1, wE_I, wE_V, wE_F, wE_A, wE_N, wE_1, wE_2, wE_D, wE_B, wE_If, wE_C, wE_CV, wE_SL, wE_SA, wA_0, wA_1, wC_B, wC_E, wC_And, wC_Or, wC_Not, wS_Skip, wS_Brk, wS_Cnt, wS_RetV, wS_Ret, wS_Seq, wS_Set, wS_Inc, wS_Do, wS_Put, wS_PutC, wS_Arr, wS_ArrC, wS_If, wS_Sw, wS_F0, wS_F1, wM_q, lu_ap, aL_ap, ct_0, ct_1, ct_2, ct_3, ct_4, ct_5, headD_1, List.mem_cons, List.not_mem_nil, or_false, false_or, or_true, true_or, true_and, and_true, false_and, and_false, not_true_eq_false, not_false_eq_true, if_true, if_false, nr_20, nr_24, nr_40, nr_41, nr_44, pt_lt, pt_ge, pt_eq, pt_ne, pt_gt, pt_le, pt_E, pt_N, pt_F, ite_10, ite_11, ne_eq, and_self, or_self, decide_true, decide_false, Bool.not_true, Bool.not_false, Bool.false_eq_true, Nat.reduceEqDiff, Nat.reduceAdd, Int.reduceEq, Int.reduceLT, Int.reduceLE, Int.reduceNeg, Int.reduceAdd, Int.reduceSub, Int.reduceMul, reduceCtorEq, l0, l1, l2f, l3, hx, wM_of a1, t2, e2, e3]
        clear e2 e3
        exact ⟨k, lt, _, _, _, _, _, true, i + 1, ⟨rfl, rfl, n3⟩, nk, hnx, hV2, hR⟩
      · rw [if_neg c0] at hR
        obtain ⟨g1, g2, g3, g4⟩ := fRl_v (show (0 : Int) < 1 by decide) _ _ _ hV
        have g4 := g4 rfl
        by_cases c1 : kdT v T i = 41 ∧ 0 < op
        · rw [if_pos c1] at hR
          have hr41 : ∀ u : QV, mX5_rank [41] S u = some (0, u) := fun u => q_rank
          have n0 : ¬ (0 : Int) < 0 := by decide
          simp only [cX5_formula_1, bX5_formula_1, wE_I, wE_V, wE_F, wE_A, wE_N, wE_1, wE_2, wE_D, wE_B, wE_If, wE_C, wE_CV, wE_SL, wE_SA, wA_0, wA_1, wC_B, wC_E, wC_And, wC_Or, wC_Not, wS_Skip, wS_Brk, wS_Cnt, wS_RetV, wS_Ret, wS_Seq, wS_Set, wS_Inc, wS_Do, wS_Put, wS_PutC, wS_Arr, wS_ArrC, wS_If, wS_Sw, wS_F0, wS_F1, wM_q, lu_ap, aL_ap, ct_0, ct_1, ct_2, ct_3, ct_4, ct_5, headD_1, List.mem_cons, List.not_mem_nil, or_false, false_or, or_true, true_or, true_and, and_true, false_and, and_false, not_true_eq_false, not_false_eq_true, if_true, if_false, nr_20, nr_24, nr_40, nr_41, nr_44, pt_lt, pt_ge, pt_eq, pt_ne, pt_gt, pt_le, pt_E, pt_N, pt_F, ite_10, ite_11, ne_eq, and_self, or_self, decide_true, decide_false, Bool.not_true, Bool.not_false, Bool.false_eq_true, Nat.reduceEqDiff, Nat.reduceAdd, Int.reduceEq, Int.reduceLT, Int.reduceLE, Int.reduceNeg, Int.reduceAdd, Int.reduceSub, Int.reduceMul, reduceCtorEq, iA, iS, iM, iD, iR, iN, lA, lS, lM, lD, lR, l0, l1, l2f, l3, c3, hx, wM_of hkd, wM_of (hr41 _), n0, c1]
          refine wM_mono (hrl 1 (by decide)) ?_
          rintro r w2 e ⟨r1, r2, r3⟩
          have hM2 := hM.rel hFx r1 r2 r3
          generalize fRl 1 st c l2 = q at *
          obtain ⟨q1, q2, q3⟩ := q
          dsimp only at *
          have hne : ∃ t, q1 = 40 :: t := by
            rcases g4 with a | a
            · subst a
              have := g1.2.1
              simp only [cP] at this
              omega
            · exact a
          obtain ⟨t, rfl⟩ := hne
          rw [List.tail_cons] at hR
          obtain ⟨f1, f2, f3, f4, f5⟩ := id hM2.2.2.2.2.1
          simp only [List.length_cons] at f4 f5
          have hglen := g1.2.2.1
          simp only [List.length_cons] at hglen
          have hM3 := hM2.wt9 (st' := t) (z := (t.length : Int)) hFx rfl (fun k hk => by
            have := f5 (k + 1) (by omega)
            rw [show ((t.length + 1 : Nat) : Int) - 1 - ((k + 1 : Nat) : Int) = (t.length : Int) - 1 - k by omega] at this
            exact this)
          have t2 := hM3.tok
          have hnx := (hM3.nx (FQ.qx hFx hx) (by omega)).1
          have hV2 := fV.cl g1
          have e1 : w32 (((t.length + 1 : Nat) : Int) - 1) = t.length := by rw [w32_e (by omega)]; omega
          have e2 : w32 (i + 1) = i + 1 := by clear e1; exact w32_e (by omega)
          have e3 : w32 (i - i0 + 1) = i - i0 + 1 := by clear e1 e2; exact w32_e (by omega)
          have e4 : w32 (op + -1) = op - 1 := by clear e1 e2 e3; rw [w32_e (by omega)]; omega
          simp only [uX5_formula_1, wE_I, wE_V, wE_F, wE_A, wE_N, wE_1, wE_2, wE_D, wE_B, wE_If, wE_C, wE_CV, wE_SL, wE_SA, wA_0, wA_1, wC_B, wC_E, wC_And, wC_Or, wC_Not, wS_Skip, wS_Brk, wS_Cnt, wS_RetV, wS_Ret, wS_Seq, wS_Set, wS_Inc, wS_Do, wS_Put, wS_PutC, wS_Arr, wS_ArrC, wS_If, wS_Sw, wS_F0, wS_F1, wM_q, lu_ap, aL_ap, ct_0, ct_1, ct_2, ct_3, ct_4, ct_5, headD_1, List.mem_cons, List.not_mem_nil, or_false, false_or, or_true, true_or, true_and, and_true, false_and, and_false, not_true_eq_false, not_false_eq_true, if_true, if_false, nr_20, nr_24, nr_40, nr_41, nr_44, pt_lt, pt_ge, pt_eq, pt_ne, pt_gt, pt_le, pt_E, pt_N, pt_F, ite_10, ite_11, ne_eq, and_self, or_self, decide_true, decide_false, Bool.not_true, Bool.not_false, Bool.false_eq_true, Nat.reduceEqDiff, Nat.reduceAdd, Int.reduceEq, Int.reduceLT, Int.reduceLE, Int.reduceNeg, Int.reduceAdd, Int.reduceSub, Int.reduceMul, reduceCtorEq, l0, l1, l2f, l3, hx, f4, e1, t2, e2, e3, e4]
          clear e1 e2 e3 e4
          exact ⟨k, lt, _, _, _, _, _, false, i + 1, ⟨rfl, rfl, n3⟩, nk, hnx, hV2, hR⟩
        · rw [if_neg c1] at hR
          have c1' : ¬ (kdT v T i = 41 ∧ 0 < op) := c1
          have hgo : wM mX5_release [x, 1] S w1 (fun _ w2 => if op = 0 then wM mX5_take [x, 59] S w2 (fun r w' => ((stp (fKd v T 59) RES.1).1 = 0 ∧ r = 1 ∧ ∃ st', Mi S u v T x P (FQ S u x F st' RES.2.1 RES.2.2.1 RES.2.2.2) w' (stp (fKd v T 59) RES.1).2) ∨ (¬ (stp (fKd v T 59) RES.1).1 = 0 ∧ r = 0 ∧ LnC u w' T x v (stp (fKd v T 59) RES.1) 0 ∧ ffr x F u w')) else wM mX5_fail [x, 1] S w2 (fun r w' => ((stp (fKd v T 59) RES.1).1 = 0 ∧ r = 1 ∧ ∃ st', Mi S u v T x P (FQ S u x F st' RES.2.1 RES.2.2.1 RES.2.2.2) w' (stp (fKd v T 59) RES.1).2) ∨ (¬ (stp (fKd v T 59) RES.1).1 = 0 ∧ r = 0 ∧ LnC u w' T x v (stp (fKd v T 59) RES.1) 0 ∧ ffr x F u w'))) := by
            refine wM_mono (hrl 1 (by decide)) ?_
            rintro r w2 e ⟨r1, r2, r3⟩
            have hM2 := hM.rel hFx r1 r2 r3
            by_cases c2 : op = 0
            · rw [if_pos c2]
              rw [if_neg (show ¬ 0 < op by omega)] at hR
              subst hR
              refine wM_mono (hM2.tak (FQ.qx hFx hx) (k := 59) (by decide)) ?_
              rintro r w3 e (⟨g, rfl, hm⟩ | ⟨g, rfl, hln, hq⟩)
              · rw [stp_00 g]
                exact Or.inl ⟨rfl, rfl, _, hm⟩
              · rw [stp_0f g]
                exact Or.inr ⟨g, rfl, hln, hq.1⟩
            · rw [if_neg c2]
              rw [if_pos (show 0 < op by omega)] at hR
              subst hR
              obtain ⟨b1, b2⟩ := hM2.fail (FQ.qx hFx hx) (f := 1) (by decide)
              rw [wM_of hM2.fl, stp_d (show ¬ (1 : Int) = 0 by decide)]
              exact Or.inr ⟨show ¬ (1 : Int) = 0 by decide, rfl, b1, b2.1⟩
          by_cases c2 : op = 0
          · simp only [c2, if_true] at hgo
            have n0 : ¬ (0 : Int) < 0 := by decide
            rw [c2] at l1
            by_cases k41 : kdT v T i = 41
            · have hr41 : ∀ u : QV, mX5_rank [41] S u = some (0, u) := fun u => q_rank
              simp only [cX5_formula_1, bX5_formula_1, wE_I, wE_V, wE_F, wE_A, wE_N, wE_1, wE_2, wE_D, wE_B, wE_If, wE_C, wE_CV, wE_SL, wE_SA, wA_0, wA_1, wC_B, wC_E, wC_And, wC_Or, wC_Not, wS_Skip, wS_Brk, wS_Cnt, wS_RetV, wS_Ret, wS_Seq, wS_Set, wS_Inc, wS_Do, wS_Put, wS_PutC, wS_Arr, wS_ArrC, wS_If, wS_Sw, wS_F0, wS_F1, wM_q, lu_ap, aL_ap, ct_0, ct_1, ct_2, ct_3, ct_4, ct_5, headD_1, List.mem_cons, List.not_mem_nil, or_false, false_or, or_true, true_or, true_and, and_true, false_and, and_false, not_true_eq_false, not_false_eq_true, if_true, if_false, nr_20, nr_24, nr_40, nr_41, nr_44, pt_lt, pt_ge, pt_eq, pt_ne, pt_gt, pt_le, pt_E, pt_N, pt_F, ite_10, ite_11, ne_eq, and_self, or_self, decide_true, decide_false, Bool.not_true, Bool.not_false, Bool.false_eq_true, Nat.reduceEqDiff, Nat.reduceAdd, Int.reduceEq, Int.reduceLT, Int.reduceLE, Int.reduceNeg, Int.reduceAdd, Int.reduceSub, Int.reduceMul, reduceCtorEq, iA, iS, iM, iD, iR, iN, lA, lS, lM, lD, lR, l0, l1, l2f, l3, c3, hx, wM_of hkd, wM_of (hr41 _), k41, n0]
              exact hgo
            · simp only [cX5_formula_1, bX5_formula_1, wE_I, wE_V, wE_F, wE_A, wE_N, wE_1, wE_2, wE_D, wE_B, wE_If, wE_C, wE_CV, wE_SL, wE_SA, wA_0, wA_1, wC_B, wC_E, wC_And, wC_Or, wC_Not, wS_Skip, wS_Brk, wS_Cnt, wS_RetV, wS_Ret, wS_Seq, wS_Set, wS_Inc, wS_Do, wS_Put, wS_PutC, wS_Arr, wS_ArrC, wS_If, wS_Sw, wS_F0, wS_F1, wM_q, lu_ap, aL_ap, ct_0, ct_1, ct_2, ct_3, ct_4, ct_5, headD_1, List.mem_cons, List.not_mem_nil, or_false, false_or, or_true, true_or, true_and, and_true, false_and, and_false, not_true_eq_false, not_false_eq_true, if_true, if_false, nr_20, nr_24, nr_40, nr_41, nr_44, pt_lt, pt_ge, pt_eq, pt_ne, pt_gt, pt_le, pt_E, pt_N, pt_F, ite_10, ite_11, ne_eq, and_self, or_self, decide_true, decide_false, Bool.not_true, Bool.not_false, Bool.false_eq_true, Nat.reduceEqDiff, Nat.reduceAdd, Int.reduceEq, Int.reduceLT, Int.reduceLE, Int.reduceNeg, Int.reduceAdd, Int.reduceSub, Int.reduceMul, reduceCtorEq, iA, iS, iM, iD, iR, iN, lA, lS, lM, lD, lR, l0, l1, l2f, l3, c3, hx, wM_of hkd, wM_of (hrk _), c0, k41]
              exact hgo
          · have k41 : ¬ kdT v T i = 41 := fun z => c1 ⟨z, by omega⟩
            simp only [c2, if_false] at hgo
            simp only [cX5_formula_1, bX5_formula_1, wE_I, wE_V, wE_F, wE_A, wE_N, wE_1, wE_2, wE_D, wE_B, wE_If, wE_C, wE_CV, wE_SL, wE_SA, wA_0, wA_1, wC_B, wC_E, wC_And, wC_Or, wC_Not, wS_Skip, wS_Brk, wS_Cnt, wS_RetV, wS_Ret, wS_Seq, wS_Set, wS_Inc, wS_Do, wS_Put, wS_PutC, wS_Arr, wS_ArrC, wS_If, wS_Sw, wS_F0, wS_F1, wM_q, lu_ap, aL_ap, ct_0, ct_1, ct_2, ct_3, ct_4, ct_5, headD_1, List.mem_cons, List.not_mem_nil, or_false, false_or, or_true, true_or, true_and, and_true, false_and, and_false, not_true_eq_false, not_false_eq_true, if_true, if_false, nr_20, nr_24, nr_40, nr_41, nr_44, pt_lt, pt_ge, pt_eq, pt_ne, pt_gt, pt_le, pt_E, pt_N, pt_F, ite_10, ite_11, ne_eq, and_self, or_self, decide_true, decide_false, Bool.not_true, Bool.not_false, Bool.false_eq_true, Nat.reduceEqDiff, Nat.reduceAdd, Int.reduceEq, Int.reduceLT, Int.reduceLE, Int.reduceNeg, Int.reduceAdd, Int.reduceSub, Int.reduceMul, reduceCtorEq, iA, iS, iM, iD, iR, iN, lA, lS, lM, lD, lR, l0, l1, l2f, l3, c3, hx, wM_of hkd, wM_of (hrk _), c0, k41, c2]
            exact hgo
end CFo
