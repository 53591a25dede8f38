/-! STORE: signs laid, both sides -/
def cO : List Int → Int
  | [] => 0
  | s :: st => (if 0 < rkS s then 1 else 0) + cO st
theorem cO_n : ∀ st : List Int, 0 ≤ cO st
  | [] => Int.le_refl _
  | s :: st => by
    have := cO_n st
    simp only [cO]
    split <;> omega
def reF (x F : Int) (u w : QV) : Prop := ∀ a k, (a = x → k ≠ 9) → (a = F → k ≠ 2) → a ≠ F + 1 → a ≠ F + 2 → w a k = u a k
def sOk (st : List Int) : Prop := ∀ s, s ∈ st → isOp s ∨ s = 40
/-- the reference's codes and waiting signs -/
def MRp (w : QV) (M B : Int) (st : List Int) (c : Int → Int) (l : Int) : Prop := w M 44 = st.length ∧ (∀ k : Nat, k < st.length → w (M + 31) ((st.length : Int) - 1 - k) = cvS (st.getD k 0)) ∧ w (M + 7) B = l ∧ ∀ k, 0 ≤ k → k < l → w (M + 24) (100 * B + k) = c k
def meG (M B l0 : Int) (u w : QV) : Prop := ∀ a k, (a = M → k ≠ 44) → a ≠ M + 31 → (a = M + 7 → k ≠ B) → (a = M + 24 → k < 100 * B + l0 ∨ 100 * B + 100 ≤ k) → w a k = u a k
section RL
variable {S : QS} {v w u : QV} {M T n x P F B : Int}
theorem c_release {r : Int} {st : List Int} {c : Int → Int} {l : Int} (hx : LPs S w x) (h1 : w x 1 = P) (hP : S.1 P = 7) (hP5 : w P 5 = F) (hxP : x + 3 < P) (hPF : P < F) (h : FRp S w x F st c l) (hr : 0 < r) (hl : 0 ≤ l) (hb : l + cO st ≤ 60) (hlen : st.length < 60) : wM mX5_release [x, r] S w (fun _ w' => FRp S w' x F (fRl r st c l).1 (fRl r st c l).2.1 (fRl r st c l).2.2 ∧ reF x F w w' ∧ Kp S w w') := by
  simp only [mX5_release, sX5_release, wE_I, wE_V, wE_F, wE_A, wE_N, wE_1, wE_2, wE_D, wE_B, wE_If, wE_C, wE_CV, wE_SL, wE_SA, wA_0, wA_1, wC_B, wC_E, wC_And, wC_Or, wC_Not, wS_Skip, wS_Brk, wS_Cnt, wS_RetV, wS_Ret, wS_Seq, wS_Set, wS_Inc, wS_Do, wS_Put, wS_PutC, wS_Arr, wS_ArrC, wS_If, wS_Sw, wS_F0, wS_F1, wM_q, lu_ap, aL_ap, ct_0, ct_1, ct_2, ct_3, ct_4, ct_5, headD_1, List.mem_cons, List.not_mem_nil, or_false, false_or, or_true, true_or, true_and, and_true, false_and, and_false, not_true_eq_false, not_false_eq_true, if_true, if_false, nr_20, nr_24, nr_40, nr_41, nr_44, pt_lt, pt_ge, pt_eq, pt_ne, pt_gt, pt_le, pt_E, pt_N, pt_F, ite_10, ite_11, ne_eq, and_self, or_self, decide_true, decide_false, Bool.not_true, Bool.not_false, Bool.false_eq_true, Nat.reduceEqDiff, Nat.reduceAdd, Int.reduceEq, Int.reduceLT, Int.reduceLE, Int.reduceNeg, Int.reduceAdd, Int.reduceSub, Int.reduceMul, reduceCtorEq, iA, iS, iM, iD, iR, iN, lA, lS, lM, lD, lR]
  refine wS_While (fun k L w' => ∃ (st' : List Int) (c' : Int → Int) (l' : Int), (L 0 = x ∧ L 1 = r) ∧ FRp S w' x F st' c' l' ∧ fRl r st c l = fRl r st' c' l' ∧ (k = st'.length ∧ 0 ≤ l' ∧ l' + cO st' ≤ 60 ∧ st'.length < 60) ∧ reF x F w w' ∧ Kp S w w') st.length (by omega) ?_ ?_
  · exact ⟨st, c, l, ⟨by simp [lu_ap, aL_ap, ct_0, ct_1, ct_2], by simp [lu_ap, aL_ap, ct_0, ct_1, ct_2]⟩, h, rfl, ⟨rfl, hl, hb, hlen⟩, fun _ _ _ _ _ _ => rfl, Kp.rf⟩
  · rintro k L w' ⟨st', c', l', ⟨l0, l1⟩, hF, hE, ⟨hk, hl', hb', hlen'⟩, hre, hkp⟩
    have hx' := hx.keep hkp
    obtain ⟨f1, f2, f3, f4, f5⟩ := id hF
    cases st' with
    | nil =>
      have n0 : ¬ (0 : Int) < 0 := by decide
      have f40 : w' x 9 = 0 := f4
      simp only [cX5_release_1, wE_I, wE_V, wE_F, wE_A, wE_N, wE_1, wE_2, wE_D, wE_B, wE_If, wE_C, wE_CV, wE_SL, wE_SA, wA_0, wA_1, wC_B, wC_E, wC_And, wC_Or, wC_Not, wS_Skip, wS_Brk, wS_Cnt, wS_RetV, wS_Ret, wS_Seq, wS_Set, wS_Inc, wS_Do, wS_Put, wS_PutC, wS_Arr, wS_ArrC, wS_If, wS_Sw, wS_F0, wS_F1, wM_q, lu_ap, aL_ap, ct_0, ct_1, ct_2, ct_3, ct_4, ct_5, headD_1, List.mem_cons, List.not_mem_nil, or_false, false_or, or_true, true_or, true_and, and_true, false_and, and_false, not_true_eq_false, not_false_eq_true, if_true, if_false, nr_20, nr_24, nr_40, nr_41, nr_44, pt_lt, pt_ge, pt_eq, pt_ne, pt_gt, pt_le, pt_E, pt_N, pt_F, ite_10, ite_11, ne_eq, and_self, or_self, decide_true, decide_false, Bool.not_true, Bool.not_false, Bool.false_eq_true, Nat.reduceEqDiff, Nat.reduceAdd, Int.reduceEq, Int.reduceLT, Int.reduceLE, Int.reduceNeg, Int.reduceAdd, Int.reduceSub, Int.reduceMul, reduceCtorEq, iA, iS, iM, iD, iR, iN, lA, lS, lM, lD, lR, l0, hx'.k, f40, n0]
      rw [hE]
      exact ⟨hF, hre, hkp⟩
    | cons s st' =>
      simp only [List.length_cons] at f4 hk hlen' f5
      have hpos : 0 < w' x 9 := by omega
      have hpos' : (0 : Int) < ((st'.length + 1 : Nat) : Int) := by omega
      have htop := f5 0 (by omega)
      rw [show ((st'.length + 1 : Nat) : Int) - 1 - ((0 : Nat) : Int) = st'.length by omega] at htop
      have htop' : w' (x + 3) (st'.length : Int) = s := htop
      have o1 : 0 ≤ (st'.length : Int) ∧ (st'.length : Int) < 60 := by omega
      have hrk := fun u : QV => q_rank (S := S) (w := u) (s := s)
      by_cases c1 : r ≤ rkS s
      · have hop := rkS_p.mp (show 0 < rkS s by omega)
        have hcO : cO (s :: st') = 1 + cO st' := by
          simp only [cO]
          rw [if_pos (by omega)]
        rw [hcO] at hb'
        have hn := cO_n st'
        -- one sign laid
        have hw1 : FRp S (vu w' x 9 (st'.length : Int)) x F st' c' l' := by
          refine ⟨f1.keep (Kp.rf.vuc (by rw [hx'.k]; rfl)), by rw [vu_ne (by omega)]; exact f2, fun k k0 k1 => by rw [vu_ne (by omega), vu_ne (by omega)]; exact f3 k k0 k1, vu_is, fun k hk => ?_⟩
          rw [vu_ne (by omega)]
          have := f5 (k + 1) (by omega)
          rw [show ((st'.length + 1 : Nat) : Int) - 1 - ((k + 1 : Nat) : Int) = (st'.length : Int) - 1 - k by omega] at this
          exact this
        have k1 : Kp S w (vu w' x 9 (st'.length : Int)) := hkp.vuc (by rw [hx'.k]; rfl)
        have g1 : reF x F w (vu w' x 9 (st'.length : Int)) := fun a k q1 q2 q3 q4 => by rw [vu_ne (fun e => q1 e.1 e.2)]; exact hre a k q1 q2 q3 q4
        have t1 : vu w' x 9 (st'.length : Int) (x + 3) (st'.length : Int) = s := by rw [vu_ne (by omega)]; exact htop'
        have t2 : vu w' x 9 (st'.length : Int) x 1 = P := by rw [vu_ne (by simp), hre _ _ (by omega) (by omega) (by omega) (by omega)]; exact h1
        have t3 : vu w' x 9 (st'.length : Int) P 5 = F := by rw [vu_ne (by omega), hre _ _ (by omega) (by omega) (by omega) (by omega)]; exact hP5
        have hx1 := hx.keep k1
        have t9 : vu w' x 9 (st'.length : Int) x 9 = st'.length := vu_is
        have hpt := q_put (S := S) (a := s) (b := 0) hw1.1 hw1.2.1 ⟨hl', by omega⟩
        have hpf := hw1.put (a := s) (b := 0) (z := cvS s) (by omega) hl' (crel_op hop)
        have kp2 := k1.tr (Kc.of kX1_put hpt).p
        have g2 : reF x F w (vu (vu (vu (vu w' x 9 (st'.length : Int)) (F + 1) l' s) (F + 2) l' 0) F 2 (l' + 1)) := fun a k q1 q2 q3 q4 => by
          rw [vu_ne (fun e => q2 e.1 e.2), vu_ne (fun e => q4 e.1), vu_ne (fun e => q3 e.1)]; exact g1 a k q1 q2 q3 q4
        have hE2 : fRl r st c l = fRl r st' (fu c' l' (cvS s)) (l' + 1) := by
          rw [hE]
          simp only [fRl]
          rw [if_pos c1]
        have e1 : w32 (((st'.length + 1 : Nat) : Int) - 1) = st'.length := by rw [w32_e (by omega)]; omega
        simp only [cX5_release_1, bX5_release_1, uX5_release_1, wE_I, wE_V, wE_F, wE_A, wE_N, wE_1, wE_2, wE_D, wE_B, wE_If, wE_C, wE_CV, wE_SL, wE_SA, wA_0, wA_1, wC_B, wC_E, wC_And, wC_Or, wC_Not, wS_Skip, wS_Brk, wS_Cnt, wS_RetV, wS_Ret, wS_Seq, wS_Set, wS_Inc, wS_Do, wS_Put, wS_PutC, wS_Arr, wS_ArrC, wS_If, wS_Sw, wS_F0, wS_F1, wM_q, lu_ap, aL_ap, ct_0, ct_1, ct_2, ct_3, ct_4, ct_5, headD_1, List.mem_cons, List.not_mem_nil, or_false, false_or, or_true, true_or, true_and, and_true, false_and, and_false, not_true_eq_false, not_false_eq_true, if_true, if_false, nr_20, nr_24, nr_40, nr_41, nr_44, pt_lt, pt_ge, pt_eq, pt_ne, pt_gt, pt_le, pt_E, pt_N, pt_F, ite_10, ite_11, ne_eq, and_self, or_self, decide_true, decide_false, Bool.not_true, Bool.not_false, Bool.false_eq_true, Nat.reduceEqDiff, Nat.reduceAdd, Int.reduceEq, Int.reduceLT, Int.reduceLE, Int.reduceNeg, Int.reduceAdd, Int.reduceSub, Int.reduceMul, reduceCtorEq, iA, iS, iM, iD, iR, iN, lA, lS, lM, lD, lR, l0, l1, hx'.k, f4, hpos', hx'.p8, hx'.a3, hx'.n3, e1, o1, htop', wM_of (hrk _), c1, t1, t2, t3, t9, hx1.p8, hP, wM_of hpt, f1.k]
        clear e1
        exact ⟨st'.length, by omega, st', _, _, hpf, hE2, ⟨rfl, by omega, by omega, by omega⟩, g2, kp2⟩
      · have e1 : w32 (((st'.length + 1 : Nat) : Int) - 1) = st'.length := by rw [w32_e (by omega)]; omega
        have hE2 : fRl r (s :: st') c' l' = (s :: st', c', l') := by simp only [fRl]; rw [if_neg c1]
        simp only [cX5_release_1, wE_I, wE_V, wE_F, wE_A, wE_N, wE_1, wE_2, wE_D, wE_B, wE_If, wE_C, wE_CV, wE_SL, wE_SA, wA_0, wA_1, wC_B, wC_E, wC_And, wC_Or, wC_Not, wS_Skip, wS_Brk, wS_Cnt, wS_RetV, wS_Ret, wS_Seq, wS_Set, wS_Inc, wS_Do, wS_Put, wS_PutC, wS_Arr, wS_ArrC, wS_If, wS_Sw, wS_F0, wS_F1, wM_q, lu_ap, aL_ap, ct_0, ct_1, ct_2, ct_3, ct_4, ct_5, headD_1, List.mem_cons, List.not_mem_nil, or_false, false_or, or_true, true_or, true_and, and_true, false_and, and_false, not_true_eq_false, not_false_eq_true, if_true, if_false, nr_20, nr_24, nr_40, nr_41, nr_44, pt_lt, pt_ge, pt_eq, pt_ne, pt_gt, pt_le, pt_E, pt_N, pt_F, ite_10, ite_11, ne_eq, and_self, or_self, decide_true, decide_false, Bool.not_true, Bool.not_false, Bool.false_eq_true, Nat.reduceEqDiff, Nat.reduceAdd, Int.reduceEq, Int.reduceLT, Int.reduceLE, Int.reduceNeg, Int.reduceAdd, Int.reduceSub, Int.reduceMul, reduceCtorEq, iA, iS, iM, iD, iR, iN, lA, lS, lM, lD, lR, l0, l1, hx'.k, f4, hpos', hx'.p8, hx'.a3, hx'.n3, e1, o1, htop', wM_of (hrk _), c1]
        clear e1
        rw [hE, hE2]
        exact ⟨hF, hre, hkp⟩
end RL
