/-! STORE: between the lines, the class's -/
def dcd (a b : Int) : Int := if a = 1 then b / 1000 else if a = 2 then 10000 + b else if a = 3 then 10010 + b else cvS a
theorem crel_d {a b c : Int} (h : crel a b c) : c = dcd a b := by
  unfold crel at h
  unfold dcd
  rcases h with ⟨rfl, h1, h2, rfl⟩ | ⟨rfl, h1, h2, rfl⟩ | ⟨rfl, h1, h2, rfl⟩ | ⟨rfl, rfl⟩ | ⟨rfl, rfl⟩ | ⟨rfl, rfl⟩ | ⟨rfl, rfl⟩ | ⟨rfl, rfl⟩
  · rw [if_pos rfl]; omega
  · rfl
  · rfl
  · rfl
  · rfl
  · rfl
  · rfl
  · rfl
def cC (u : QV) (F : Int) : Int → Int := fun k => dcd (u (F + 1) k) (u (F + 2) k)
def Cb (S : QS) (v : QV) (T x P : Int) (u : QV) (i : Int) : Prop := PS S u T x P i ∧ LPl S u P ∧ TR T v u ∧ x + 3 < P
def FrP (x P : Int) (u w : QV) : Prop := ∀ a k, ¬ (x ≤ a ∧ a ≤ x + 3) → ¬ (P ≤ a ∧ a ≤ P + 16) → w a k = u a k
/-- between two lines, at token i -/
def Cl (S : QS) (v : QV) (T x P : Int) (u : QV) (i : Int) : Prop := Cb S v T x P u i ∧ NB u T x ∧ ((0 ≤ u P 1 ∧ u P 1 ≤ 4) ∧ (0 ≤ u P 2 ∧ u P 2 ≤ 4) ∧ (0 ≤ u (P + 3) 0 ∧ u (P + 3) 0 ≤ 4)) ∧ (u x 7 = u P 1 + u (P + 3) 0 ∧ ∀ j, 0 ≤ j → j < u x 7 → (0 ≤ u (x + 2) j ∧ u (x + 2) j < u P 1) ∨ (4 ≤ u (x + 2) j ∧ u (x + 2) j < 4 + u (P + 3) 0)) ∧ ((0 ≤ u (P + 3) 1 ∧ u (P + 3) 1 ≤ 30) ∧ (0 ≤ u (P + 3) 2 ∧ u (P + 3) 2 ≤ 2 * u (P + 3) 1)) ∧ FR0 S u (P + 3) (cC u (P + 3)) (u (P + 3) 2)
def LsM (v : QV) (T x P : Int) (u : QV) (i : Int) (w : QV) (o : Int × Int) : Prop := ∃ b, (kdT v T (i + 1) = 4 → isBe u T x (i + 1) b) ∧ o = meO v T i (u P 1) b ∧ mlF u w x P (P + (9 + u P 1)) (u x 7) ∧ (o.1 = 0 → (kdT v T (i + 1) = 4 ∧ b = -1 ∧ ¬ srtK (kdT v T (i + 2)) = -1 ∧ u P 1 < 4) ∧ w P 1 = u P 1 + 1 ∧ (w x 7 = u x 7 + 1 ∧ w (x + 1) (u x 7) = i + 1 ∧ w (x + 2) (u x 7) = u P 1) ∧ w (P + (9 + u P 1)) 0 = srtK (kdT v T (i + 2)) ∧ (srtK (kdT v T (i + 2)) = 2 → w (P + (9 + u P 1)) 1 = nmT v T (i + 3) ∧ w (P + (9 + u P 1)) 2 = nmT v T (i + 3 + 1)) ∧ w (P + (9 + u P 1)) 3 = nmT v T (meJ (srtK (kdT v T (i + 2))) (i + 3) + 1) ∧ w (P + (9 + u P 1)) 4 = leT v T (meJ (srtK (kdT v T (i + 2))) (i + 3) + 2) ∧ w (P + (9 + u P 1)) 5 = moT v T (meL v T (0, meJ (srtK (kdT v T (i + 2))) (i + 3) + 2)).2 ∧ w (P + (9 + u P 1)) 6 = 0)
def LsA (v : QV) (T x P : Int) (u : QV) (i : Int) (w : QV) (o : Int × Int) : Prop := o = arO v T i (u P 2) ∧ arF u w x P (u P 2) ∧ (o.1 = 0 → w P 2 = u P 2 + 1 ∧ w (P + (13 + u P 2)) 0 = howK (kdT v T (i + 1)) ∧ w (P + (13 + u P 2)) 1 = nmT v T (i + 2) ∧ w (P + (13 + u P 2)) 2 = nmT v T (i + 4) ∧ w (P + (13 + u P 2)) 3 = nmT v T (i + 6) ∧ arO v T i (u P 2) = arS v T i ∧ ¬ howK (kdT v T (i + 1)) = -1)
def LsF (v : QV) (T x P : Int) (u : QV) (i : Int) (w : QV) (o : Int × Int) : Prop := ∃ b, (kdT v T (i + 1) = 4 → isBe u T x (i + 1) b) ∧ o = foO v T i b (u (P + (9 + b)) 6) ∧ foF u w x (P + (9 + b)) ∧ (o.1 = 0 → (0 ≤ b ∧ b < 4 ∧ ¬ 0 < u (P + (9 + b)) 6) ∧ w (P + (9 + b)) 6 = nmT v T (i + 3) ∧ w (P + (9 + b)) 7 = nmT v T (i + 5) ∧ w (P + (9 + b)) 8 = nmT v T (i + 6) ∧ w (P + (9 + b)) 9 = nmT v T (i + 7) ∧ w (P + (9 + b)) 10 = nmT v T (i + 9))
def LsS (S : QS) (v : QV) (T x P : Int) (u : QV) (i : Int) (w : QV) (o : Int × Int) : Prop := ∃ (b : Int) (β : Int → Int) (RES : (Int × Int) × (Int → Int) × Int × Int), (kdT v T (i + 1) = 4 → isBe u T x (i + 1) b) ∧ (∀ i, isBe u T x i (β i)) ∧ bOk v T β (u P 1) (u (P + 3) 0).toNat ∧ RES = fmG v T β (nTk v T - (i + 3)).toNat [] (cC u (P + 3)) (u (P + 3) 2) 0 (u (P + 3) 1) true (i + 3) ∧ o = stp (fKd v T 59) (shM v T i (u (P + 3) 0) b RES.1) ∧ slF u w x (P + 3) (u x 7) (u (P + 3) 0) ∧ (o.1 = 0 → (kdT v T (i + 1) = 4 ∧ b = -1 ∧ kdT v T (i + 2) = 61 ∧ u (P + 3) 0 < 4 ∧ RES.1.1 = 0) ∧ (w (P + 3) 0 = u (P + 3) 0 + 1 ∧ w (P + 3) 1 = RES.2.2.2 ∧ w (P + 3 + 3) (u (P + 3) 0) = RES.2.2.1 ∧ FR0 S w (P + 3) RES.2.1 RES.2.2.1) ∧ (w x 7 = u x 7 + 1 ∧ w (x + 1) (u x 7) = i + 1 ∧ w (x + 2) (u x 7) = 4 + u (P + 3) 0))
def LsO (v : QV) (T x : Int) (u : QV) (i : Int) (w : QV) (o : Int × Int) : Prop := (¬ kdT v T i = 257 ∧ ¬ kdT v T i = 264 ∧ ¬ kdT v T i = 269 ∧ ¬ kdT v T i = 272) ∧ o = (1, i) ∧ ∀ a k, (a = x → k ≠ 3 ∧ k ≠ 4) → w a k = u a k
/-- one line of the class -/
def Ls (S : QS) (v : QV) (T x P : Int) (u : QV) (i : Int) (w : QV) (o : Int × Int) : Prop := (kdT v T i = 257 ∧ LsM v T x P u i w o) ∨ (kdT v T i = 264 ∧ LsA v T x P u i w o) ∨ (kdT v T i = 269 ∧ LsF v T x P u i w o) ∨ (kdT v T i = 272 ∧ LsS S v T x P u i w o) ∨ LsO v T x u i w o
section CLN
variable {S : QS} {u v w : QV} {T x P i : Int} {o : Int × Int}
theorem Cb.end (h : Cb S v T x P u i) : kdT v T (nTk v T - 1) = 1 ∧ (0 ≤ i ∧ i < nTk v T) ∧ TK v T := by
  obtain ⟨hp, hl, ht, hx⟩ := h
  obtain ⟨p1, p2, p3, p4, p5, p6, p7, p8, p9, p10⟩ := hp
  have e5 := nt_q ht
  have h2 := p7.2.1.1
  rw [kd_q ht, e5] at h2
  exact ⟨h2, by rw [← e5]; exact p6, TK_q (fun a k h1 h2 => (ht a k h1 h2).symm) p7⟩
theorem TK.nm0 (h7 : TK v T) (h6 : 0 ≤ i ∧ i < nTk v T) (hk : kdT v T i = 3) : 0 ≤ nmT v T i := by
  have hi : i < nTk v T - 1 := by
    by_cases z : i = nTk v T - 1
    · have := h7.2.1.1; rw [← z] at this; omega
    · omega
  obtain ⟨⟨s0, s1, s2⟩, s3, s4, s5⟩ := h7.2.2.1 i h6.1 hi
  have hdg : isDg (v (T + 1) (stT v T i)) := by
    by_cases cl : isLe (v (T + 1) (stT v T i))
    · rcases s4.1 cl with ⟨i', -, -, e⟩ | ⟨e, -⟩ <;> omega
    · by_cases cd : isDg (v (T + 1) (stT v T i))
      · exact cd
      · have := s4.2.2 cl cd
        unfold isSg at this
        omega
  have hrun := dgRun hdg (s3.2.1 hdg)
  have := dvV_n _ hrun
  unfold nmT dvT
  split
  · exact this
  · decide
theorem Cl.bok (h : Cl S v T x P u i) {β : Int → Int} (hβ : ∀ i, isBe u T x i (β i)) : bOk v T β (u P 1) (u (P + 3) 0).toNat := by
  obtain ⟨hb, hN, ⟨c1, c2, c3⟩, ⟨n1, n2⟩, hf⟩ := h
  obtain ⟨e1, e2, e3⟩ := hb.end
  refine ⟨c1.2, by omega, fun j j0 j1 _ => ?_, fun j j0 j1 hk => e3.nm0 ⟨j0, j1⟩ hk⟩
  rcases hβ j with ⟨q, hq, -, -, e⟩ | ⟨e, -⟩
  · rw [e]
    have := n2 q hq.1 hq.2
    omega
  · exact Or.inl e
theorem Cb.nx (h : Cb S v T x P u i) (hk : Kp S u w) (hT : TR T u w) (h0 : w x 0 = u x 0) (h1 : w x 1 = u x 1) {j : Int} (h2 : w x 2 = j) (hj : 0 ≤ j ∧ j < nTk v T) : Cb S v T x P w j := by
  obtain ⟨hp, hl, ht, hx⟩ := h
  exact ⟨hp.mv hk hT h0 h1 h2 (by rw [nt_q ht]; exact hj), hl.keep hk, ht.tr hT, hx⟩
theorem cC_fr (h : FR0 S u (P + 3) (cC u (P + 3)) (u (P + 3) 2)) (hk : Kp S u w) (f2 : w (P + 3) 2 = u (P + 3) 2) (f3 : ∀ k, w (P + 3 + 1) k = u (P + 3 + 1) k ∧ w (P + 3 + 2) k = u (P + 3 + 2) k) : FR0 S w (P + 3) (cC w (P + 3)) (w (P + 3) 2) := by
  obtain ⟨g1, g2, g3⟩ := h
  have e : cC w (P + 3) = cC u (P + 3) := funext fun k => by
    unfold cC
    rw [(f3 k).1, (f3 k).2]
  rw [e, f2]
  exact ⟨g1.keep hk, f2, fun k k0 k1 => by rw [(f3 k).1, (f3 k).2]; exact g3 k k0 k1⟩
theorem q_arch4 (hp : PS S u T x P i) (hl : LPl S u P) (h4 : 4 ≤ u P 2) : mX5_archiveLine [x] S u = some (0, vu (vu u x 3 4) x 4 (stT u T i)) := by
  have hf := q_fail (f := 4) hp
  apply wM_eq
  simp only [mX5_archiveLine, sX5_archiveLine, wE_I, wE_V, wE_F, wE_A, wE_N, wE_1, wE_2, wE_D, wE_B, wE_If, wE_C, wE_CV, wE_SL, wE_SA, wA_0, wA_1, wC_B, wC_E, wC_And, wC_Or, wC_Not, wS_Skip, wS_Brk, wS_Cnt, wS_RetV, wS_Ret, wS_Seq, wS_Set, wS_Inc, wS_Do, wS_Put, wS_PutC, wS_Arr, wS_ArrC, wS_If, wS_Sw, wS_F0, wS_F1, wM_q, lu_ap, aL_ap, ct_0, ct_1, ct_2, ct_3, ct_4, ct_5, headD_1, List.mem_cons, List.not_mem_nil, or_false, false_or, or_true, true_or, true_and, and_true, false_and, and_false, not_true_eq_false, not_false_eq_true, if_true, if_false, nr_20, nr_24, nr_40, nr_41, nr_44, pt_lt, pt_ge, pt_eq, pt_ne, pt_gt, pt_le, pt_E, pt_N, pt_F, ite_10, ite_11, ne_eq, and_self, or_self, decide_true, decide_false, Bool.not_true, Bool.not_false, Bool.false_eq_true, Nat.reduceEqDiff, Nat.reduceAdd, Int.reduceEq, Int.reduceLT, Int.reduceLE, Int.reduceNeg, Int.reduceAdd, Int.reduceSub, Int.reduceMul, reduceCtorEq, iA, iS, iM, iD, iR, iN, lA, lS, lM, lD, lR, hp.2.1.k, hp.2.2.2.1, hl.k, h4, wM_of hf]
theorem c_lineA (h : Cl S v T x P u i) (hK : kdT v T i ≠ 1) : wM mX5_archiveLine [x] S u (fun r w => ∃ o, LnC u w T x v o r ∧ LsA v T x P u i w o ∧ (Kc S u w ∧ FrP x P u w) ∧ (o.1 = 0 → Cl S v T x P w o.2 ∧ i < o.2)) := by
  obtain ⟨hb, hN, ⟨c1, c2, c3⟩, ⟨n1, n2⟩, ⟨g1, g2⟩, hF⟩ := id h
  obtain ⟨hp, hl, ht, hx⟩ := id hb
  obtain ⟨e1, e2, e3⟩ := hb.end
  have h10 := hp.2.2.2.2.2.2.2.2.2
  refine wM_mono (c_archiveLine hp hl hx ht hK c2.1) ?_
  rintro r w e ⟨hL, hf, hv⟩
  have hk := Kc.of kX5_archiveLine e
  have hfr : FrP x P u w := by
    by_cases c : 4 ≤ u P 2
    · rw [q_arch4 hp hl c] at e
      cases e
      exact fun a k q1 q2 => by rw [vu_ne (by omega), vu_ne (by omega)]
    · exact fun a k q1 q2 => hf _ _ (by omega) (by omega) (by omega)
  refine ⟨_, hL, ⟨rfl, hf, hv⟩, ⟨hk, hfr⟩, fun z => ?_⟩
  have hg := arO_g (cnt := u P 2) e1 e2.2 hK z
  obtain ⟨w2, -⟩ := hv z
  have x2 : w x 2 = (arO v T i (u P 2)).2 := by
    rcases hL with ⟨-, -, a, -⟩ | ⟨a, -⟩
    · exact a
    · omega
  have fx : ∀ k, k ≠ 2 → k ≠ 3 → k ≠ 4 → w x k = u x k := fun k q1 q2 q3 => hf _ _ (fun _ => ⟨q1, q2, q3⟩) (by omega) (by omega)
  have fo : ∀ a k, a ≠ x → a < P → w a k = u a k := fun a k q1 q2 => hf _ _ (by omega) (by omega) (by omega)
  have fF : ∀ a k, P + 3 ≤ a → a ≤ P + 12 → w a k = u a k := fun a k q1 q2 => hf _ _ (by omega) (by omega) (by omega)
  have f1 : w P 1 = u P 1 := hf _ _ (by omega) (by omega) (by omega)
  refine ⟨⟨hb.nx hk.p (fun a k q1 q2 => fo _ _ (by omega) (by omega)) (fx _ (by decide) (by decide) (by decide)) (fx _ (by decide) (by decide) (by decide)) x2 ⟨by omega, hg.2⟩, ?_, ⟨by rw [f1]; exact c1, ?_, by rw [fF _ _ (by omega) (by omega)]; exact c3⟩, ?_, ?_, ?_⟩, by omega⟩
  · unfold NB at hN ⊢
    rw [fx 7 (by decide) (by decide) (by decide), nt_5 (fo T 5 (by omega) (by omega))]
    simp only [fun k => fo (x + 1) k (by omega) (by omega), fun k => fo (x + 2) k (by omega) (by omega)]
    exact hN
  · rw [w2]
    have : ¬ 4 ≤ u P 2 := fun y => by unfold arO at z; rw [if_pos y] at z; exact absurd z (by simp)
    omega
  · rw [fx 7 (by decide) (by decide) (by decide), f1, fF _ _ (by omega) (by omega)]
    simp only [fun k => fo (x + 2) k (by omega) (by omega)]
    exact ⟨n1, n2⟩
  · rw [fF _ _ (by omega) (by omega), fF _ _ (by omega) (by omega)]; exact ⟨g1, g2⟩
  · exact cC_fr hF hk.p (fF _ _ (by omega) (by omega)) (fun k => ⟨fF _ _ (by omega) (by omega), fF _ _ (by omega) (by omega)⟩)
theorem q_foreN (hp : PS S u T x P i) (hK : kdT u T i ≠ 1) (h4 : ¬ kdT u T (i + 1) = 4) : mX5_forecastLine [x] S u = some (0, vu (vu (vu u x 2 (i + 1)) x 3 1) x 4 (stT u T (i + 1))) := by
  have h10 := hp.2.2.2.2.2.2.2.2.2
  have hi6 := hp.2.2.2.2.2.1
  have hi7 := hp.2.2.2.2.2.2.1.1
  have hx2 := hp.2.2.2.2.1
  have hP1 := hp.go (j := i + 1) ⟨by omega, hp.nx hK⟩
  have hk := q_kind hP1
  have hf := q_fail (f := 1) hP1
  have hTR : TR T u (vu u x 2 (i + 1)) := TR.rf.vu (by omega)
  rw [kd_q hTR] at hk
  rw [st_q hTR] at hf
  have e1 : w32 (i + 1) = i + 1 := w32_e (by omega)
  apply wM_eq
  simp only [mX5_forecastLine, sX5_forecastLine, wE_I, wE_V, wE_F, wE_A, wE_N, wE_1, wE_2, wE_D, wE_B, wE_If, wE_C, wE_CV, wE_SL, wE_SA, wA_0, wA_1, wC_B, wC_E, wC_And, wC_Or, wC_Not, wS_Skip, wS_Brk, wS_Cnt, wS_RetV, wS_Ret, wS_Seq, wS_Set, wS_Inc, wS_Do, wS_Put, wS_PutC, wS_Arr, wS_ArrC, wS_If, wS_Sw, wS_F0, wS_F1, wM_q, lu_ap, aL_ap, ct_0, ct_1, ct_2, ct_3, ct_4, ct_5, headD_1, List.mem_cons, List.not_mem_nil, or_false, false_or, or_true, true_or, true_and, and_true, false_and, and_false, not_true_eq_false, not_false_eq_true, if_true, if_false, nr_20, nr_24, nr_40, nr_41, nr_44, pt_lt, pt_ge, pt_eq, pt_ne, pt_gt, pt_le, pt_E, pt_N, pt_F, ite_10, ite_11, ne_eq, and_self, or_self, decide_true, decide_false, Bool.not_true, Bool.not_false, Bool.false_eq_true, Nat.reduceEqDiff, Nat.reduceAdd, Int.reduceEq, Int.reduceLT, Int.reduceLE, Int.reduceNeg, Int.reduceAdd, Int.reduceSub, Int.reduceMul, reduceCtorEq, iA, iS, iM, iD, iR, iN, lA, lS, lM, lD, lR, hp.2.1.k, hx2, e1, wM_of hk, h4, wM_of hf]
theorem c_lineF (h : Cl S v T x P u i) (hK : kdT v T i ≠ 1) : wM mX5_forecastLine [x] S u (fun r w => ∃ o, LnC u w T x v o r ∧ LsF v T x P u i w o ∧ (Kc S u w ∧ FrP x P u w) ∧ (o.1 = 0 → Cl S v T x P w o.2 ∧ i < o.2)) := by
  obtain ⟨hb, hN, ⟨c1, c2, c3⟩, ⟨n1, n2⟩, ⟨g1, g2⟩, hF⟩ := id h
  obtain ⟨hp, hl, ht, hx⟩ := id hb
  obtain ⟨e1, e2, e3⟩ := hb.end
  have h10 := hp.2.2.2.2.2.2.2.2.2
  refine wM_mono (c_forecastLine hp hl hx ht hK hN) ?_
  rintro r w e ⟨b, hbe, hL, hf, hv⟩
  have hk := Kc.of kX5_forecastLine e
  have hfr : FrP x P u w := by
    by_cases ck : kdT v T (i + 1) = 4
    · have hbb := isBe_b hN (hbe ck)
      exact fun a k q1 q2 => hf _ _ (by omega) (by omega)
    · rw [q_foreN hp (by rw [kd_q ht]; exact hK) (by rw [kd_q ht]; exact ck)] at e
      cases e
      exact fun a k q1 q2 => by rw [vu_ne (by omega), vu_ne (by omega), vu_ne (by omega)]
  refine ⟨_, hL, ⟨b, hbe, rfl, hf, hv⟩, ⟨hk, hfr⟩, fun z => ?_⟩
  have hg := foO_g (b := b) (sea := u (P + (9 + b)) 6) e1 e2.2 hK z
  obtain ⟨⟨b0, b4, -⟩, -⟩ := hv z
  have x2 : w x 2 = (foO v T i b (u (P + (9 + b)) 6)).2 := by
    rcases hL with ⟨-, -, a, -⟩ | ⟨a, -⟩
    · exact a
    · omega
  have fx : ∀ k, k ≠ 2 → k ≠ 3 → k ≠ 4 → w x k = u x k := fun k q1 q2 q3 => hf _ _ (fun _ => ⟨q1, q2, q3⟩) (by omega)
  have fo : ∀ a k, a ≠ x → a < P + 9 → w a k = u a k := fun a k q1 q2 => hf _ _ (by omega) (by omega)
  refine ⟨⟨hb.nx hk.p (fun a k q1 q2 => fo _ _ (by omega) (by omega)) (fx _ (by decide) (by decide) (by decide)) (fx _ (by decide) (by decide) (by decide)) x2 ⟨by omega, hg.2⟩, ?_, ⟨by rw [fo _ _ (by omega) (by omega)]; exact c1, by rw [fo _ _ (by omega) (by omega)]; exact c2, by rw [fo _ _ (by omega) (by omega)]; exact c3⟩, ?_, ?_, ?_⟩, by omega⟩
  · unfold NB at hN ⊢
    rw [fx 7 (by decide) (by decide) (by decide), nt_5 (fo T 5 (by omega) (by omega))]
    simp only [fun k => fo (x + 1) k (by omega) (by omega), fun k => fo (x + 2) k (by omega) (by omega)]
    exact hN
  · rw [fx 7 (by decide) (by decide) (by decide), fo P _ (by omega) (by omega), fo (P + 3) _ (by omega) (by omega)]
    simp only [fun k => fo (x + 2) k (by omega) (by omega)]
    exact ⟨n1, n2⟩
  · rw [fo _ _ (by omega) (by omega), fo _ _ (by omega) (by omega)]; exact ⟨g1, g2⟩
  · exact cC_fr hF hk.p (fo _ _ (by omega) (by omega)) (fun k => ⟨fo _ _ (by omega) (by omega), fo _ _ (by omega) (by omega)⟩)
theorem c_lineM (h : Cl S v T x P u i) (hK : kdT v T i ≠ 1) : wM mX5_measureLine [x] S u (fun r w => ∃ o, LnC u w T x v o r ∧ LsM v T x P u i w o ∧ (Kc S u w ∧ FrP x P u w) ∧ (o.1 = 0 → Cl S v T x P w o.2 ∧ i < o.2)) := by
  obtain ⟨hb, hN, ⟨c1, c2, c3⟩, ⟨n1, n2⟩, ⟨g1, g2⟩, hF⟩ := id h
  obtain ⟨hp, hl, ht, hx⟩ := id hb
  obtain ⟨e1, e2, e3⟩ := hb.end
  have h10 := hp.2.2.2.2.2.2.2.2.2
  refine wM_mono (c_measureLine hp hl hx ht hK hN rfl c1.1 rfl (by omega)) ?_
  rintro r w e ⟨b, hbe, hL, hf, hv⟩
  have hk := Kc.of kX5_measureLine e
  have hfr : FrP x P u w := fun a k q1 q2 => hf _ _ (by omega) (by omega) (by omega) (by omega) (by omega)
  refine ⟨_, hL, ⟨b, hbe, rfl, hf, hv⟩, ⟨hk, hfr⟩, fun z => ?_⟩
  have hg := meO_g (b := b) (cnt := u P 1) e1 e2.2 hK z
  obtain ⟨⟨v4, -, -, c4⟩, w1, ⟨w7, wx1, wx2⟩, -⟩ := hv z
  have x2 : w x 2 = (meO v T i (u P 1) b).2 := by
    rcases hL with ⟨-, -, a, -⟩ | ⟨a, -⟩
    · exact a
    · omega
  have i1 := gd_nx e1 e2.2 hK
  have il := kd_lt (v := v) (T := T) (i := i + 1) (by rw [v4]; decide)
  have fx : ∀ k, k ≠ 2 → k ≠ 3 → k ≠ 4 → k ≠ 7 → w x k = u x k := fun k q1 q2 q3 q4 => hf _ _ (fun _ => ⟨q1, q2, q3, q4⟩) (by omega) (by omega) (by omega) (by omega)
  have fo : ∀ a k, a < P → a ≠ x → a ≠ x + 1 → a ≠ x + 2 → w a k = u a k := fun a k q1 q2 q3 q4 => hf _ _ (by omega) (by omega) (by omega) (by omega) (by omega)
  have fn : ∀ k, k ≠ u x 7 → w (x + 1) k = u (x + 1) k ∧ w (x + 2) k = u (x + 2) k := fun k q => ⟨hf _ _ (by omega) (fun _ => q) (by omega) (by omega) (by omega), hf _ _ (by omega) (by omega) (fun _ => q) (by omega) (by omega)⟩
  have fF : ∀ a k, P + 3 ≤ a → a ≤ P + 8 → w a k = u a k := fun a k q1 q2 => hf _ _ (by omega) (by omega) (by omega) (by omega) (by omega)
  have f2 : w P 2 = u P 2 := hf _ _ (by omega) (by omega) (by omega) (by omega) (by omega)
  have f30 := fF (P + 3) 0 (by omega) (by omega)
  have e5 := nt_5 (fo T 5 (by omega) (by omega) (by omega) (by omega))
  have t5 : nTk u T = nTk v T := nt_q ht
  obtain ⟨N1, N2⟩ := hN
  refine ⟨⟨hb.nx hk.p (fun a k q1 q2 => fo _ _ (by omega) (by omega) (by omega) (by omega)) (fx _ (by decide) (by decide) (by decide) (by decide)) (fx _ (by decide) (by decide) (by decide) (by decide)) x2 ⟨by omega, hg.2⟩, ⟨by omega, fun j j0 j1 => ?_⟩, ⟨by omega, by rw [f2]; exact c2, by rw [f30]; exact c3⟩, ⟨by omega, fun j j0 j1 => ?_⟩, ?_, ?_⟩, by omega⟩
  · by_cases cj : j = u x 7
    · subst cj
      rw [wx1, wx2]; omega
    · rw [(fn j cj).1, (fn j cj).2, e5]
      exact N2 j j0 (by omega)
  · by_cases cj : j = u x 7
    · subst cj
      rw [wx2]; omega
    · rw [(fn j cj).2, f30]
      have := n2 j j0 (by omega)
      omega
  · rw [fF _ _ (by omega) (by omega), fF _ _ (by omega) (by omega)]; exact ⟨g1, g2⟩
  · exact cC_fr hF hk.p (fF _ _ (by omega) (by omega)) (fun k => ⟨fF _ _ (by omega) (by omega), fF _ _ (by omega) (by omega)⟩)
theorem c_lineS (h : Cl S v T x P u i) (hK : kdT v T i ≠ 1) : wM mX5_showLine [x] S u (fun r w => ∃ o, LnC u w T x v o r ∧ LsS S v T x P u i w o ∧ (Kc S u w ∧ FrP x P u w) ∧ (o.1 = 0 → Cl S v T x P w o.2 ∧ i < o.2)) := by
  obtain ⟨hb, hN, ⟨c1, c2, c3⟩, ⟨n1, n2⟩, ⟨g1, g2⟩, hF⟩ := id h
  obtain ⟨hp, hl, ht, hx⟩ := id hb
  obtain ⟨e1, e2, e3⟩ := hb.end
  have h10 := hp.2.2.2.2.2.2.2.2.2
  have hbe : ∃ β : Int → Int, ∀ i, isBe u T x i (β i) := ⟨fun i => Classical.choose (be_ex (u := u) (T := T) (x := x) i), fun i => Classical.choose_spec (be_ex (u := u) (T := T) (x := x) i)⟩
  obtain ⟨β, hβ⟩ := hbe
  have hbo := h.bok hβ
  generalize hRE : fmG v T β (nTk v T - (i + 3)).toNat [] (cC u (P + 3)) (u (P + 3) 2) 0 (u (P + 3) 1) true (i + 3) = RES
  refine wM_mono (c_showLine hp hl hx rfl ht hK hN rfl c3.1 rfl (by omega) hF rfl (fun i r _ _ hr => isBe_u hr (hβ i)) g1 g2 hbo e1 hRE.symm) ?_
  rintro r w e ⟨b, hbe, hL, hf, hv⟩
  have hk := Kc.of kX5_showLine e
  have hfr : FrP x P u w := fun a k q1 q2 => hf _ _ (by omega) (by omega) (by omega) (by omega) (by omega) (by omega) (by omega) (by omega)
  refine ⟨_, hL, ⟨b, β, RES, hbe, hβ, hbo, hRE.symm, rfl, hf, hv⟩, ⟨hk, hfr⟩, fun z => ?_⟩
  have hg := shM_g (sh := u (P + 3) 0) (b := b) (f := RES.1) e1 e2.2 hK (fun q => by rw [← hRE]; exact fmG_g e1 _ _ _ _ _ _ _ _ q) z
  obtain ⟨⟨v4, -, -, c4, hR0⟩, ⟨w0, w1, w3, hF'⟩, ⟨w7, wx1, wx2⟩⟩ := hv z
  have x2 : w x 2 = (stp (fKd v T 59) (shM v T i (u (P + 3) 0) b RES.1)).2 := by
    rcases hL with ⟨-, -, a, -⟩ | ⟨a, -⟩
    · exact a
    · omega
  have i1 := gd_nx e1 e2.2 hK
  have il := kd_lt (v := v) (T := T) (i := i + 1) (by rw [v4]; decide)
  have fx : ∀ k, k ≠ 2 → k ≠ 3 → k ≠ 4 → k ≠ 7 → k ≠ 9 → w x k = u x k := fun k q1 q2 q3 q4 q5 => hf _ _ (fun _ => ⟨q1, q2, q3, q4, q5⟩) (by omega) (by omega) (by omega) (by omega) (by omega) (by omega) (by omega)
  have fo : ∀ a k, a < P → a ≠ x → a ≠ x + 1 → a ≠ x + 2 → a ≠ x + 3 → w a k = u a k := fun a k q1 q2 q3 q4 q5 => hf _ _ (by omega) (by omega) (by omega) (by omega) (by omega) (by omega) (by omega) (by omega)
  have fn : ∀ k, k ≠ u x 7 → w (x + 1) k = u (x + 1) k ∧ w (x + 2) k = u (x + 2) k := fun k q => ⟨hf _ _ (by omega) (fun _ => q) (by omega) (by omega) (by omega) (by omega) (by omega) (by omega), hf _ _ (by omega) (by omega) (fun _ => q) (by omega) (by omega) (by omega) (by omega) (by omega)⟩
  have fP : ∀ k, w P k = u P k := fun k => hf _ _ (by omega) (by omega) (by omega) (by omega) (by omega) (by omega) (by omega) (by omega)
  have e5 := nt_5 (fo T 5 (by omega) (by omega) (by omega) (by omega) (by omega))
  have t5 : nTk u T = nTk v T := nt_q ht
  obtain ⟨N1, N2⟩ := hN
  have hV0 : fV [] (cC u (P + 3)) (u (P + 3) 2) 0 (u (P + 3) 1) (if true then 0 else 1) (u (P + 3) 2) (u P 1) (u (P + 3) 0).toNat := by
    refine ⟨fun s hs => absurd hs (by simp), rfl, ⟨by simp; omega, g1.2⟩, by simp only [cO, if_true]; omega, ⟨g2.1, Int.le_refl _⟩, ?_, fun j hj => by omega⟩
    rw [show (u (P + 3) 2 - u (P + 3) 2).toNat = 0 by omega]
    rfl
  have i2 := gd_nx e1 i1 (by rw [v4]; decide)
  have i3 := gd_nx e1 i2 (by rw [show i + 1 + 1 = i + 2 by omega, (hv z).1.2.2.1]; decide)
  obtain ⟨-, q2, q3, -⟩ := fmG_v hbo (nTk v T - (i + 3)).toNat [] (cC u (P + 3)) (u (P + 3) 2) 0 (u (P + 3) 1) true (i + 3) hV0 ⟨by omega, by omega⟩ e1 (by omega) (by rw [hRE]; exact hR0)
  rw [hRE] at q2 q3
  have hl2 : w (P + 3) 2 = RES.2.2.1 := hF'.2.1
  refine ⟨⟨hb.nx hk.p (fun a k q1 q2 => fo _ _ (by omega) (by omega) (by omega) (by omega) (by omega)) (fx _ (by decide) (by decide) (by decide) (by decide) (by decide)) (fx _ (by decide) (by decide) (by decide) (by decide) (by decide)) x2 ⟨by omega, hg.2⟩, ⟨by omega, fun j j0 j1 => ?_⟩, ⟨by rw [fP]; exact c1, by rw [fP]; exact c2, by omega⟩, ⟨by rw [w7, fP, w0]; omega, fun j j0 j1 => ?_⟩, ⟨by omega, by omega⟩, ?_⟩, by omega⟩
  · by_cases cj : j = u x 7
    · subst cj
      rw [wx1, wx2]; omega
    · rw [(fn j cj).1, (fn j cj).2, e5]
      exact N2 j j0 (by omega)
  · by_cases cj : j = u x 7
    · subst cj
      rw [wx2, w0]; omega
    · rw [(fn j cj).2, fP, w0]
      have := n2 j j0 (by omega)
      omega
  · rw [hl2]
    obtain ⟨a1, a2, a3⟩ := hF'
    exact ⟨a1, a2, fun k k0 k1 => by
      have := a3 k k0 k1
      have e := crel_d this
      unfold cC
      rw [← e]
      exact this⟩
end CLN
