/-! A STEP ENDED: the class's archives -/
theorem div_s {x p : Int} (hp : 0 < p) : (x + 1) / p = if x % p + 1 = p then x / p + 1 else x / p := by
  have h1 := Int.emod_nonneg x (show p ≠ 0 by omega)
  have h2 := Int.emod_lt_of_pos x hp
  have h3 := Int.mul_ediv_add_emod x p
  by_cases c : x % p + 1 = p
  · rw [if_pos c]
    have e : x + 1 = p * (x / p + 1) := by rw [Int.mul_add, Int.mul_one]; omega
    rw [e, Int.mul_ediv_cancel_left _ (by omega)]
  · rw [if_neg c]
    have e : x + 1 = (x % p + 1) + p * (x / p) := by omega
    rw [e, Int.add_mul_ediv_left _ _ (by omega), Int.ediv_eq_zero_of_lt (by omega) (by omega)]
    omega
theorem gathF_tv {v : QV} {t how per share G N : Int} {f : Int → Int} (h : HTt v t f G N) : tv (gathF how per share G f) := by
  obtain ⟨⟨h5, h5a, h6, hN⟩, ⟨h1, h1a, h1b⟩, ⟨h0, h0a, h0b⟩, hc⟩ := h
  unfold gathF tv
  by_cases c : f (G + 5) = 0 ∨ share * per < 10 * f (G + 6)
  · rw [if_pos c]; exact Or.inl rfl
  · rw [if_neg c]
    right
    have c5 : ¬ v t 2 = 0 := by omega
    obtain ⟨⟨q2, q3, q4⟩, q5, q6, q7⟩ := hc c5
    rw [← h0, ← h1, ← q2, ← q3, ← q4]
    have d0 := Int.ediv_nonneg h0a (show 0 ≤ v t 1 by omega)
    have d1 := Int.ediv_le_of_le_mul (show 0 < v t 1 by omega) h0b
    split
    · exact ⟨d0, d1⟩
    · split
      · exact q5
      · split
        · exact q6
        · exact q7
theorem HS.congf {v w : QV} {P s : Int} {f F : Int → Int} {K D O : Int → Int} {N : Int → Int → Int} (h : HS v w P s f K D N O) (hn : v P 1 ≤ 4) (ha : v P 2 ≤ 4) (hf : ∀ k, k ≠ 1 → F k = f k) : HS v w P s F K D N O := by
  obtain ⟨h1, h2, h3, h4⟩ := h
  refine ⟨by rw [hf 0 (by decide), hf 2 (by decide)]; exact h1, fun m m0 m1 => (h2 m m0 m1).cong (fun _ => rfl) (fun _ => rfl) (fun i i0 i1 => hf _ (by omega)), fun a a0 a1 => ⟨(h3 a a0 a1).1.cong ⟨a0, by omega⟩ hn (fun _ => rfl) (hf _ (by omega)) (fun k k0 k1 => hf _ (by omega)), fun m m0 m1 => ((h3 a a0 a1).2 m m0 m1).cong (fun _ => rfl) (fun i i0 i1 => hf _ (by omega))⟩, fun m m0 m1 m2 => (h4 m m0 m1 m2).cong (fun _ _ _ _ => rfl) (fun i i0 i1 => hf _ (by omega))⟩
theorem PR.pb {v : QV} {P M B : Int} (h : PR v P M B) : PB v M B := by
  obtain ⟨r1, r2, r3, r4, r5, r6, r7⟩ := h
  refine ⟨by omega, by omega, by omega, fun m m0 m1 m2 => ?_, fun a a0 a1 => ?_⟩
  · obtain ⟨-, -, -, -, pm5⟩ := r5 m m0 (by omega)
    rcases pm5 with e | ⟨e0, e1, e2, e3, e4, e5⟩
    · omega
    · exact ⟨by omega, by omega, by omega, by omega, by omega⟩
  · obtain ⟨a1', a2, a3, a4⟩ := r6 a a0 (by omega)
    exact ⟨by omega, by omega, by omega, by omega⟩
section ES
variable {S : QS} {v w : QV} {b M P B s : Int} {f F : Int → Int} {K D O : Int → Int} {N : Int → Int → Int}
theorem c_endArch {x i : Int} (hSt : LSt S w s) (hPl : LPl S w P) (hPs : P + 16 < s) (hR : PR v P M B) (hw : Fs s v w) (hi : 0 ≤ i ∧ i < v P 2) (hx : 0 ≤ x ∧ x < 100000) (h1 : f 1 = x + 1) (h : HS v w P s f K D N O) (hD : D i = x / v (P + (13 + i)) 1) (hN : ∀ m, 0 ≤ m → m < v P 1 → N i m = x % v (P + (13 + i)) 1 + 1) {L : QL} (m0 : L 0 = s) (m1 : L 1 = P) (m2 : L 2 = x + 1) (m3 : L 3 = i) : wS bX8_endStep_3 L S w (fun k _ L' w' => k = 0 ∧ (L' 0 = s ∧ L' 1 = P ∧ L' 2 = x + 1 ∧ L' 3 = i) ∧ Kp S w w' ∧ Fs s v w' ∧ HS v w' P s (rwF v M B i f) K (fun a => if a = i then (x + 1) / v (P + (13 + i)) 1 else D a) (fun a m => if a = i then (x + 1) % v (P + (13 + i)) 1 else N a m) O) := by
  obtain ⟨r1, r2, r3, r4, r5, r6, r7⟩ := hR
  have hi4 : 0 ≤ i ∧ i < 4 := by omega
  have hn4 : v (M + 3) B ≤ 4 := by omega
  obtain ⟨pa1, pa2, pa3, pa4⟩ := r6 i hi.1 hi.2
  have hper : 0 < v (P + (13 + i)) 1 := by omega
  have hms := mod_s (x := x) hper
  have hds := div_s (x := x) hper
  have hx0 := Int.emod_nonneg x (show v (P + (13 + i)) 1 ≠ 0 by omega)
  have hx1 := Int.emod_lt_of_pos x hper
  have hd0 := Int.ediv_nonneg hx.1 (show 0 ≤ v (P + (13 + i)) 1 by omega)
  have hd1 : x / v (P + (13 + i)) 1 ≤ x := Int.ediv_le_self _ hx.1
  have wP : ∀ a k, P ≤ a → a ≤ P + 16 → w a k = v a k := fun a k q0 q1 => hw a k (by omega)
  have hp := hPl.a i hi4.1 hi4.2
  have wp : ∀ k, w (P + (13 + i)) k = v (P + (13 + i)) k := fun k => wP _ k (by omega) (by omega)
  have hRr := hSt.r i hi4.1 hi4.2
  have hrem := q_rem (S := S) (v := w) (x := x + 1) (y := v (P + (13 + i)) 1) (by omega) hper
  have hquo := q_quo (S := S) (v := w) (x := x + 1) (y := v (P + (13 + i)) 1) (by omega) hper
  unfold bX8_endStep_3
  refine ws_step (L' := lu L 4 (P + (13 + i))) (w := w) (by simp only [wE_I, wE_V, wE_F, wE_A, wE_N, wE_1, wE_2, wE_D, wE_B, wE_If, wE_C, wE_CV, wE_SL, wE_SA, wA_0, wA_1, wC_B, wC_E, wC_And, wC_Or, wC_Not, wS_Skip, wS_Brk, wS_Cnt, wS_RetV, wS_Ret, wS_Seq, wS_Set, wS_Inc, wS_Do, wS_Put, wS_PutC, wS_Arr, wS_ArrC, wS_If, wS_Sw, wS_F0, wS_F1, wM_q, lu_ap, aL_ap, ct_0, ct_1, ct_2, ct_3, ct_4, ct_5, headD_1, List.mem_cons, List.not_mem_nil, or_false, false_or, or_true, true_or, true_and, and_true, false_and, and_false, not_true_eq_false, not_false_eq_true, if_true, if_false, nr_20, nr_24, nr_40, nr_41, nr_44, pt_lt, pt_ge, pt_eq, pt_ne, pt_gt, pt_le, pt_E, pt_N, pt_F, ite_10, ite_11, ne_eq, and_self, or_self, decide_true, decide_false, Bool.not_true, Bool.not_false, Bool.false_eq_true, Nat.reduceEqDiff, Nat.reduceAdd, Int.reduceEq, Int.reduceLT, Int.reduceLE, Int.reduceNeg, Int.reduceAdd, Int.reduceSub, Int.reduceMul, reduceCtorEq, iA, iS, iM, iD, iR, iN, lA, lS, lM, lD, lR, m0, m1, m3, hPl.k, hPl.p4, hPl.a2, hPl.n2, hi4, hPl.ea i hi4.1 hi4.2]) ?_
  by_cases c : x % v (P + (13 + i)) 1 + 1 = v (P + (13 + i)) 1
  · rw [if_pos c] at hms hds
    have er : rwF v M B i f = rowF v M B i f := by
      unfold rwF
      rw [h1, ← pa2.1, if_pos hms]
    rw [er, hms, hds]
    rw [hms] at hrem
    rw [hds] at hquo
    generalize hq : x / v (P + (13 + i)) 1 = q at *
    have i1 : w32 (q + 1 - 1) = q := by rw [w32_e (by omega)]; omega
    have ce := c_endRow (S := S) (v := w) (p := P + (13 + i)) (D := q) hRr hp (by clear i1; omega) (by clear i1; omega) (by rw [wp]; exact pa1.2)
    obtain ⟨g1, g2, g3, g4⟩ := id h
    have fin : ∀ w', Kp S w w' → ((∀ m, 0 ≤ m → m < 4 → w' (s + (28 + 7 * i) + 1) (q % 30 * 4 + m) = crV w (s + (28 + 7 * i) + (3 + m)) (w (P + (13 + i)) 0) (w (P + (13 + i)) 1) (w (P + (13 + i)) 3)) ∧ (∀ k, (k < q % 30 * 4 ∨ q % 30 * 4 + 4 ≤ k) → w' (s + (28 + 7 * i) + 1) k = w (s + (28 + 7 * i) + 1) k) ∧ (∀ m, 0 ≤ m → m < 4 → w' (s + (28 + 7 * i) + (3 + m)) 0 = 0 ∧ w' (s + (28 + 7 * i) + (3 + m)) 1 = 0 ∧ w' (s + (28 + 7 * i) + (3 + m)) 2 = 0) ∧ ∀ a k, a ≠ s + (28 + 7 * i) + 1 → a < s + (28 + 7 * i) + 3 ∨ s + (28 + 7 * i) + 7 ≤ a → w' a k = w a k) → Kp S w w' ∧ Fs s v w' ∧ HS v w' P s (rowF v M B i f) K (fun a => if a = i then q + 1 else D a) (fun a m => if a = i then 0 else N a m) O := by
      clear i1 ce
      rintro w' hk ⟨e1, e2, e3, e4⟩
      have hfr : ∀ k, (k < 51 ∨ 647 ≤ k) → rowF v M B i f k = f k := fun k hk2 => rowF_fr hn4 (by omega) (by omega) (by omega)
      have hout : ∀ a k, a < s + 28 + 7 * i ∨ s + 28 + 7 * i + 7 ≤ a → w' a k = w a k := fun a k ha => e4 a k (by omega) (by omega)
      refine ⟨hk, fun a k ha => by rw [hout _ _ (by omega)]; exact hw a k ha, ⟨by rw [hout _ _ (by omega), hout _ _ (by omega), hfr _ (by omega), hfr _ (by omega)]; exact g1, fun m q0 q1 => ?_, fun a a0 a1 => ?_, fun m q0 q1 q2 => ?_⟩⟩
      · exact (g2 m q0 q1).cong (fun k => hout _ _ (by omega)) (fun k => hout _ _ (by omega)) (fun j j0 j1 => hfr _ (by omega))
      · obtain ⟨ha, ht⟩ := g3 a a0 a1
        by_cases e : a = i
        · subst e
          obtain ⟨ha1, ha2⟩ := ha
          rw [hD] at ha1 ha2
          have hn := rowF_n (v := v) (M := M) (B := B) (f := f) hi4
          rw [← pa3.1] at hn
          have hcell := fun m q0 q1 => rowF_at (v := v) (M := M) (B := B) (f := f) (m := m) hi4 (show 0 ≤ m ∧ m < v (M + 3) B from ⟨q0, by rw [← r2.1]; exact q1⟩) hn4
          refine ⟨?_, fun m q0 q1 => ?_⟩
          · simp only [if_true]
            refine ⟨⟨?_, ?_⟩, fun m q0 q1 j j0 j1 => ?_⟩
            · rw [hn]
              obtain ⟨u1, u2⟩ := ha1
              rw [u1]
              split <;> split <;> split <;> omega
            · rw [hn]
              obtain ⟨u1, u2⟩ := ha1
              split <;> omega
            · rw [hn] at j1
              obtain ⟨z1, z2, z3⟩ := hcell m q0 q1
              have htm := ht m q0 q1
              rw [hN m q0 q1, c] at htm
              by_cases ej : j = 0
              · subst ej
                have hcr := crV_g (how := v (P + (13 + a)) 0) (share := v (P + (13 + a)) 3) (by omega) (by omega) (by omega) htm
                have htv := gathF_tv (how := v (P + (13 + a)) 0) (per := v (P + (13 + a)) 1) (share := v (P + (13 + a)) 3) htm
                rw [pa1.1, pa2.1, pa4.1] at htv hcr
                rw [z2, show q + 1 - 1 - 0 = q by omega, e1 m q0 (by omega), wp, wp, wp, pa1.1, pa2.1, pa4.1, hcr]
                exact ⟨rfl, htv⟩
              · have hz := z3 (j - 1) (by omega) (by omega)
                rw [show j - 1 + 1 = j by omega] at hz
                have ho := ha2 m q0 q1 (j - 1) (by omega) (by
                  obtain ⟨u1, u2⟩ := ha1
                  split at j1 <;> omega)
                rw [hz, e2 _ (by omega), show (q + 1 - 1 - j) = q - 1 - (j - 1) by omega]
                exact ho
          · simp only [if_true]
            obtain ⟨z1, z2, z3⟩ := hcell m q0 q1
            obtain ⟨y0, y1, y2⟩ := e3 m q0 (by omega)
            unfold HTt
            rw [y0, y1, y2, z1 0 (by decide) (by decide), z1 1 (by decide) (by decide), z1 5 (by decide) (by decide), z1 6 (by decide) (by decide)]
            exact ⟨by decide, by decide, by decide, fun q => absurd rfl q⟩
        · simp only [e, if_false]
          exact ⟨ha.cong ⟨a0, by omega⟩ (by omega) (fun k => hout _ _ (by omega)) (rowF_fr hn4 (by omega) (by omega) (by omega)) (fun k k0 k1 => rowF_fr hn4 (by omega) (by omega) (by omega)), fun m q0 q1 => (ht m q0 q1).cong (fun k => hout _ _ (by omega)) (fun j j0 j1 => rowF_fr hn4 (by omega) (by omega) (by omega))⟩
      · exact (g4 m q0 q1 q2).cong (fun a k a0 a1 => hout _ _ (by omega)) (fun j j0 j1 => hfr _ (by omega))
    simp only [wE_I, wE_V, wE_F, wE_A, wE_N, wE_1, wE_2, wE_D, wE_B, wE_If, wE_C, wE_CV, wE_SL, wE_SA, wA_0, wA_1, wC_B, wC_E, wC_And, wC_Or, wC_Not, wS_Skip, wS_Brk, wS_Cnt, wS_RetV, wS_Ret, wS_Seq, wS_Set, wS_Inc, wS_Do, wS_Put, wS_PutC, wS_Arr, wS_ArrC, wS_If, wS_Sw, wS_F0, wS_F1, wM_q, lu_ap, aL_ap, ct_0, ct_1, ct_2, ct_3, ct_4, ct_5, headD_1, List.mem_cons, List.not_mem_nil, or_false, false_or, or_true, true_or, true_and, and_true, false_and, and_false, not_true_eq_false, not_false_eq_true, if_true, if_false, nr_20, nr_24, nr_40, nr_41, nr_44, pt_lt, pt_ge, pt_eq, pt_ne, pt_gt, pt_le, pt_E, pt_N, pt_F, ite_10, ite_11, ne_eq, and_self, or_self, decide_true, decide_false, Bool.not_true, Bool.not_false, Bool.false_eq_true, Nat.reduceEqDiff, Nat.reduceAdd, Int.reduceEq, Int.reduceLT, Int.reduceLE, Int.reduceNeg, Int.reduceAdd, Int.reduceSub, Int.reduceMul, reduceCtorEq, iA, iS, iM, iD, iR, iN, lA, lS, lM, lD, lR, m0, m1, m2, m3, hp, wp, wM_of hrem, hSt.k, hSt.p4, hSt.a3, hSt.n3, hi4, hSt.er i hi4.1 hi4.2, hRr.k, wM_of hquo, i1]
    clear i1
    refine wM_mono ce ?_
    rintro r w' e hh
    exact fin w' (Kc.of kX7_endRow e).p hh
  · rw [if_neg c] at hms hds
    have c0 : ¬ (x + 1) % v (P + (13 + i)) 1 = 0 := by omega
    have er : rwF v M B i f = f := by
      unfold rwF
      rw [h1, ← pa2.1, if_neg c0]
    rw [er]
    simp only [wE_I, wE_V, wE_F, wE_A, wE_N, wE_1, wE_2, wE_D, wE_B, wE_If, wE_C, wE_CV, wE_SL, wE_SA, wA_0, wA_1, wC_B, wC_E, wC_And, wC_Or, wC_Not, wS_Skip, wS_Brk, wS_Cnt, wS_RetV, wS_Ret, wS_Seq, wS_Set, wS_Inc, wS_Do, wS_Put, wS_PutC, wS_Arr, wS_ArrC, wS_If, wS_Sw, wS_F0, wS_F1, wM_q, lu_ap, aL_ap, ct_0, ct_1, ct_2, ct_3, ct_4, ct_5, headD_1, List.mem_cons, List.not_mem_nil, or_false, false_or, or_true, true_or, true_and, and_true, false_and, and_false, not_true_eq_false, not_false_eq_true, if_true, if_false, nr_20, nr_24, nr_40, nr_41, nr_44, pt_lt, pt_ge, pt_eq, pt_ne, pt_gt, pt_le, pt_E, pt_N, pt_F, ite_10, ite_11, ne_eq, and_self, or_self, decide_true, decide_false, Bool.not_true, Bool.not_false, Bool.false_eq_true, Nat.reduceEqDiff, Nat.reduceAdd, Int.reduceEq, Int.reduceLT, Int.reduceLE, Int.reduceNeg, Int.reduceAdd, Int.reduceSub, Int.reduceMul, reduceCtorEq, iA, iS, iM, iD, iR, iN, lA, lS, lM, lD, lR, m0, m1, m2, m3, hp, wp, wM_of hrem, c0]
    refine ⟨Kp.rf, hw, h.conv (fun _ _ _ => Int.le_refl _) (fun a a0 a1 => ?_) (fun a m a0 a1 q0 q1 => ?_) (fun _ _ _ => Int.le_refl _)⟩
    · by_cases e : a = i
      · subst e; rw [if_pos rfl, hds, hD]
      · rw [if_neg e]
    · by_cases e : a = i
      · subst e; rw [if_pos rfl, hms, hN m q0 q1]
      · rw [if_neg e]
end ES
