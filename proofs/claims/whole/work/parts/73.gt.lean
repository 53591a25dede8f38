/-! BOXES, TURNS: both held together -/
section GT
variable {S : QS} {v w : QV} {b M P B s : Int}
theorem box_RR {u : QV} {x : Int} (h : RR S v b M P B s) (hk : Kp S v u) (hx : 0 ≤ x ∧ x ≤ 1)
    (hc : ∀ a k, a < M → ¬ (a = b + 886 ∧ k = x) → (a < b + (774 + 56 * x) ∨ b + (774 + 56 * x) + 56 ≤ a) → u a k = v a k) (c1 : u (b + 886) x = 1)
    (hm : ∀ a k, M ≤ a → a ≠ M + 37 → ¬ (a = M + 38 ∧ k = x) → u a k = v a k) (m37 : ∀ i, ¬ (1095 * x ≤ i ∧ i < 1095 * x + 1095) → u (M + 37) i = v (M + 37) i) (m38 : u (M + 38) x = 1)
    (hs : SR u P (b + (774 + 56 * x)) (fun k => u (M + 37) (1095 * x + k))) : RR S u b M P B s := by
  have hn := h.nb
  obtain ⟨⟨h1, h2, h3⟩, ⟨p1, p2, p3⟩, ⟨b1, b2⟩, ⟨s1, s2, s3⟩, r', t, ⟨u1, u2, u3, u4, u5⟩, un, re, bx, tp, fa⟩ := h
  have eb : ∀ k, u b k = v b k := fun k => hc _ _ (by omega) (by omega) (by omega)
  have eM : ∀ k, u M k = v M k := fun k => hm _ _ (by omega) (by omega) (by omega)
  have eP : ∀ a k, (a = P ∨ (P + 9 ≤ a ∧ a ≤ P + 16)) → u a k = v a k := fun a k hh => hc _ _ (by omega) (by omega) (by omega)
  have es : ∀ s', b + 45 ≤ s' → s' ≤ b + 830 → (s' + 56 ≤ b + (774 + 56 * x) ∨ b + (774 + 56 * x) + 56 ≤ s') → ∀ a k, s' ≤ a → a < s' + 56 → ¬ (a = b + 886) → u a k = v a k := fun s' g0 g1 gd a k g2 g3 g4 => hc _ _ (by omega) (by omega) (by omega)
  refine ⟨⟨h1.keep hk, h2.keep hk, h3⟩, ⟨by rw [eb]; exact p1, by rw [eb]; exact p2, p3⟩, ⟨by rw [eM]; exact b1, b2⟩, ⟨by rw [eb]; exact s1, by rw [eb]; exact s2, by rw [eb]; exact s3⟩, ?_, ?_, ?_, ?_, ?_, ?_, ?_, ?_⟩
  · exact r'.eq (fun a k g0 g1 g2 g3 g4 => hc _ _ (by omega) (by omega) (by omega)) (fun j k g0 g1 => hm _ _ (by omega) (by omega) (by omega))
  · exact SR.q hn eP (fun a k g0 g1 => es s (by omega) (by omega) (by omega) a k g0 g1 (by omega)) (fun k _ _ => hm _ _ (by omega) (by omega) (by omega)) t
  · rw [eb, eb, eM, eM]
    exact ⟨u1, u2, u3, u4, u5⟩
  · intro j g0 g1
    rw [eb] at g1
    rw [eb, eb]
    exact SR.q hn eP (fun a k g0 g1 => es _ (by omega) (by omega) (by omega) a k g0 g1 (by omega)) (fun k _ _ => hm _ _ (by omega) (by omega) (by omega)) (un j g0 g1)
  · intro j g0 g1
    rw [eb] at g1
    rw [eb, eb]
    exact SR.q hn eP (fun a k g0 g1 => es _ (by omega) (by omega) (by omega) a k g0 g1 (by omega)) (fun k _ _ => hm _ _ (by omega) (by omega) (by omega)) (re j g0 g1)
  · intro y g0 g1
    by_cases hy : y = x
    · subst hy
      rw [c1, m38]
      exact ⟨⟨rfl, Or.inr rfl⟩, fun _ => hs⟩
    · rw [hc (b + 886) y (by omega) (by omega) (by omega), hm (M + 38) y (by omega) (by omega) (by omega)]
      refine ⟨(bx y g0 g1).1, fun g2 => SR.q hn eP (fun a k g0 g1 => es _ (by omega) (by omega) (by omega) a k g0 g1 (by omega)) (fun k k0 k1 => ?_) ((bx y g0 g1).2 g2)⟩
      exact m37 _ (by omega)
  · have e1 : ∀ k, u (b + 1) k = v (b + 1) k := fun k => hc _ _ (by omega) (by omega) (by omega)
    have e2 : ∀ k, u (b + 2) k = v (b + 2) k := fun k => hc _ _ (by omega) (by omega) (by omega)
    have e3 : ∀ k, u (M + 28) k = v (M + 28) k := fun k => hm _ _ (by omega) (by omega) (by omega)
    rw [e1, eM]
    simp only [e2, e3]
    exact tp
  · rw [eb, eb, eM, eM]; exact fa
theorem q_isBox (h : RC S v b P s) {x : Int} : mX11_isBox [b, x] S v = some (if 0 ≤ x ∧ x ≤ 1 then 1 else 0, v) := by
  apply wM_eq
  simp only [mX11_isBox, sX11_isBox, wE_I, wE_V, wE_F, wE_A, wE_N, wE_1, wE_2, wE_D, wE_B, wE_If, wE_C, wE_CV, wE_SL, wE_SA, wA_0, wA_1, wC_B, wC_E, wC_And, wC_Or, wC_Not, wS_Skip, wS_Brk, wS_Cnt, wS_RetV, wS_Ret, wS_Seq, wS_Set, wS_Inc, wS_Do, wS_Put, wS_PutC, wS_Arr, wS_ArrC, wS_If, wS_Sw, wS_F0, wS_F1, wM_q, lu_ap, aL_ap, ct_0, ct_1, ct_2, ct_3, ct_4, ct_5, headD_1, List.mem_cons, List.not_mem_nil, or_false, false_or, or_true, true_or, true_and, and_true, false_and, and_false, not_true_eq_false, not_false_eq_true, if_true, if_false, nr_20, nr_24, nr_40, nr_41, nr_44, pt_lt, pt_ge, pt_eq, pt_ne, pt_gt, pt_le, pt_E, pt_N, pt_F, ite_10, ite_11, ne_eq, and_self, or_self, decide_true, decide_false, Bool.not_true, Bool.not_false, Bool.false_eq_true, Nat.reduceEqDiff, Nat.reduceAdd, Int.reduceEq, Int.reduceLT, Int.reduceLE, Int.reduceNeg, Int.reduceAdd, Int.reduceSub, Int.reduceMul, reduceCtorEq, iA, iS, iM, iD, iR, iN, lA, lS, lM, lD, lR]
  by_cases h0 : 0 ≤ x
  · by_cases h1 : x < 2
    · have : x ≤ 1 := by omega
      simp [h0, h1, this]
    · have : ¬ x ≤ 1 := by omega
      simp [h1, this]
  · simp [h0]
theorem g_image (h : RX S b v) {x : Int} : EQ S b mX11_image mX12_image [x] v := by
  have hX := h
  obtain ⟨P, B, s, h⟩ := h
  have hn := h.nb
  have hMo := h.1.2.1
  have hC := h.1.1
  have hst := h.rc.st
  unfold EQ
  by_cases hx : 0 ≤ x ∧ x ≤ 1
  · have hx2 : 0 ≤ x ∧ x < 2 := by omega
    have hsb := h.rc.sb
    have hbx := hC.b _ hx2.1 hx2.2
    simp only [mX11_image, sX11_image, wE_I, wE_V, wE_F, wE_A, wE_N, wE_1, wE_2, wE_D, wE_B, wE_If, wE_C, wE_CV, wE_SL, wE_SA, wA_0, wA_1, wC_B, wC_E, wC_And, wC_Or, wC_Not, wS_Skip, wS_Brk, wS_Cnt, wS_RetV, wS_Ret, wS_Seq, wS_Set, wS_Inc, wS_Do, wS_Put, wS_PutC, wS_Arr, wS_ArrC, wS_If, wS_Sw, wS_F0, wS_F1, wM_q, lu_ap, aL_ap, ct_0, ct_1, ct_2, ct_3, ct_4, ct_5, headD_1, List.mem_cons, List.not_mem_nil, or_false, false_or, or_true, true_or, true_and, and_true, false_and, and_false, not_true_eq_false, not_false_eq_true, if_true, if_false, nr_20, nr_24, nr_40, nr_41, nr_44, pt_lt, pt_ge, pt_eq, pt_ne, pt_gt, pt_le, pt_E, pt_N, pt_F, ite_10, ite_11, ne_eq, and_self, or_self, decide_true, decide_false, Bool.not_true, Bool.not_false, Bool.false_eq_true, Nat.reduceEqDiff, Nat.reduceAdd, Int.reduceEq, Int.reduceLT, Int.reduceLE, Int.reduceNeg, Int.reduceAdd, Int.reduceSub, Int.reduceMul, reduceCtorEq, iA, iS, iM, iD, iR, iN, lA, lS, lM, lD, lR, hC.k, wM_of (q_isBox h.rc), hx, hC.p8, hC.a773, hC.n773, hx2, hC.eb _ hx2.1 hx2.2, wM_of (q_now h.rc), hbx.k]
    refine wM_mono (c_copyS hbx hst (by omega)) ?_
    rintro z0 w e ⟨hD, hf⟩
    have kw := (Kc.of kX8_copy e).p
    have hCw := hC.keep kw
    have e5 : w b 5 = v b 5 := hf _ _ (by omega)
    have hs := h.2.2.2.1
    have f44 : ¬ b + 44 = b + 886 := by omega
    have fb : ¬ b = b + 886 := by omega
    have fs : ¬ s = b + 886 := by omega
    have hsk := hst.k
    have kz : Kp S v (vu w (b + 886) x 1) := kw.vuc (by rw [hCw.a886]; rfl)
    have hMz := hMo.keep kz
    have hnow : mX11_now [b] S (vu w (b + 886) x 1) = some (s, vu w (b + 886) x 1) := by
      have hCz := hC.keep kz
      apply wM_eq
      simp only [mX11_now, sX11_now, wE_I, wE_V, wE_F, wE_A, wE_N, wE_1, wE_2, wE_D, wE_B, wE_If, wE_C, wE_CV, wE_SL, wE_SA, wA_0, wA_1, wC_B, wC_E, wC_And, wC_Or, wC_Not, wS_Skip, wS_Brk, wS_Cnt, wS_RetV, wS_Ret, wS_Seq, wS_Set, wS_Inc, wS_Do, wS_Put, wS_PutC, wS_Arr, wS_ArrC, wS_If, wS_Sw, wS_F0, wS_F1, wM_q, lu_ap, aL_ap, ct_0, ct_1, ct_2, ct_3, ct_4, ct_5, headD_1, List.mem_cons, List.not_mem_nil, or_false, false_or, or_true, true_or, true_and, and_true, false_and, and_false, not_true_eq_false, not_false_eq_true, if_true, if_false, nr_20, nr_24, nr_40, nr_41, nr_44, pt_lt, pt_ge, pt_eq, pt_ne, pt_gt, pt_le, pt_E, pt_N, pt_F, ite_10, ite_11, ne_eq, and_self, or_self, decide_true, decide_false, Bool.not_true, Bool.not_false, Bool.false_eq_true, Nat.reduceEqDiff, Nat.reduceAdd, Int.reduceEq, Int.reduceLT, Int.reduceLE, Int.reduceNeg, Int.reduceAdd, Int.reduceSub, Int.reduceMul, reduceCtorEq, iA, iS, iM, iD, iR, iN, lA, lS, lM, lD, lR, hCz.k, hCz.p4, hCz.a44, hCz.n44, fb, vu_ne, e5, hs.1, hs.2.1, hCz.es _ hs.1 hs.2.1, hs.2.2]
    have en2 : (1 : Int) % 2 = 1 := by decide
    simp only [hCw.k, hCw.p9, hCw.a886, hCw.n886, hx2, en2, wM_of hnow, hsk, fs, vu_ne, wE_I, wE_V, wE_F, wE_A, wE_N, wE_1, wE_2, wE_D, wE_B, wE_If, wE_C, wE_CV, wE_SL, wE_SA, wA_0, wA_1, wC_B, wC_E, wC_And, wC_Or, wC_Not, wS_Skip, wS_Brk, wS_Cnt, wS_RetV, wS_Ret, wS_Seq, wS_Set, wS_Inc, wS_Do, wS_Put, wS_PutC, wS_Arr, wS_ArrC, wS_If, wS_Sw, wS_F0, wS_F1, wM_q, lu_ap, aL_ap, ct_0, ct_1, ct_2, ct_3, ct_4, ct_5, headD_1, List.mem_cons, List.not_mem_nil, or_false, false_or, or_true, true_or, true_and, and_true, false_and, and_false, not_true_eq_false, not_false_eq_true, if_true, if_false, nr_20, nr_24, nr_40, nr_41, nr_44, pt_lt, pt_ge, pt_eq, pt_ne, pt_gt, pt_le, pt_E, pt_N, pt_F, ite_10, ite_11, ne_eq, and_self, or_self, decide_true, decide_false, Bool.not_true, Bool.not_false, Bool.false_eq_true, Nat.reduceEqDiff, Nat.reduceAdd, Int.reduceEq, Int.reduceLT, Int.reduceLE, Int.reduceNeg, Int.reduceAdd, Int.reduceSub, Int.reduceMul, reduceCtorEq]
    have et : w s 0 = v s 0 := hf _ _ (by omega)
    refine wM_mono (m_image hMz hx) ?_
    rintro r u e' ⟨hr, a1, a2, a3⟩
    have ew : ∀ a k, b + 889 ≤ a → vu w (b + 886) x 1 a k = v a k := fun a k ha => by rw [vu_ne (by omega)]; exact hf _ _ (by omega)
    have ku := kz.tr (Km.of kX12_image e').p
    have t := h.2.2.2.2.2.1
    refine ⟨?_, P, B, s, box_RR h ku hx (fun a k ha hb hc => ?_) ?_ (fun a k ha hb hc => ?_) (fun i hi => ?_) ?_ ?_⟩
    · rw [hr, ew _ _ (by omega), et, t.1.1]
      obtain ⟨t1, -⟩ := t
      exact (w32_e (by omega)).symm
    · rw [a3 _ _ (by omega) (by omega), vu_ne hb]
      exact hf _ _ hc
    · rw [a3 _ _ (by omega) (by omega), vu_is]
    · by_cases h38 : a = b + 889 + 38
      · subst h38
        rw [a2, if_neg (fun q => hc ⟨rfl, q⟩)]
        exact ew _ _ (by omega)
      · rw [a3 _ _ hb h38]
        exact ew _ _ (by omega)
    · rw [a1, if_neg hi]
      exact ew _ _ (by omega)
    · rw [a2, if_pos rfl]
    · have uP : ∀ a k, (a = P ∨ (P + 9 ≤ a ∧ a ≤ P + 16)) → u a k = v a k := fun a k ha => by
        have := h.2.1.2.2
        rw [a3 _ _ (by omega) (by omega), vu_ne (by omega)]
        exact hf _ _ (by omega)
      refine SR.cong hn.1 hn.2 uP (s := s) (s' := b + (774 + 56 * x)) ?_ (fun k k0 k1 => ?_) t
      · have uu : ∀ a k, b + (774 + 56 * x) ≤ a → a < b + (774 + 56 * x) + 56 → u a k = w a k := fun a k ha hb => by
          rw [a3 _ _ (by omega) (by omega), vu_ne (by omega)]
        obtain ⟨d1, d2, d3⟩ := hD
        refine ⟨⟨by rw [uu _ _ (by omega) (by omega)]; exact d1.1, by rw [uu _ _ (by omega) (by omega)]; exact d1.2⟩, fun m m0 m1 => ?_, fun a a0 a1 => ?_⟩
        · obtain ⟨x1, x2, x3, x4⟩ := d2 m m0 m1
          refine ⟨fun k k0 k1 => by rw [uu _ _ (by omega) (by omega)]; exact x1 k k0 k1, ?_, fun j j0 j1 => ?_, fun j j0 j1 => ?_⟩
          · rw [uu _ _ (by omega) (by omega), uu _ _ (by omega) (by omega), uu _ _ (by omega) (by omega), uu _ _ (by omega) (by omega)]; exact x2
          · rw [uu _ _ (by omega) (by omega), uu _ _ (by omega) (by omega)]; exact x3 j j0 j1
          · rw [uu _ _ (by omega) (by omega), uu _ _ (by omega) (by omega)]; exact x4 j j0 j1
        · obtain ⟨x1, x2⟩ := d3 a a0 a1
          exact ⟨fun j j0 j1 => by rw [uu _ _ (by omega) (by omega)]; exact x1 j j0 j1, fun m m0 m1 k k0 k1 => by rw [uu _ _ (by omega) (by omega)]; exact x2 m m0 m1 k k0 k1⟩
      · show u (b + 889 + 37) (1095 * x + k) = v (b + 889 + 1) k
        rw [a1, if_pos (by omega), ew _ _ (by omega)]
        congr 1
        omega
  · have e1 : mX11_image [b, x] S v = some (-1, v) := by
      apply wM_eq
      simp only [mX11_image, sX11_image, wE_I, wE_V, wE_F, wE_A, wE_N, wE_1, wE_2, wE_D, wE_B, wE_If, wE_C, wE_CV, wE_SL, wE_SA, wA_0, wA_1, wC_B, wC_E, wC_And, wC_Or, wC_Not, wS_Skip, wS_Brk, wS_Cnt, wS_RetV, wS_Ret, wS_Seq, wS_Set, wS_Inc, wS_Do, wS_Put, wS_PutC, wS_Arr, wS_ArrC, wS_If, wS_Sw, wS_F0, wS_F1, wM_q, lu_ap, aL_ap, ct_0, ct_1, ct_2, ct_3, ct_4, ct_5, headD_1, List.mem_cons, List.not_mem_nil, or_false, false_or, or_true, true_or, true_and, and_true, false_and, and_false, not_true_eq_false, not_false_eq_true, if_true, if_false, nr_20, nr_24, nr_40, nr_41, nr_44, pt_lt, pt_ge, pt_eq, pt_ne, pt_gt, pt_le, pt_E, pt_N, pt_F, ite_10, ite_11, ne_eq, and_self, or_self, decide_true, decide_false, Bool.not_true, Bool.not_false, Bool.false_eq_true, Nat.reduceEqDiff, Nat.reduceAdd, Int.reduceEq, Int.reduceLT, Int.reduceLE, Int.reduceNeg, Int.reduceAdd, Int.reduceSub, Int.reduceMul, reduceCtorEq, iA, iS, iM, iD, iR, iN, lA, lS, lM, lD, lR, hC.k, wM_of (q_isBox h.rc), hx]
    have e2 : mX12_image [b + 889, x] S v = some (-1, v) := by
      apply wM_eq
      simp only [mX12_image, sX12_image, wE_I, wE_V, wE_F, wE_A, wE_N, wE_1, wE_2, wE_D, wE_B, wE_If, wE_C, wE_CV, wE_SL, wE_SA, wA_0, wA_1, wC_B, wC_E, wC_And, wC_Or, wC_Not, wS_Skip, wS_Brk, wS_Cnt, wS_RetV, wS_Ret, wS_Seq, wS_Set, wS_Inc, wS_Do, wS_Put, wS_PutC, wS_Arr, wS_ArrC, wS_If, wS_Sw, wS_F0, wS_F1, wM_q, lu_ap, aL_ap, ct_0, ct_1, ct_2, ct_3, ct_4, ct_5, headD_1, List.mem_cons, List.not_mem_nil, or_false, false_or, or_true, true_or, true_and, and_true, false_and, and_false, not_true_eq_false, not_false_eq_true, if_true, if_false, nr_20, nr_24, nr_40, nr_41, nr_44, pt_lt, pt_ge, pt_eq, pt_ne, pt_gt, pt_le, pt_E, pt_N, pt_F, ite_10, ite_11, ne_eq, and_self, or_self, decide_true, decide_false, Bool.not_true, Bool.not_false, Bool.false_eq_true, Nat.reduceEqDiff, Nat.reduceAdd, Int.reduceEq, Int.reduceLT, Int.reduceLE, Int.reduceNeg, Int.reduceAdd, Int.reduceSub, Int.reduceMul, reduceCtorEq, iA, iS, iM, iD, iR, iN, lA, lS, lM, lD, lR, wM_of m_isIn, hx]
    rw [wM_of e1, wM_of e2]
    exact ⟨rfl, hX⟩
end GT
