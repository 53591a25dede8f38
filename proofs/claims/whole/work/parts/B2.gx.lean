/-! A READING: both held together -/
theorem itF_ext {F G : Int → (Int → Int) → (Int → Int)} (h : ∀ m f, F m f = G m f) : ∀ n f, itF F n f = itF G n f
  | 0, _ => rfl
  | n + 1, f => by
    show F n _ = G n _
    rw [itF_ext h n f, h]
theorem goF_v {v w : QV} {M B later : Int} {nm f : Int → Int} (h : ∀ i k, 2 ≤ i → i ≤ 23 → w (M + i) k = v (M + i) k) : goF w M B later nm f = goF v M B later nm f := by
  have e2 := fun k => h 2 k (by decide) (by decide)
  have e3 := fun k => h 3 k (by decide) (by decide)
  have e4 := fun k => h 4 k (by decide) (by decide)
  have e8 := fun k => h 8 k (by decide) (by decide)
  have e9 := fun k => h 9 k (by decide) (by decide)
  have e10 := fun k => h 10 k (by decide) (by decide)
  have e14 := fun k => h 14 k (by decide) (by decide)
  have e15 := fun k => h 15 k (by decide) (by decide)
  have e16 := fun k => h 16 k (by decide) (by decide)
  have e17 := fun k => h 17 k (by decide) (by decide)
  have e18 := fun k => h 18 k (by decide) (by decide)
  have hfo : ∀ m x g, followF w M B m x g = followF v M B m x g := fun m x g => followF_v (fun i k i0 i1 => h i k (by omega) i1)
  have hme : ∀ m g, measF w M B m g = measF v M B m g := fun m g => by
    unfold measF
    simp only [e2, e4, e18, hfo]
  have hrs : ∀ a m g, rowS w M B a m g = rowS v M B a m g := fun a m g => by
    unfold rowS
    rw [e14, e15, e17]
  have hrf : ∀ a g, rowF w M B a g = rowF v M B a g := fun a g => by
    unfold rowF
    rw [e3, e16]
    exact itF_ext (fun m g => hrs a m g) _ _
  have hrw : ∀ a g, rwF w M B a g = rwF v M B a g := fun a g => by
    unfold rwF
    rw [e15, hrf]
  have hcl : ∀ g, closeF w M B g = closeF v M B g := fun g => by
    rw [closeF_eq, closeF_eq, e3, e4]
    rw [itF_ext (fun m g => hme m g)]
    exact itF_ext (fun a g => hrw a g) _ _
  have htk : ∀ g, tkF w M B g = tkF v M B g := fun g => by
    unfold tkF
    rw [e3]
  have hst : ∀ g, stF w M B g = stF v M B g := fun g => by
    unfold stF
    rw [e2, htk, hcl]
  have hrt : ∀ x m g, rtF w M B later x m g = rtF v M B later x m g := fun x m g => by
    unfold rtF
    rw [e8, e9, e10]
  have hhr : ∀ m g, hrF w M B later nm m g = hrF v M B later nm m g := fun m g => by
    unfold hrF
    rw [e8, e10, hrt]
  have hhe : heF w M B later nm f = heF v M B later nm f := by
    unfold heF
    rw [e3]
    exact itF_ext (fun m g => hhr m g) _ _
  unfold goF
  rw [hhe]
  exact itF_ext (fun _ g => hst g) _ _
section GX
variable {S : QS} {v w : QV} {b M P B s : Int} {f F : Int → Int}
theorem RR.num (h : RR S v b M P B s) (hq : ∀ a k, a ≠ b + 887 → w a k = v a k) (hk : Kp S v w) : RR S w b M P B s := by
  have hn := h.nb
  obtain ⟨⟨h1, h2, h3⟩, ⟨p1, p2, p3⟩, ⟨b1, b2⟩, ⟨s1, s2, s3⟩, r, t, ⟨u1, u2, u3⟩, un, re, bx, tp, fa⟩ := h
  have eb : ∀ k, w b k = v b k := fun k => hq _ _ (by omega)
  have eM : ∀ k, w M k = v M k := fun k => hq _ _ (by omega)
  have eP : ∀ a k, (a = P ∨ (P + 9 ≤ a ∧ a ≤ P + 16)) → w a k = v a k := fun a k hh => hq _ _ (by omega)
  have es : ∀ s', b + 45 ≤ s' → s' ≤ b + 830 → ∀ a k, s' ≤ a → a < s' + 56 → w a k = v a k := fun s' g0 g1 a k g2 g3 => hq _ _ (by omega)
  have em : ∀ j k, 1 ≤ j → w (M + j) k = v (M + j) k := fun j k hh => hq _ _ (by omega)
  refine ⟨⟨h1.keep hk, h2.keep hk, h3⟩, ⟨by rw [eb]; exact p1, by rw [eb]; exact p2, p3⟩, ⟨by rw [eM 28]; exact b1, b2⟩, ⟨by rw [eb]; exact s1, by rw [eb]; exact s2, by rw [eb]; exact s3⟩, ?_, ?_, ?_, ?_, ?_, ?_, ?_, ?_⟩
  · exact r.eq (fun a k g0 g1 g2 g3 g4 => hq _ _ (by omega)) (fun j k g0 g1 => em j k (by omega))
  · exact SR.q hn eP (es s (by omega) (by omega)) (fun k _ _ => em 1 k (by omega)) t
  · rw [eb, eb, eM 58, eM 59]; exact ⟨u1, u2, u3⟩
  · intro j g0 g1
    rw [eb] at g1
    rw [eb, eb]
    exact SR.q hn eP (es _ (by omega) (by omega)) (fun k _ _ => em 36 _ (by omega)) (un j g0 g1)
  · intro j g0 g1
    rw [eb] at g1
    rw [eb, eb]
    exact SR.q hn eP (es _ (by omega) (by omega)) (fun k _ _ => em 36 _ (by omega)) (re j g0 g1)
  · intro x g0 g1
    have e1 : ∀ k, w (b + 886) k = v (b + 886) k := fun k => hq _ _ (by omega)
    rw [e1, em 38 _ (by omega)]
    exact ⟨(bx x g0 g1).1, fun g2 => SR.q hn eP (es _ (by omega) (by omega)) (fun k _ _ => em 37 _ (by omega)) ((bx x g0 g1).2 g2)⟩
  · have e1 : ∀ k, w (b + 1) k = v (b + 1) k := fun k => hq _ _ (by omega)
    have e2 : ∀ k, w (b + 2) k = v (b + 2) k := fun k => hq _ _ (by omega)
    have e3 : ∀ k, w (M + 28) k = v (M + 28) k := fun k => em 28 k (by omega)
    rw [e1, eM 30]
    simp only [e2, e3]
    exact tp
  · rw [eb, eb, eM 39, eM 40]; exact fa
theorem m_give (h : LMo S v M) {x0 x1 x2 x3 : Int} : mX12_give [M, x0, x1, x2, x3] S v = some (0, vu (vu (vu (vu v (M + 32) 0 x0) (M + 32) 1 x1) (M + 32) 2 x2) (M + 32) 3 x3) := by
  have n0 : ¬ M = M + 32 := by omega
  apply wM_eq
  simp only [mX12_give, sX12_give, wE_I, wE_V, wE_F, wE_A, wE_N, wE_1, wE_2, wE_D, wE_B, wE_If, wE_C, wE_CV, wE_SL, wE_SA, wA_0, wA_1, wC_B, wC_E, wC_And, wC_Or, wC_Not, wS_Skip, wS_Brk, wS_Cnt, wS_RetV, wS_Ret, wS_Seq, wS_Set, wS_Inc, wS_Do, wS_Put, wS_PutC, wS_Arr, wS_ArrC, wS_If, wS_Sw, wS_F0, wS_F1, wM_q, lu_ap, aL_ap, ct_0, ct_1, ct_2, ct_3, ct_4, ct_5, headD_1, List.mem_cons, List.not_mem_nil, or_false, false_or, or_true, true_or, true_and, and_true, false_and, and_false, not_true_eq_false, not_false_eq_true, if_true, if_false, nr_20, nr_24, nr_40, nr_41, nr_44, pt_lt, pt_ge, pt_eq, pt_ne, pt_gt, pt_le, pt_E, pt_N, pt_F, ite_10, ite_11, ne_eq, and_self, or_self, decide_true, decide_false, Bool.not_true, Bool.not_false, Bool.false_eq_true, Nat.reduceEqDiff, Nat.reduceAdd, Int.reduceEq, Int.reduceLT, Int.reduceLE, Int.reduceNeg, Int.reduceAdd, Int.reduceSub, Int.reduceMul, reduceCtorEq, iA, iS, iM, iD, iR, iN, lA, lS, lM, lD, lR, h.k, h.p46, h.a32, h.n32, vu_ne, n0]
end GX
