/-! THE CLASS'S STATES COPIED -/
def cpv (v : QV) (a b n : Int) : QV := fun q k => if q = b ∧ 0 ≤ k ∧ k < n then v a k else v q k
theorem cp_is {v : QV} {a b n k : Int} (h : 0 ≤ k ∧ k < n) : cpv v a b n b k = v a k := if_pos ⟨rfl, h⟩
theorem cp_ne {v : QV} {a b n q k : Int} (h : ¬ q = b) : cpv v a b n q k = v q k := if_neg (fun z => h z.1)
theorem wS_Copy0 {L : QL} {S : QS} {v : QV} {Q : Nat → Int → QL → QV → Prop} {κ : Nat} {a b : QE} {n : Int} : wS (sCopy κ a (eI 0) b (eI 0) (eI n)) L S v Q ↔ wE a L S v (fun ra w1 => wE b L S w1 (fun rb w2 => (S.1 ra = κ ∧ S.1 rb = κ ∧ 0 ≤ n ∧ n ≤ S.2.1 ra ∧ n ≤ S.2.1 rb) ∧ Q 0 0 L (cpv w2 ra rb n))) := by
  have e : ∀ (w : QV) (ra rb : Int), (fun q k => if q = rb ∧ (0 : Int) ≤ k ∧ k < 0 + n then w ra (0 + (k - 0)) else w q k) = cpv w ra rb n := by
    intro w ra rb
    funext q k
    unfold cpv
    rw [Int.zero_add, Int.zero_add, Int.sub_zero]
  rw [wS_Copy]
  simp only [wE_I]
  constructor
  · refine fun h => wE_mono h (fun ra w1 h => wE_mono h (fun rb w2 h => ?_))
    obtain ⟨⟨h1, h2, -, -, h3, h4, h5⟩, q⟩ := h
    rw [Int.zero_add] at h4 h5
    rw [e] at q
    exact ⟨⟨h1, h2, h3, h4, h5⟩, q⟩
  · refine fun h => wE_mono h (fun ra w1 h => wE_mono h (fun rb w2 h => ?_))
    obtain ⟨⟨h1, h2, h3, h4, h5⟩, q⟩ := h
    exact ⟨⟨h1, h2, Int.le_refl 0, Int.le_refl 0, h3, by rw [Int.zero_add]; exact h4, by rw [Int.zero_add]; exact h5⟩, by rw [e]; exact q⟩
section CP
variable {S : QS} {v w : QV} {b M P B s : Int}
theorem Kp.cp {a c n : Int} (h : Kp S v w) (hc : ∀ k, Wc (S.1 c) k = true) : Kp S v (cpv w a c n) := by
  intro q k h1 h2
  by_cases e : q = c
  · rw [e, hc] at h1; cases h1
  · rw [cp_ne e]; exact h q k h1 h2
/-- a field put where another thing has it -/
theorem c_put {ci i j : Nat} {k : Int} {rest : QT} {L : QL} {Q : Nat → Int → QL → QV → Prop} (hi : S.1 (L i) = ci + 1) (hj : S.1 (L j) = ci + 1) (h : wS rest L S (vu v (L i) k (v (L j) k)) Q) : wS (sSeq (sPut ci k (eV i) (eF ci k (eV j))) rest) L S v Q := by
  rw [wS_Seq, wS_Put, wE_V, wE_F, wE_V]
  exact ⟨hj, hi, h⟩
/-- the first n fields are put -/
def Cpn (v : QV) (t t' n : Int) (u : QV) : Prop := (∀ k, 0 ≤ k → k < n → u t k = v t' k) ∧ ∀ a k, a ≠ t → u a k = v a k
theorem Cpn.z {t t' : Int} : Cpn v t t' 0 v := ⟨fun k h0 h1 => by omega, fun _ _ _ => rfl⟩
theorem Cpn.nx {t t' n : Int} {u : QV} (h : Cpn v t t' n u) (hne : ¬ t' = t) : Cpn v t t' (n + 1) (vu u t n (u t' n)) := by
  refine ⟨fun k h0 h1 => ?_, fun a k ha => ?_⟩
  · rw [vu_ap]
    by_cases hk : k = n
    · rw [if_pos ⟨rfl, hk⟩, hk]
      exact h.2 _ _ hne
    · rw [if_neg (fun q => hk q.2)]
      exact h.1 k h0 (by omega)
  · rw [vu_ne (fun q => ha q.1)]
    exact h.2 a k ha
theorem c_copyM {t t' : Int} (h1 : S.1 t = 4) (h2 : S.1 t' = 4) (hne : ¬ t' = t) : wM mX3_copy [t, t'] S v (fun _ w => (∀ k, 0 ≤ k → k < 10 → w t k = v t' k) ∧ ∀ a k, a ≠ t → w a k = v a k) := by
  rw [mX3_copy, wM_q, sX3_copy]
  generalize hL : aL 0 [2, 2] [t, t'] = L
  have l0 : L 0 = t := by rw [← hL]; rfl
  have l1 : L 1 = t' := by rw [← hL]; rfl
  have k0 : S.1 (L 0) = 3 + 1 := by rw [l0]; exact h1
  have k1 : S.1 (L 1) = 3 + 1 := by rw [l1]; exact h2
  have z0 := Cpn.z (v := v) (t := t) (t' := t')
  refine c_put k0 k1 ?_
  have z1 : Cpn v t t' 1 _ := z0.nx hne
  rw [l0, l1]
  generalize vu v t 0 (v t' 0) = u1 at z1 ⊢
  refine c_put k0 k1 ?_
  have z2 : Cpn v t t' 2 _ := z1.nx hne
  rw [l0, l1]
  generalize vu u1 t 1 (u1 t' 1) = u2 at z2 ⊢
  refine c_put k0 k1 ?_
  have z3 : Cpn v t t' 3 _ := z2.nx hne
  rw [l0, l1]
  generalize vu u2 t 2 (u2 t' 2) = u3 at z3 ⊢
  refine c_put k0 k1 ?_
  have z4 : Cpn v t t' 4 _ := z3.nx hne
  rw [l0, l1]
  generalize vu u3 t 3 (u3 t' 3) = u4 at z4 ⊢
  refine c_put k0 k1 ?_
  have z5 : Cpn v t t' 5 _ := z4.nx hne
  rw [l0, l1]
  generalize vu u4 t 4 (u4 t' 4) = u5 at z5 ⊢
  refine c_put k0 k1 ?_
  have z6 : Cpn v t t' 6 _ := z5.nx hne
  rw [l0, l1]
  generalize vu u5 t 5 (u5 t' 5) = u6 at z6 ⊢
  refine c_put k0 k1 ?_
  have z7 : Cpn v t t' 7 _ := z6.nx hne
  rw [l0, l1]
  generalize vu u6 t 6 (u6 t' 6) = u7 at z7 ⊢
  refine c_put k0 k1 ?_
  have z8 : Cpn v t t' 8 _ := z7.nx hne
  rw [l0, l1]
  generalize vu u7 t 7 (u7 t' 7) = u8 at z8 ⊢
  refine c_put k0 k1 ?_
  have z9 : Cpn v t t' 9 _ := z8.nx hne
  rw [l0, l1]
  generalize vu u8 t 8 (u8 t' 8) = u9 at z9 ⊢
  refine c_put k0 k1 ?_
  have z10 : Cpn v t t' 10 _ := z9.nx hne
  rw [l0, l1]
  generalize vu u9 t 9 (u9 t' 9) = u10 at z10 ⊢
  rw [wS_RetV]
  exact ⟨rfl, z10⟩
theorem c_copyT {t t' : Int} (h1 : S.1 t = 10) (h2 : S.1 t' = 10) (hne : ¬ t' = t) : wM mX9_copy [t, t'] S v (fun _ w => (∀ k, 0 ≤ k → k < 6 → w t k = v t' k) ∧ ∀ a k, a ≠ t → w a k = v a k) := by
  rw [mX9_copy, wM_q, sX9_copy]
  generalize hL : aL 0 [2, 2] [t, t'] = L
  have l0 : L 0 = t := by rw [← hL]; rfl
  have l1 : L 1 = t' := by rw [← hL]; rfl
  have k0 : S.1 (L 0) = 9 + 1 := by rw [l0]; exact h1
  have k1 : S.1 (L 1) = 9 + 1 := by rw [l1]; exact h2
  have z0 := Cpn.z (v := v) (t := t) (t' := t')
  refine c_put k0 k1 ?_
  have z1 : Cpn v t t' 1 _ := z0.nx hne
  rw [l0, l1]
  generalize vu v t 0 (v t' 0) = u1 at z1 ⊢
  refine c_put k0 k1 ?_
  have z2 : Cpn v t t' 2 _ := z1.nx hne
  rw [l0, l1]
  generalize vu u1 t 1 (u1 t' 1) = u2 at z2 ⊢
  refine c_put k0 k1 ?_
  have z3 : Cpn v t t' 3 _ := z2.nx hne
  rw [l0, l1]
  generalize vu u2 t 2 (u2 t' 2) = u3 at z3 ⊢
  refine c_put k0 k1 ?_
  have z4 : Cpn v t t' 4 _ := z3.nx hne
  rw [l0, l1]
  generalize vu u3 t 3 (u3 t' 3) = u4 at z4 ⊢
  refine c_put k0 k1 ?_
  have z5 : Cpn v t t' 5 _ := z4.nx hne
  rw [l0, l1]
  generalize vu u4 t 4 (u4 t' 4) = u5 at z5 ⊢
  refine c_put k0 k1 ?_
  have z6 : Cpn v t t' 6 _ := z5.nx hne
  rw [l0, l1]
  generalize vu u5 t 5 (u5 t' 5) = u6 at z6 ⊢
  rw [wS_RetV]
  exact ⟨rfl, z6⟩
theorem c_cpy {κ i j : Nat} {ci : Nat} {p p' f n x y : Int} {rest : QT} {L : QL} {Q : Nat → Int → QL → QV → Prop} (hi : L i = x ∧ S.1 x = ci + 1 ∧ v x f = p) (hj : L j = y ∧ S.1 y = ci + 1 ∧ v y f = p') (hk : S.1 p = κ ∧ S.1 p' = κ ∧ 0 ≤ n ∧ n ≤ S.2.1 p ∧ n ≤ S.2.1 p') (h : wS rest L S (cpv v p p' n) Q) : wS (sSeq (sCopy κ (eF ci f (eV i)) (eI 0) (eF ci f (eV j)) (eI 0) (eI n)) rest) L S v Q := by
  rw [wS_Seq, wS_Copy0, wE_F, wE_V]
  refine ⟨by rw [hi.1]; exact hi.2.1, ?_⟩
  rw [wE_F, wE_V]
  refine ⟨by rw [hj.1]; exact hj.2.1, ?_⟩
  rw [hi.1, hj.1, hi.2.2, hj.2.2]
  exact ⟨hk, h⟩
theorem c_copyO {o o' : Int} (h1 : LOu S v o) (h2 : LOu S v o') (hne : o + 5 ≤ o' ∨ o' + 5 ≤ o) : wM mX4_copy [o, o'] S v (fun _ w => (w o 0 = v o' 0 ∧ w o 1 = v o' 1 ∧ w o 2 = v o' 2 ∧ w o 7 = v o' 7) ∧ (∀ j, 0 ≤ j → j < 24 → w (o + 1) j = v (o' + 1) j ∧ w (o + 2) j = v (o' + 2) j) ∧ (∀ j, 0 ≤ j → j < 30 → w (o + 3) j = v (o' + 3) j ∧ w (o + 4) j = v (o' + 4) j) ∧ ∀ a k, (a < o ∨ o + 5 ≤ a) → w a k = v a k) := by
  rw [mX4_copy, wM_q, sX4_copy]
  generalize hL : aL 0 [2, 2] [o, o'] = L
  have l0 : L 0 = o := by rw [← hL]; rfl
  have l1 : L 1 = o' := by rw [← hL]; rfl
  have k0 : S.1 (L 0) = 4 + 1 := by rw [l0]; exact h1.k
  have k1 : S.1 (L 1) = 4 + 1 := by rw [l1]; exact h2.k
  have n0 : ¬ o' = o := by omega
  refine c_put k0 k1 (c_put k0 k1 (c_put k0 k1 (c_put k0 k1 ?_)))
  rw [l0, l1]
  have e1 : vu v o 0 (v o' 0) o' 1 = v o' 1 := vu_ne (fun q => n0 q.1)
  rw [e1]
  have e2 : vu (vu v o 0 (v o' 0)) o 1 (v o' 1) o' 2 = v o' 2 := by rw [vu_ne (fun q => n0 q.1), vu_ne (fun q => n0 q.1)]
  rw [e2]
  have e3 : vu (vu (vu v o 0 (v o' 0)) o 1 (v o' 1)) o 2 (v o' 2) o' 7 = v o' 7 := by rw [vu_ne (fun q => n0 q.1), vu_ne (fun q => n0 q.1), vu_ne (fun q => n0 q.1)]
  rw [e3]
  have f0 : vu (vu (vu (vu v o 0 (v o' 0)) o 1 (v o' 1)) o 2 (v o' 2)) o 7 (v o' 7) o 0 = v o' 0 := by rw [vu_ne (by omega), vu_ne (by omega), vu_ne (by omega), vu_is]
  have f1 : vu (vu (vu (vu v o 0 (v o' 0)) o 1 (v o' 1)) o 2 (v o' 2)) o 7 (v o' 7) o 1 = v o' 1 := by rw [vu_ne (by omega), vu_ne (by omega), vu_is]
  have f2 : vu (vu (vu (vu v o 0 (v o' 0)) o 1 (v o' 1)) o 2 (v o' 2)) o 7 (v o' 7) o 2 = v o' 2 := by rw [vu_ne (by omega), vu_is]
  have f7 : vu (vu (vu (vu v o 0 (v o' 0)) o 1 (v o' 1)) o 2 (v o' 2)) o 7 (v o' 7) o 7 = v o' 7 := vu_is
  have fp : ∀ k, ¬ k = 0 → ¬ k = 1 → ¬ k = 2 → ¬ k = 7 → vu (vu (vu (vu v o 0 (v o' 0)) o 1 (v o' 1)) o 2 (v o' 2)) o 7 (v o' 7) o k = v o k := fun k q0 q1 q2 q7 => by rw [vu_ne (fun q => q7 q.2), vu_ne (fun q => q2 q.2), vu_ne (fun q => q1 q.2), vu_ne (fun q => q0 q.2)]
  have fa : ∀ a k, ¬ a = o → vu (vu (vu (vu v o 0 (v o' 0)) o 1 (v o' 1)) o 2 (v o' 2)) o 7 (v o' 7) a k = v a k := fun a k q0 => by rw [vu_ne (fun q => q0 q.1), vu_ne (fun q => q0 q.1), vu_ne (fun q => q0 q.1), vu_ne (fun q => q0 q.1)]
  generalize vu (vu (vu (vu v o 0 (v o' 0)) o 1 (v o' 1)) o 2 (v o' 2)) o 7 (v o' 7) = u at *
  have g3 : u o 3 = o + 1 := (fp 3 (by decide) (by decide) (by decide) (by decide)).trans h1.p3
  have g4 : u o 4 = o + 2 := (fp 4 (by decide) (by decide) (by decide) (by decide)).trans h1.p4
  have g5 : u o 5 = o + 3 := (fp 5 (by decide) (by decide) (by decide) (by decide)).trans h1.p5
  have g6 : u o 6 = o + 4 := (fp 6 (by decide) (by decide) (by decide) (by decide)).trans h1.p6
  have g3' : u o' 3 = o' + 1 := (fa _ _ n0).trans h2.p3
  have g4' : u o' 4 = o' + 2 := (fa _ _ n0).trans h2.p4
  have g5' : u o' 5 = o' + 3 := (fa _ _ n0).trans h2.p5
  have g6' : u o' 6 = o' + 4 := (fa _ _ n0).trans h2.p6
  refine c_cpy ⟨l1, h2.k, g3'⟩ ⟨l0, h1.k, g3⟩ ⟨h2.a1, h1.a1, by decide, by rw [h2.n1]; decide, by rw [h1.n1]; decide⟩ ?_
  refine c_cpy ⟨l1, h2.k, by rw [cp_ne (by omega)]; exact g4'⟩ ⟨l0, h1.k, by rw [cp_ne (by omega)]; exact g4⟩ ⟨h2.a2, h1.a2, by decide, by rw [h2.n2]; decide, by rw [h1.n2]; decide⟩ ?_
  refine c_cpy ⟨l1, h2.k, by rw [cp_ne (by omega), cp_ne (by omega)]; exact g5'⟩ ⟨l0, h1.k, by rw [cp_ne (by omega), cp_ne (by omega)]; exact g5⟩ ⟨h2.a3, h1.a3, by decide, by rw [h2.n3]; decide, by rw [h1.n3]; decide⟩ ?_
  refine c_cpy ⟨l1, h2.k, by rw [cp_ne (by omega), cp_ne (by omega), cp_ne (by omega)]; exact g6'⟩ ⟨l0, h1.k, by rw [cp_ne (by omega), cp_ne (by omega), cp_ne (by omega)]; exact g6⟩ ⟨h2.a4, h1.a4, by decide, by rw [h2.n4]; decide, by rw [h1.n4]; decide⟩ ?_
  rw [wS_RetV]
  refine ⟨rfl, ⟨?_, ?_, ?_, ?_⟩, fun j g0 g1 => ⟨?_, ?_⟩, fun j g0 g1 => ⟨?_, ?_⟩, fun a k ha => ?_⟩
  · rw [cp_ne (by omega), cp_ne (by omega), cp_ne (by omega), cp_ne (by omega)]; exact f0
  · rw [cp_ne (by omega), cp_ne (by omega), cp_ne (by omega), cp_ne (by omega)]; exact f1
  · rw [cp_ne (by omega), cp_ne (by omega), cp_ne (by omega), cp_ne (by omega)]; exact f2
  · rw [cp_ne (by omega), cp_ne (by omega), cp_ne (by omega), cp_ne (by omega)]; exact f7
  · rw [cp_ne (by omega), cp_ne (by omega), cp_ne (by omega), cp_is ⟨g0, g1⟩]; exact fa _ _ (by omega)
  · rw [cp_ne (by omega), cp_ne (by omega), cp_is ⟨g0, g1⟩, cp_ne (by omega)]; exact fa _ _ (by omega)
  · rw [cp_ne (by omega), cp_is ⟨g0, g1⟩, cp_ne (by omega), cp_ne (by omega)]; exact fa _ _ (by omega)
  · rw [cp_is ⟨g0, g1⟩, cp_ne (by omega), cp_ne (by omega), cp_ne (by omega)]; exact fa _ _ (by omega)
  · rw [cp_ne (by omega), cp_ne (by omega), cp_ne (by omega), cp_ne (by omega)]; exact fa _ _ (by omega)
theorem c_copyR {r r' : Int} (h1 : LRi S v r) (h2 : LRi S v r') (hne : r + 7 ≤ r' ∨ r' + 7 ≤ r) : wM mX7_copy [r, r'] S v (fun _ w => (∀ j, 0 ≤ j → j < 120 → w (r + 1) j = v (r' + 1) j) ∧ (∀ m, 0 ≤ m → m < 4 → ∀ k, 0 ≤ k → k < 6 → w (r + (3 + m)) k = v (r' + (3 + m)) k) ∧ (∀ a k, (a < r ∨ r + 7 ≤ a) → w a k = v a k) ∧ Kp S v w) := by
  simp only [mX7_copy, sX7_copy, wE_I, wE_V, wE_F, wE_A, wE_N, wE_1, wE_2, wE_D, wE_B, wE_If, wE_C, wE_CV, wE_SL, wE_SA, wA_0, wA_1, wC_B, wC_E, wC_And, wC_Or, wC_Not, wS_Skip, wS_Brk, wS_Cnt, wS_RetV, wS_Ret, wS_Seq, wS_Set, wS_Inc, wS_Do, wS_Put, wS_PutC, wS_Arr, wS_ArrC, wS_If, wS_Sw, wS_F0, wS_F1, wM_q, lu_ap, aL_ap, ct_0, ct_1, ct_2, ct_3, ct_4, ct_5, headD_1, List.mem_cons, List.not_mem_nil, or_false, false_or, or_true, true_or, true_and, and_true, false_and, and_false, not_true_eq_false, not_false_eq_true, if_true, if_false, nr_20, nr_24, nr_40, nr_41, nr_44, pt_lt, pt_ge, pt_eq, pt_ne, pt_gt, pt_le, pt_E, pt_N, pt_F, ite_10, ite_11, ne_eq, and_self, or_self, decide_true, decide_false, Bool.not_true, Bool.not_false, Bool.false_eq_true, Nat.reduceEqDiff, Nat.reduceAdd, Int.reduceEq, Int.reduceLT, Int.reduceLE, Int.reduceNeg, Int.reduceAdd, Int.reduceSub, Int.reduceMul, reduceCtorEq, iA, iS, iM, iD, iR, iN, lA, lS, lM, lD, lR, wS_Copy0, h1.k, h2.k, h1.p0, h2.p0, h1.a1, h2.a1, h1.n1, h2.n1, Int.le_refl]
  refine wS_For 4 (fun j L w => (L 0 = r ∧ L 1 = r' ∧ L 2 = j) ∧ (∀ j, 0 ≤ j → j < 120 → w (r + 1) j = v (r' + 1) j) ∧ (∀ m : Int, 0 ≤ m → m < j → ∀ k, 0 ≤ k → k < 6 → w (r + (3 + m)) k = v (r' + (3 + m)) k) ∧ (∀ a k, (a < r ∨ r + 7 ≤ a) → w a k = v a k) ∧ Kp S v w) (by decide) ?_ ?_ ?_
  · refine ⟨?_, fun j g0 g1 => cp_is ⟨g0, g1⟩, fun m g0 g1 => by omega, fun a k ha => cp_ne (by omega), Kp.rf.cp (fun k => by rw [h1.a1]; rfl)⟩
    simp [lu_ap, aL_ap, ct_0, ct_2]
  · rintro j L w hj ⟨⟨m0, m1, m2⟩, hc, ht, hf, hk⟩
    have w1 := h1.keep hk
    have w2 := h2.keep hk
    have hj4 : 0 ≤ (j : Int) ∧ (j : Int) < 4 := by omega
    simp only [cX7_copy_1, bX7_copy_1, uX7_copy_1, wE_I, wE_V, wE_F, wE_A, wE_N, wE_1, wE_2, wE_D, wE_B, wE_If, wE_C, wE_CV, wE_SL, wE_SA, wA_0, wA_1, wC_B, wC_E, wC_And, wC_Or, wC_Not, wS_Skip, wS_Brk, wS_Cnt, wS_RetV, wS_Ret, wS_Seq, wS_Set, wS_Inc, wS_Do, wS_Put, wS_PutC, wS_Arr, wS_ArrC, wS_If, wS_Sw, wS_F0, wS_F1, wM_q, lu_ap, aL_ap, ct_0, ct_1, ct_2, ct_3, ct_4, ct_5, headD_1, List.mem_cons, List.not_mem_nil, or_false, false_or, or_true, true_or, true_and, and_true, false_and, and_false, not_true_eq_false, not_false_eq_true, if_true, if_false, nr_20, nr_24, nr_40, nr_41, nr_44, pt_lt, pt_ge, pt_eq, pt_ne, pt_gt, pt_le, pt_E, pt_N, pt_F, ite_10, ite_11, ne_eq, and_self, or_self, decide_true, decide_false, Bool.not_true, Bool.not_false, Bool.false_eq_true, Nat.reduceEqDiff, Nat.reduceAdd, Int.reduceEq, Int.reduceLT, Int.reduceLE, Int.reduceNeg, Int.reduceAdd, Int.reduceSub, Int.reduceMul, reduceCtorEq, iA, iS, iM, iD, iR, iN, lA, lS, lM, lD, lR, m0, m1, m2, w1.k, w2.k, w1.p1, w2.p1, w1.a2, w2.a2, w1.n2, w2.n2, hj4, w1.e _ hj4.1 hj4.2, w2.e _ hj4.1 hj4.2, w1.t _ hj4.1 hj4.2, w32_s (show j < 1000 by omega)]
    refine wM_mono (c_copyT (w1.t _ hj4.1 hj4.2) (w2.t _ hj4.1 hj4.2) (by omega)) ?_
    rintro z0 u e ⟨e1, e2⟩
    refine ⟨fun q g0 g1 => by rw [e2 _ _ (by omega)]; exact hc q g0 g1, fun m g0 g1 k k0 k1 => ?_, fun a k ha => by rw [e2 _ _ (by omega)]; exact hf a k ha, hk.tr (Kc.of kX9_copy e).p⟩
    by_cases hm : m = j
    · subst hm
      rw [e1 k k0 k1]
      exact hf _ _ (by omega)
    · rw [e2 _ _ (by omega)]
      exact ht m g0 (by omega) k k0 k1
  · rintro L w ⟨⟨m0, m1, m2⟩, hc, ht, hf, hk⟩
    simp only [cX7_copy_1, wE_I, wE_V, wE_F, wE_A, wE_N, wE_1, wE_2, wE_D, wE_B, wE_If, wE_C, wE_CV, wE_SL, wE_SA, wA_0, wA_1, wC_B, wC_E, wC_And, wC_Or, wC_Not, wS_Skip, wS_Brk, wS_Cnt, wS_RetV, wS_Ret, wS_Seq, wS_Set, wS_Inc, wS_Do, wS_Put, wS_PutC, wS_Arr, wS_ArrC, wS_If, wS_Sw, wS_F0, wS_F1, wM_q, lu_ap, aL_ap, ct_0, ct_1, ct_2, ct_3, ct_4, ct_5, headD_1, List.mem_cons, List.not_mem_nil, or_false, false_or, or_true, true_or, true_and, and_true, false_and, and_false, not_true_eq_false, not_false_eq_true, if_true, if_false, nr_20, nr_24, nr_40, nr_41, nr_44, pt_lt, pt_ge, pt_eq, pt_ne, pt_gt, pt_le, pt_E, pt_N, pt_F, ite_10, ite_11, ne_eq, and_self, or_self, decide_true, decide_false, Bool.not_true, Bool.not_false, Bool.false_eq_true, Nat.reduceEqDiff, Nat.reduceAdd, Int.reduceEq, Int.reduceLT, Int.reduceLE, Int.reduceNeg, Int.reduceAdd, Int.reduceSub, Int.reduceMul, reduceCtorEq, iA, iS, iM, iD, iR, iN, lA, lS, lM, lD, lR, m2]
    exact ⟨by decide, hc, ht, hf, hk⟩
theorem c_copyS {d o : Int} (h1 : LSt S v d) (h2 : LSt S v o) (hne : d + 56 ≤ o ∨ o + 56 ≤ d) : wM mX8_copy [d, o] S v (fun _ w => Dq v o w d ∧ (∀ a k, (a < d ∨ d + 56 ≤ a) → w a k = v a k)) := by
  have n0 : ¬ o = d := by omega
  simp only [mX8_copy, sX8_copy, wE_I, wE_V, wE_F, wE_A, wE_N, wE_1, wE_2, wE_D, wE_B, wE_If, wE_C, wE_CV, wE_SL, wE_SA, wA_0, wA_1, wC_B, wC_E, wC_And, wC_Or, wC_Not, wS_Skip, wS_Brk, wS_Cnt, wS_RetV, wS_Ret, wS_Seq, wS_Set, wS_Inc, wS_Do, wS_Put, wS_PutC, wS_Arr, wS_ArrC, wS_If, wS_Sw, wS_F0, wS_F1, wM_q, lu_ap, aL_ap, ct_0, ct_1, ct_2, ct_3, ct_4, ct_5, headD_1, List.mem_cons, List.not_mem_nil, or_false, false_or, or_true, true_or, true_and, and_true, false_and, and_false, not_true_eq_false, not_false_eq_true, if_true, if_false, nr_20, nr_24, nr_40, nr_41, nr_44, pt_lt, pt_ge, pt_eq, pt_ne, pt_gt, pt_le, pt_E, pt_N, pt_F, ite_10, ite_11, ne_eq, and_self, or_self, decide_true, decide_false, Bool.not_true, Bool.not_false, Bool.false_eq_true, Nat.reduceEqDiff, Nat.reduceAdd, Int.reduceEq, Int.reduceLT, Int.reduceLE, Int.reduceNeg, Int.reduceAdd, Int.reduceSub, Int.reduceMul, reduceCtorEq, iA, iS, iM, iD, iR, iN, lA, lS, lM, lD, lR, h1.k, h2.k, n0, vu_ne]
  refine wS_For 4 (fun j L w => (L 0 = d ∧ L 1 = o ∧ L 2 = j) ∧ (w d 0 = v o 0 ∧ w d 1 = v o 1) ∧ (∀ m : Int, 0 ≤ m → m < j → (∀ k, 0 ≤ k → k < 10 → w (d + (4 + 6 * m)) k = v (o + (4 + 6 * m)) k) ∧ (w (d + (5 + 6 * m)) 0 = v (o + (5 + 6 * m)) 0 ∧ w (d + (5 + 6 * m)) 1 = v (o + (5 + 6 * m)) 1 ∧ w (d + (5 + 6 * m)) 2 = v (o + (5 + 6 * m)) 2 ∧ w (d + (5 + 6 * m)) 7 = v (o + (5 + 6 * m)) 7) ∧ (∀ j, 0 ≤ j → j < 24 → w (d + (5 + 6 * m) + 1) j = v (o + (5 + 6 * m) + 1) j ∧ w (d + (5 + 6 * m) + 2) j = v (o + (5 + 6 * m) + 2) j) ∧ (∀ j, 0 ≤ j → j < 30 → w (d + (5 + 6 * m) + 3) j = v (o + (5 + 6 * m) + 3) j ∧ w (d + (5 + 6 * m) + 4) j = v (o + (5 + 6 * m) + 4) j)) ∧ (∀ a k, (a < d ∨ d + 56 ≤ a) → w a k = v a k) ∧ Kp S v w) (by decide) ?_ ?_ ?_
  · refine ⟨?_, ⟨by simp [vu_ap], by simp [vu_ap]⟩, fun m g0 g1 => by omega, fun a k ha => by rw [vu_ne (by omega), vu_ne (by omega)], (Kp.rf.vuc (by rw [h1.k]; rfl)).vuc (by rw [h1.k]; rfl)⟩
    simp [lu_ap, aL_ap, ct_0, ct_2]
  · rintro j L w hj ⟨⟨m0, m1, m2⟩, hd, hc, hf, hk⟩
    have w1 := h1.keep hk
    have w2 := h2.keep hk
    have hj4 : 0 ≤ (j : Int) ∧ (j : Int) < 4 := by omega
    simp only [cX8_copy_1, bX8_copy_1, uX8_copy_1, wE_I, wE_V, wE_F, wE_A, wE_N, wE_1, wE_2, wE_D, wE_B, wE_If, wE_C, wE_CV, wE_SL, wE_SA, wA_0, wA_1, wC_B, wC_E, wC_And, wC_Or, wC_Not, wS_Skip, wS_Brk, wS_Cnt, wS_RetV, wS_Ret, wS_Seq, wS_Set, wS_Inc, wS_Do, wS_Put, wS_PutC, wS_Arr, wS_ArrC, wS_If, wS_Sw, wS_F0, wS_F1, wM_q, lu_ap, aL_ap, ct_0, ct_1, ct_2, ct_3, ct_4, ct_5, headD_1, List.mem_cons, List.not_mem_nil, or_false, false_or, or_true, true_or, true_and, and_true, false_and, and_false, not_true_eq_false, not_false_eq_true, if_true, if_false, nr_20, nr_24, nr_40, nr_41, nr_44, pt_lt, pt_ge, pt_eq, pt_ne, pt_gt, pt_le, pt_E, pt_N, pt_F, ite_10, ite_11, ne_eq, and_self, or_self, decide_true, decide_false, Bool.not_true, Bool.not_false, Bool.false_eq_true, Nat.reduceEqDiff, Nat.reduceAdd, Int.reduceEq, Int.reduceLT, Int.reduceLE, Int.reduceNeg, Int.reduceAdd, Int.reduceSub, Int.reduceMul, reduceCtorEq, iA, iS, iM, iD, iR, iN, lA, lS, lM, lD, lR, m0, m1, m2, w1.k, w2.k, w1.p2, w2.p2, w1.a1, w2.a1, w1.n1, w2.n1, hj4, w1.em _ hj4.1 hj4.2, w2.em _ hj4.1 hj4.2, w1.m _ hj4.1 hj4.2, w32_s (show j < 1000 by omega)]
    refine wM_mono (c_copyM (w1.m _ hj4.1 hj4.2) (w2.m _ hj4.1 hj4.2) (by omega)) ?_
    rintro z0 u e ⟨e1, e2⟩
    have hk2 := hk.tr (Kc.of kX3_copy e).p
    have u1 := h1.keep hk2
    have u2 := h2.keep hk2
    simp only [u1.k, u2.k, u1.p3, u2.p3, u1.a2, u2.a2, u1.n2, u2.n2, hj4, u1.eo _ hj4.1 hj4.2, u2.eo _ hj4.1 hj4.2, (u1.o _ hj4.1 hj4.2).k, wE_I, wE_V, wE_F, wE_A, wE_N, wE_1, wE_2, wE_D, wE_B, wE_If, wE_C, wE_CV, wE_SL, wE_SA, wA_0, wA_1, wC_B, wC_E, wC_And, wC_Or, wC_Not, wS_Skip, wS_Brk, wS_Cnt, wS_RetV, wS_Ret, wS_Seq, wS_Set, wS_Inc, wS_Do, wS_Put, wS_PutC, wS_Arr, wS_ArrC, wS_If, wS_Sw, wS_F0, wS_F1, wM_q, lu_ap, aL_ap, ct_0, ct_1, ct_2, ct_3, ct_4, ct_5, headD_1, List.mem_cons, List.not_mem_nil, or_false, false_or, or_true, true_or, true_and, and_true, false_and, and_false, not_true_eq_false, not_false_eq_true, if_true, if_false, nr_20, nr_24, nr_40, nr_41, nr_44, pt_lt, pt_ge, pt_eq, pt_ne, pt_gt, pt_le, pt_E, pt_N, pt_F, ite_10, ite_11, ne_eq, and_self, or_self, decide_true, decide_false, Bool.not_true, Bool.not_false, Bool.false_eq_true, Nat.reduceEqDiff, Nat.reduceAdd, Int.reduceEq, Int.reduceLT, Int.reduceLE, Int.reduceNeg, Int.reduceAdd, Int.reduceSub, Int.reduceMul, reduceCtorEq]
    refine wM_mono (c_copyO (u1.o _ hj4.1 hj4.2) (u2.o _ hj4.1 hj4.2) (by omega)) ?_
    rintro z0 z e' ⟨f1, f2, f3, f4⟩
    have fz : ∀ a k, ¬ a = d + (4 + 6 * (j : Int)) → (a < d + (5 + 6 * (j : Int)) ∨ d + (5 + 6 * (j : Int)) + 5 ≤ a) → z a k = w a k := fun a k g0 g1 => (f4 a k g1).trans (e2 a k g0)
    have fo : ∀ a k, o ≤ a → a < o + 56 → u a k = v a k := fun a k g0 g1 => (e2 a k (by omega)).trans (hf a k (by omega))
    refine ⟨⟨by rw [fz _ _ (by omega) (by omega)]; exact hd.1, by rw [fz _ _ (by omega) (by omega)]; exact hd.2⟩, fun m g0 g1 => ?_, fun a k ha => by rw [fz _ _ (by omega) (by omega)]; exact hf a k ha, hk2.tr (Kc.of kX4_copy e').p⟩
    by_cases hm : m = j
    · subst hm
      refine ⟨fun k k0 k1 => ?_, ?_, fun q q0 q1 => ?_, fun q q0 q1 => ?_⟩
      · rw [f4 _ _ (by omega), e1 k k0 k1]
        exact hf _ _ (by omega)
      · rw [f1.1, f1.2.1, f1.2.2.1, f1.2.2.2, fo _ _ (by omega) (by omega), fo _ _ (by omega) (by omega), fo _ _ (by omega) (by omega), fo _ _ (by omega) (by omega)]
        exact ⟨rfl, rfl, rfl, rfl⟩
      · rw [(f2 q q0 q1).1, (f2 q q0 q1).2, fo _ _ (by omega) (by omega), fo _ _ (by omega) (by omega)]
        exact ⟨rfl, rfl⟩
      · rw [(f3 q q0 q1).1, (f3 q q0 q1).2, fo _ _ (by omega) (by omega), fo _ _ (by omega) (by omega)]
        exact ⟨rfl, rfl⟩
    · obtain ⟨c1, c2, c3, c4⟩ := hc m g0 (by omega)
      refine ⟨fun k k0 k1 => ?_, ?_, fun q q0 q1 => ?_, fun q q0 q1 => ?_⟩
      · rw [fz _ _ (by omega) (by omega)]
        exact c1 k k0 k1
      · have ez : ∀ k, z (d + (5 + 6 * m)) k = w (d + (5 + 6 * m)) k := fun k => fz _ _ (by omega) (by omega)
        rw [ez, ez, ez, ez]
        exact c2
      · rw [fz (d + (5 + 6 * m) + 1) _ (by omega) (by omega), fz (d + (5 + 6 * m) + 2) _ (by omega) (by omega)]
        exact c3 q q0 q1
      · rw [fz (d + (5 + 6 * m) + 3) _ (by omega) (by omega), fz (d + (5 + 6 * m) + 4) _ (by omega) (by omega)]
        exact c4 q q0 q1
  · rintro L w ⟨⟨m0, m1, m2⟩, hd, hc, hf, hk⟩
    simp only [cX8_copy_1, wE_I, wE_V, wE_F, wE_A, wE_N, wE_1, wE_2, wE_D, wE_B, wE_If, wE_C, wE_CV, wE_SL, wE_SA, wA_0, wA_1, wC_B, wC_E, wC_And, wC_Or, wC_Not, wS_Skip, wS_Brk, wS_Cnt, wS_RetV, wS_Ret, wS_Seq, wS_Set, wS_Inc, wS_Do, wS_Put, wS_PutC, wS_Arr, wS_ArrC, wS_If, wS_Sw, wS_F0, wS_F1, wM_q, lu_ap, aL_ap, ct_0, ct_1, ct_2, ct_3, ct_4, ct_5, headD_1, List.mem_cons, List.not_mem_nil, or_false, false_or, or_true, true_or, true_and, and_true, false_and, and_false, not_true_eq_false, not_false_eq_true, if_true, if_false, nr_20, nr_24, nr_40, nr_41, nr_44, pt_lt, pt_ge, pt_eq, pt_ne, pt_gt, pt_le, pt_E, pt_N, pt_F, ite_10, ite_11, ne_eq, and_self, or_self, decide_true, decide_false, Bool.not_true, Bool.not_false, Bool.false_eq_true, Nat.reduceEqDiff, Nat.reduceAdd, Int.reduceEq, Int.reduceLT, Int.reduceLE, Int.reduceNeg, Int.reduceAdd, Int.reduceSub, Int.reduceMul, reduceCtorEq, iA, iS, iM, iD, iR, iN, lA, lS, lM, lD, lR, m0, m1, m2]
    refine ⟨by decide, ?_⟩
    refine wS_For 4 (fun j L u => (L 0 = d ∧ L 1 = o ∧ L 2 = j) ∧ (∀ a k, a < d + 28 → u a k = w a k) ∧ (∀ a : Int, 0 ≤ a → a < j → (∀ j, 0 ≤ j → j < 120 → u (d + (28 + 7 * a) + 1) j = v (o + (28 + 7 * a) + 1) j) ∧ ∀ m, 0 ≤ m → m < 4 → ∀ k, 0 ≤ k → k < 6 → u (d + (28 + 7 * a) + (3 + m)) k = v (o + (28 + 7 * a) + (3 + m)) k) ∧ (∀ a k, (a < d ∨ d + 56 ≤ a) → u a k = v a k) ∧ Kp S v u) (by decide) ?_ ?_ ?_
    · refine ⟨?_, fun a k _ => rfl, fun a g0 g1 => by omega, hf, hk⟩
      simp [lu_ap, m0, m1]
    · rintro j L u hj ⟨⟨m0, m1, m2⟩, hlo, hr, hf, hk⟩
      have w1 := h1.keep hk
      have w2 := h2.keep hk
      have hj4 : 0 ≤ (j : Int) ∧ (j : Int) < 4 := by omega
      simp only [cX8_copy_2, bX8_copy_2, uX8_copy_2, wE_I, wE_V, wE_F, wE_A, wE_N, wE_1, wE_2, wE_D, wE_B, wE_If, wE_C, wE_CV, wE_SL, wE_SA, wA_0, wA_1, wC_B, wC_E, wC_And, wC_Or, wC_Not, wS_Skip, wS_Brk, wS_Cnt, wS_RetV, wS_Ret, wS_Seq, wS_Set, wS_Inc, wS_Do, wS_Put, wS_PutC, wS_Arr, wS_ArrC, wS_If, wS_Sw, wS_F0, wS_F1, wM_q, lu_ap, aL_ap, ct_0, ct_1, ct_2, ct_3, ct_4, ct_5, headD_1, List.mem_cons, List.not_mem_nil, or_false, false_or, or_true, true_or, true_and, and_true, false_and, and_false, not_true_eq_false, not_false_eq_true, if_true, if_false, nr_20, nr_24, nr_40, nr_41, nr_44, pt_lt, pt_ge, pt_eq, pt_ne, pt_gt, pt_le, pt_E, pt_N, pt_F, ite_10, ite_11, ne_eq, and_self, or_self, decide_true, decide_false, Bool.not_true, Bool.not_false, Bool.false_eq_true, Nat.reduceEqDiff, Nat.reduceAdd, Int.reduceEq, Int.reduceLT, Int.reduceLE, Int.reduceNeg, Int.reduceAdd, Int.reduceSub, Int.reduceMul, reduceCtorEq, iA, iS, iM, iD, iR, iN, lA, lS, lM, lD, lR, m0, m1, m2, w1.k, w2.k, w1.p4, w2.p4, w1.a3, w2.a3, w1.n3, w2.n3, hj4, w1.er _ hj4.1 hj4.2, w2.er _ hj4.1 hj4.2, (w1.r _ hj4.1 hj4.2).k, w32_s (show j < 1000 by omega)]
      refine wM_mono (c_copyR (w1.r _ hj4.1 hj4.2) (w2.r _ hj4.1 hj4.2) (by omega)) ?_
      rintro z0 z e ⟨f1, f2, f3, -⟩
      refine ⟨fun a k ha => (f3 a k (by omega)).trans (hlo a k ha), fun a g0 g1 => ?_, fun a k ha => (f3 a k (by omega)).trans (hf a k ha), hk.tr (Kc.of kX7_copy e).p⟩
      by_cases ha : a = j
      · subst ha
        refine ⟨fun q q0 q1 => ?_, fun m g2 g3 k k0 k1 => ?_⟩
        · rw [f1 q q0 q1]
          exact hf _ _ (by omega)
        · rw [f2 m g2 g3 k k0 k1]
          exact hf _ _ (by omega)
      · obtain ⟨c1, c2⟩ := hr a g0 (by omega)
        refine ⟨fun q q0 q1 => ?_, fun m g2 g3 k k0 k1 => ?_⟩
        · rw [f3 _ _ (by omega)]
          exact c1 q q0 q1
        · rw [f3 _ _ (by omega)]
          exact c2 m g2 g3 k k0 k1
    · rintro L u ⟨⟨m0, m1, m2⟩, hlo, hr, hf, hk⟩
      simp only [cX8_copy_2, wE_I, wE_V, wE_F, wE_A, wE_N, wE_1, wE_2, wE_D, wE_B, wE_If, wE_C, wE_CV, wE_SL, wE_SA, wA_0, wA_1, wC_B, wC_E, wC_And, wC_Or, wC_Not, wS_Skip, wS_Brk, wS_Cnt, wS_RetV, wS_Ret, wS_Seq, wS_Set, wS_Inc, wS_Do, wS_Put, wS_PutC, wS_Arr, wS_ArrC, wS_If, wS_Sw, wS_F0, wS_F1, wM_q, lu_ap, aL_ap, ct_0, ct_1, ct_2, ct_3, ct_4, ct_5, headD_1, List.mem_cons, List.not_mem_nil, or_false, false_or, or_true, true_or, true_and, and_true, false_and, and_false, not_true_eq_false, not_false_eq_true, if_true, if_false, nr_20, nr_24, nr_40, nr_41, nr_44, pt_lt, pt_ge, pt_eq, pt_ne, pt_gt, pt_le, pt_E, pt_N, pt_F, ite_10, ite_11, ne_eq, and_self, or_self, decide_true, decide_false, Bool.not_true, Bool.not_false, Bool.false_eq_true, Nat.reduceEqDiff, Nat.reduceAdd, Int.reduceEq, Int.reduceLT, Int.reduceLE, Int.reduceNeg, Int.reduceAdd, Int.reduceSub, Int.reduceMul, reduceCtorEq, iA, iS, iM, iD, iR, iN, lA, lS, lM, lD, lR, m2]
      refine ⟨by decide, ⟨⟨by rw [hlo _ _ (by omega)]; exact hd.1, by rw [hlo _ _ (by omega)]; exact hd.2⟩, fun m g0 g1 => ?_, fun a g0 g1 => hr a g0 g1⟩, hf⟩
      obtain ⟨c1, c2, c3, c4⟩ := hc m g0 g1
      refine ⟨fun k k0 k1 => by rw [hlo _ _ (by omega)]; exact c1 k k0 k1, ?_, fun q q0 q1 => ?_, fun q q0 q1 => ?_⟩
      · rw [hlo _ _ (by omega), hlo _ _ (by omega), hlo _ _ (by omega), hlo _ _ (by omega)]
        exact c2
      · rw [hlo _ _ (by omega), hlo _ _ (by omega)]
        exact c3 q q0 q1
      · rw [hlo _ _ (by omega), hlo _ _ (by omega)]
        exact c4 q q0 q1
end CP
