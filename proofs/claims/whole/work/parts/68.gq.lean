/-! QUESTIONS: the class answers as the reference, and all stays held together -/
def EQ (S : QS) (b : Int) (g g' : QM) (zs : List Int) (v : QV) : Prop := wM g (b :: zs) S v (fun r w => wM g' ((b + 889) :: zs) S w (fun r' u => r = r' ∧ RX S b u))
section GQ
variable {S : QS} {v w : QV} {b M P B s : Int}
theorem EQ.pp {g g' : QM} {zs : List Int} {r r' : Int} (h : RX S b v) (hg : g (b :: zs) S v = some (r, v)) (hg' : g' ((b + 889) :: zs) S v = some (r', v)) (e : r = r') : EQ S b g g' zs v := by
  unfold EQ
  rw [wM_of hg, wM_of hg']
  exact ⟨e, h⟩
theorem EQ.qq {g g' : QM} {zs : List Int} {F : Int} {F' : QV → Int} (kg : KM Wc g) (kg' : KM Wm g') (h : RR S v b (b + 889) P B s) (hg : wM g (b :: zs) S v (fun r w => r = F ∧ Qf b P v w)) (hg' : ∀ w, RR S w b (b + 889) P B s → Qf b P v w → wM g' ((b + 889) :: zs) S w (fun r u => r = F' w ∧ Qm (b + 889) w u)) (e : ∀ w, Qf b P v w → F = F' w) : EQ S b g g' zs v := by
  refine wM_mono hg ?_
  rintro r w e1 ⟨rfl, hq⟩
  have hw := h.q hq.fq (Kc.of kg e1).p
  refine wM_mono (hg' w hw hq) ?_
  rintro r' u e2 ⟨rfl, hq'⟩
  exact ⟨e w hq, P, B, s, hw.q hq'.fq (Km.of kg' e2).p⟩
theorem RR.e2 (h : RR S v b M P B s) : v (M + 2) B = v P 0 := h.2.2.2.2.1.1.1.symm
theorem RR.e3 (h : RR S v b M P B s) : v (M + 3) B = v P 1 := h.2.2.2.2.1.2.1.1.symm
theorem RR.e4 (h : RR S v b M P B s) : v (M + 4) B = v P 2 := h.2.2.2.2.1.2.2.1.1.symm
/-- the reference's cells after a question of the class -/
theorem Qf.m (hP : P = b + 10 ∨ P = b + 27) (hq : Qf b P v w) : ∀ j k, 0 ≤ j → w (b + 889 + j) k = v (b + 889 + j) k := fun j k hj => hq _ _ (by omega) (by omega) (by omega) (by omega)
theorem RR.er (h : RR S v b M P B s) {a m : Int} (ha : 0 ≤ a ∧ a < v P 2) (hm : 0 ≤ m ∧ m < v P 1) : ∀ i : Int, 0 ≤ i → i < (cK v P s a).toNat → cR v P s a m i = mR v M a m i := fun i g0 g1 => (h.eR ha.1 ha.2 hm.1 hm.2 g0 (by omega)).1
theorem RR.tvc (h : RR S v b M P B s) {a m : Int} (ha : 0 ≤ a ∧ a < v P 2) (hm : 0 ≤ m ∧ m < v P 1) : ∀ i, 0 ≤ i → i < cK v P s a → tv (cR v P s a m i) := fun i g0 g1 => (h.eR ha.1 ha.2 hm.1 hm.2 g0 g1).2
theorem RR.tvm (h : RR S v b M P B s) {a m : Int} (ha : 0 ≤ a ∧ a < v P 2) (hm : 0 ≤ m ∧ m < v P 1) : ∀ i, 0 ≤ i → i < mK v M a → tv (mR v M a m i) := fun i g0 g1 => by
  have e := h.eR ha.1 ha.2 hm.1 hm.2 g0 (by rw [h.eK ha.1 ha.2]; exact g1)
  rw [← e.1]
  exact e.2
theorem g_row (h : RX S b v) {a m i : Int} : EQ S b mX11_row mX12_row [a, m, i] v := by
  have hX := h
  obtain ⟨P, B, s, h⟩ := h
  refine EQ.pp hX (q_row h.rc) (m_row h.rm) ?_
  rw [h.e3, h.e4]
  by_cases h0 : (0 ≤ a ∧ a < v P 2) ∧ (0 ≤ m ∧ m < v P 1)
  · rw [← h.eK h0.1.1 h0.1.2]
    by_cases hi : 0 ≤ i ∧ i < cK v P s a
    · have e := h.eR h0.1.1 h0.1.2 h0.2.1 h0.2.2 hi.1 hi.2
      rw [if_pos ⟨h0, hi⟩, if_pos ⟨h0, hi⟩, ← e.1, w32_tv e.2]
    · rw [if_neg (fun q => hi q.2), if_neg (fun q => hi q.2)]
  · rw [if_neg (fun q => h0 q.1), if_neg (fun q => h0 q.1)]
theorem g_rowAt (h : RX S b v) {a t : Int} : EQ S b mX11_rowAt mX12_rowAt [a, t] v := by
  have hX := h
  obtain ⟨P, B, s, h⟩ := h
  refine EQ.pp hX (q_rowAt h.rc) (m_rowAt h.rm) ?_
  rw [h.e4]
  by_cases h0 : 0 ≤ a ∧ a < v P 2
  · rw [if_pos h0, if_pos h0, h.eK h0.1 h0.2, h.eU h0.1 h0.2, h.eD h0.1 h0.2]
  · rw [if_neg h0, if_neg h0]
theorem g_share (h : RX S b v) {a m x : Int} : EQ S b mX11_share mX12_share [a, m, x] v := by
  have hX := h
  obtain ⟨P, B, s, h⟩ := h
  by_cases h0 : (0 ≤ a ∧ a < v P 2) ∧ (0 ≤ m ∧ m < v P 1)
  · have hkb := cK_b h.rc h0.1
    have ek := h.eK h0.1.1 h0.1.2
    refine EQ.pp hX (q_share h.rc) (m_share h.rm (h.tvm h0.1 h0.2)) ?_
    rw [h.e3, h.e4]
    by_cases hx : 0 ≤ x ∧ x ≤ 100
    · rw [if_pos ⟨h0, hx⟩, if_pos ⟨h0, hx⟩, ← ek, fShare_ext (h.er h0.1 h0.2)]
      refine (w32_e ?_).symm
      unfold fShare
      have := gl_b (p := shp (cK v P s a).toNat (mR v (b + 889) a m) x) (ρ := mR v (b + 889) a m) (cK v P s a).toNat (fun i g0 g1 g2 => by
        have := h.tvm h0.1 h0.2 i g0 (by rw [← ek]; omega)
        unfold tv at this
        simp [shp] at g2
        omega)
      generalize lP (shp (cK v P s a).toNat (mR v (b + 889) a m) x) (mR v (b + 889) a m) (cK v P s a).toNat = z at this ⊢
      omega
    · rw [if_neg (fun q => hx q.2), if_neg (fun q => hx q.2)]
  · have e : mX12_share [b + 889, a, m, x] S v = some (-2147483648, v) := by
      have h1 : ¬ ((0 ≤ a ∧ a < v (b + 889 + 4) B) ∧ (0 ≤ m ∧ m < v (b + 889 + 3) B)) := by rw [h.e3, h.e4]; exact h0
      apply wM_eq
      simp only [mX12_share, sX12_share, wE_I, wE_V, wE_F, wE_A, wE_N, wE_1, wE_2, wE_D, wE_B, wE_If, wE_C, wE_CV, wE_SL, wE_SA, wA_0, wA_1, wC_B, wC_E, wC_And, wC_Or, wC_Not, wS_Skip, wS_Brk, wS_Cnt, wS_RetV, wS_Ret, wS_Seq, wS_Set, wS_Inc, wS_Do, wS_Put, wS_PutC, wS_Arr, wS_ArrC, wS_If, wS_Sw, wS_F0, wS_F1, wM_q, lu_ap, aL_ap, ct_0, ct_1, ct_2, ct_3, ct_4, ct_5, headD_1, List.mem_cons, List.not_mem_nil, or_false, false_or, or_true, true_or, true_and, and_true, false_and, and_false, not_true_eq_false, not_false_eq_true, if_true, if_false, nr_20, nr_24, nr_40, nr_41, nr_44, pt_lt, pt_ge, pt_eq, pt_ne, pt_gt, pt_le, pt_E, pt_N, pt_F, ite_10, ite_11, ne_eq, and_self, or_self, decide_true, decide_false, Bool.not_true, Bool.not_false, Bool.false_eq_true, Nat.reduceEqDiff, Nat.reduceAdd, Int.reduceEq, Int.reduceLT, Int.reduceLE, Int.reduceNeg, Int.reduceAdd, Int.reduceSub, Int.reduceMul, reduceCtorEq, iA, iS, iM, iD, iR, iN, lA, lS, lM, lD, lR, h.rm.1.k, wM_of (m_isBoth h.rm), h1]
    refine EQ.pp hX (q_share h.rc) e ?_
    rw [if_neg (fun q => h0 q.1)]
theorem g_alike (h : RX S b v) {a m n : Int} : EQ S b mX11_alike mX12_alike [a, m, n] v := by
  have hX := h
  obtain ⟨P, B, s, h⟩ := h
  refine EQ.pp hX (q_alike h.rc) (m_alike h.rm) ?_
  rw [h.e3, h.e4]
  by_cases h0 : ((0 ≤ a ∧ a < v P 2) ∧ (0 ≤ m ∧ m < v P 1)) ∧ 0 ≤ n ∧ n < v P 1
  · rw [if_pos h0, if_pos h0, ← h.eK h0.1.1.1 h0.1.1.2]
    exact alp_ext (h.er h0.1.1 h0.1.2) (h.er h0.1.1 h0.2)
  · rw [if_neg h0, if_neg h0]
theorem g_left (h : RX S b v) {a : Int} : EQ S b mX11_left mX12_left [a] v := by
  have hX := h
  obtain ⟨P, B, s, h⟩ := h
  refine EQ.pp hX (q_left h.rc) (m_left h.rm) ?_
  rw [h.e4]
  by_cases h0 : 0 ≤ a ∧ a < v P 2
  · rw [if_pos h0, if_pos h0, h.eU h0.1 h0.2, h.2.2.2.2.2.1.1.1]
  · rw [if_neg h0, if_neg h0]
theorem g_archive (h : RX S b v) {a x : Int} : EQ S b mX11_archive mX12_archive [a, x] v := by
  have hX := h
  obtain ⟨P, B, s, h⟩ := h
  refine EQ.pp hX (q_archive h.rc) (m_archive h.rm) ?_
  rw [h.e4]
  by_cases h0 : 0 ≤ a ∧ a < v P 2
  · have r := h.2.2.2.2.1.2.2.2.2.2.1 a h0.1 h0.2
    have t := h.2.2.2.2.2.1
    rw [if_pos h0, if_pos h0, h.eK h0.1 h0.2, h.eU h0.1 h0.2, h.eD h0.1 h0.2, r.1.1, r.2.1.1, r.2.2.1.1, r.2.2.2.1, t.1.1, ← t.2.1]
  · rw [if_neg h0, if_neg h0]
theorem g_gap (h : RX S b v) {a m x : Int} : EQ S b mX11_gap mX12_gap [a, m, x] v := by
  have hX := h
  obtain ⟨P, B, s, h⟩ := h
  refine EQ.pp hX (q_gap h.rc) (m_gap h.rm) ?_
  rw [h.e3, h.e4]
  by_cases h0 : (0 ≤ a ∧ a < v P 2) ∧ (0 ≤ m ∧ m < v P 1)
  · have e := gap_ext _ (h.er h0.1 h0.2)
    rw [if_pos h0, if_pos h0, e.2.1, e.2.2, h.eK h0.1.1 h0.1.2]
  · rw [if_neg h0, if_neg h0]
theorem mfun (hP : P = b + 10 ∨ P = b + 27) (hq : Qf b P v w) : (∀ a, mU w (b + 889) B a = mU v (b + 889) B a) ∧ (∀ a, mD w (b + 889) B a = mD v (b + 889) B a) ∧ (∀ a, mK w (b + 889) a = mK v (b + 889) a) ∧ (∀ a m, mR w (b + 889) a m = mR v (b + 889) a m) := by
  have e := hq.m hP
  refine ⟨fun a => ?_, fun a => ?_, fun a => ?_, fun a m => funext fun i => ?_⟩
  · unfold mU; rw [e 15 _ (by omega), e 2 _ (by omega)]
  · unfold mD; rw [e 15 _ (by omega), e 1 _ (by omega)]
  · exact e 1 _ (by omega)
  · exact e 1 _ (by omega)
theorem g_over (h : RX S b v) {a m f t x : Int} : EQ S b mX11_over mX12_over [a, m, f, t, x] v := by
  obtain ⟨P, B, s, h⟩ := h
  refine EQ.qq kX11_over kX12_over h (q_over h.rc h.tvc) (fun w hw hq => m_over hw.rm (fun ha hm => hw.tvm (by rw [← hw.e4]; exact ha) (by rw [← hw.e3]; exact hm))) (fun w hq => ?_)
  have e := hq.m h.2.1.2.2
  obtain ⟨e1, e2, e3, e4⟩ := mfun (B := B) h.2.1.2.2 hq
  rw [e 4 _ (by omega), e 3 _ (by omega), h.e3, h.e4, e1, e2, e3, e4]
  by_cases h0 : (0 ≤ a ∧ a < v P 2) ∧ (0 ≤ m ∧ m < v P 1)
  · rw [if_pos h0, if_pos h0, fOver_ext (h.er h0.1 h0.2), h.eK h0.1.1 h0.1.2, h.eU h0.1.1 h0.1.2, h.eD h0.1.1 h0.1.2]
  · rw [if_neg h0, if_neg h0]
theorem g_total (h : RX S b v) {a m f t : Int} : EQ S b mX11_total mX12_total [a, m, f, t] v := by
  obtain ⟨P, B, s, h⟩ := h
  refine EQ.qq kX11_total kX12_total h (q_total h.rc h.tvc) (fun w hw hq => m_total hw.rm (fun ha hm => hw.tvm (by rw [← hw.e4]; exact ha) (by rw [← hw.e3]; exact hm))) (fun w hq => ?_)
  have e := hq.m h.2.1.2.2
  obtain ⟨e1, e2, e3, e4⟩ := mfun (B := B) h.2.1.2.2 hq
  rw [e 4 _ (by omega), e 3 _ (by omega), h.e3, h.e4, e1, e2, e3, e4]
  by_cases h0 : (0 ≤ a ∧ a < v P 2) ∧ (0 ≤ m ∧ m < v P 1)
  · rw [if_pos h0, if_pos h0, fTotal_ext (h.er h0.1 h0.2), h.eK h0.1.1 h0.1.2, h.eU h0.1.1 h0.1.2, h.eD h0.1.1 h0.1.2]
  · rw [if_neg h0, if_neg h0]
theorem m_pq {g : QM} {zs : List Int} {r : Int} (h : g zs S v = some (r, v)) : wM g zs S v (fun z u => z = r ∧ Qm M v u) := by
  rw [wM_of h]
  exact ⟨rfl, Qm.rf⟩
theorem g_smooth (h : RX S b v) {a m n i : Int} : EQ S b mX11_smooth mX12_smooth [a, m, n, i] v := by
  obtain ⟨P, B, s, h⟩ := h
  refine EQ.qq kX11_smooth kX12_smooth h (q_smooth h.rc h.tvc) (fun w hw hq => m_pq (m_smooth hw.rm (fun ha hm => hw.tvm (by rw [← hw.e4]; exact ha) (by rw [← hw.e3]; exact hm)))) (fun w hq => ?_)
  have e := hq.m h.2.1.2.2
  obtain ⟨e1, e2, e3, e4⟩ := mfun (B := B) h.2.1.2.2 hq
  rw [e 4 _ (by omega), e 3 _ (by omega), h.e3, h.e4, e3, e4]
  by_cases h0 : (0 ≤ a ∧ a < v P 2) ∧ (0 ≤ m ∧ m < v P 1)
  · rw [← h.eK h0.1.1 h0.1.2]
    by_cases h1 : (1 ≤ n ∧ n ≤ 30) ∧ 0 ≤ i ∧ i < cK v P s a
    · rw [if_pos ⟨h0, h1⟩, if_pos ⟨h0, h1⟩, fSmooth_ext h1.2.1 (h.er h0.1 h0.2)]
    · rw [if_neg (fun q => h1 q.2), if_neg (fun q => h1 q.2)]
  · rw [if_neg (fun q => h0 q.1), if_neg (fun q => h0 q.1)]
theorem g_rise (h : RX S b v) {a m : Int} : EQ S b mX11_rise mX12_rise [a, m] v := by
  have hX := h
  obtain ⟨P, B, s, h⟩ := h
  refine EQ.pp hX (q_rise h.rc h.tvc) (m_rise h.rm (fun ha hm => h.tvm (by rw [← h.e4]; exact ha) (by rw [← h.e3]; exact hm))) ?_
  rw [h.e3, h.e4]
  by_cases h0 : (0 ≤ a ∧ a < v P 2) ∧ (0 ≤ m ∧ m < v P 1)
  · have hkb := cK_b h.rc h0.1
    rw [if_pos h0, if_pos h0, ← h.eK h0.1.1 h0.1.2]
    exact cRise_ext (fun i g0 g1 => h.er h0.1 h0.2 i g0 (by omega))
  · rw [if_neg h0, if_neg h0]
theorem g_best (h : RX S b v) {x f : Int} : EQ S b mX11_best mX12_best [x, f] v := by
  have hX := h
  obtain ⟨P, B, s, h⟩ := h
  have hn := h.nb
  refine EQ.pp hX (q_best h.rc) (m_best h.rm) ?_
  rw [h.e4]
  have hbe : be (fun a => decide (v (P + (13 + a)) 0 = x ∧ 0 < cK v P s a)) (tb (cBg v P s) (fun a => v (P + (13 + a)) 1) f) (v P 2).toNat = be (fun a => decide (v (b + 889 + 14) (4 * B + a) = x ∧ 0 < mK v (b + 889) a)) (tb (mBg v (b + 889) B) (fun a => v (b + 889 + 15) (4 * B + a)) f) (v P 2).toNat := by
    have hp : ∀ a : Int, 0 ≤ a → a < (v P 2).toNat → cBg v P s a = mBg v (b + 889) B a ∧ v (P + (13 + a)) 1 = v (b + 889 + 15) (4 * B + a) ∧ v (P + (13 + a)) 0 = v (b + 889 + 14) (4 * B + a) ∧ cK v P s a = mK v (b + 889) a := by
      intro a g0 g1
      have r := h.2.2.2.2.1.2.2.2.2.2.1 a g0 (by omega)
      refine ⟨?_, r.2.1.1, r.1.1, h.eK g0 (by omega)⟩
      unfold cBg mBg
      rw [h.eK g0 (by omega), h.eU g0 (by omega), h.eD g0 (by omega)]
    refine be_ext _ (fun i g0 g1 => ?_) (fun i j g0 g1 g2 g3 => ?_)
    · obtain ⟨q1, q2, q3, q4⟩ := hp i g0 g1
      rw [q3, q4]
    · obtain ⟨q1, q2, q3, q4⟩ := hp i g0 g1
      obtain ⟨z1, z2, z3, z4⟩ := hp j g2 g3
      unfold tb
      simp only [q1, q2, z1, z2]
  by_cases h1 : 0 ≤ f
  · by_cases h0 : 0 ≤ x ∧ x ≤ 3
    · rw [if_pos ⟨h0, h1⟩, if_pos h1, hbe]
    · rw [if_neg (fun q => h0 q.1), if_pos h1]
      -- no archive is of such a how
      have : ∀ k : Nat, (k : Int) ≤ v P 2 → be (fun a => decide (v (b + 889 + 14) (4 * B + a) = x ∧ 0 < mK v (b + 889) a)) (tb (mBg v (b + 889) B) (fun a => v (b + 889 + 15) (4 * B + a)) f) k = -1 := by
        intro k
        induction k with
        | zero => intro _; rfl
        | succ k ih =>
          intro hk
          obtain ⟨⟨r1, r2, r3⟩, -⟩ := h.2.2.2.2.1.2.2.2.2.2.1 k (by omega) (by omega)
          unfold be
          rw [ih (by omega), if_neg]
          intro q
          have q1 := q.1
          simp at q1
          omega
      have hn2 := h.rc.2.2.2.2.2.2.2.1
      exact (this _ (by omega)).symm
  · rw [if_neg (fun q => h1 q.2), if_neg h1]
theorem g_law (h : RX S b v) : EQ S b mX11_law mX12_law [] v := by
  have hX := h
  obtain ⟨P, B, s, h⟩ := h
  refine EQ.pp hX (q_law h.rc) (m_law h.rm) ?_
  rw [h.e4]
  refine sN_ext _ (fun a g0 g1 => ?_)
  have ga2 : a < v P 2 := by omega
  have r := h.2.2.2.2.1.2.2.2.2.2.1 a g0 ga2
  unfold cLaw mLaw
  rw [← r.1.1, h.e3]
  by_cases h0 : v (P + (13 + a)) 0 = 0
  · rw [if_pos h0, if_pos h0]
    refine sN_ext _ (fun m q0 q1 => ?_)
    have qm : m < v P 1 := by omega
    have hm := (h.2.2.2.2.2.1.2.2.2.1 m q0 qm).2.2.2.2.2.2.2
    have e := h.er (a := a) (m := m) ⟨g0, ga2⟩ ⟨q0, qm⟩
    have ht := h.tvc (a := a) (m := m) ⟨g0, ga2⟩ ⟨q0, qm⟩
    have hkb := cK_b h.rc (a := a) ⟨g0, ga2⟩
    rw [← h.eK g0 ga2]
    refine nP_ext _ (fun i i0 i1 => ?_)
    have hti := ht i i0 (by omega)
    unfold bt
    rw [← e i i0 i1]
    rcases hm with ⟨z1, z2, z3, z4⟩ | ⟨z1, z2, -⟩
    · rw [z1, z2, z3, z4]
      generalize cR v P s a m i = y at hti ⊢
      unfold tv at hti
      rcases hti with hti | hti
      · rw [hti]; rfl
      · have y1 : ¬ y = -2147483648 := by omega
        have y2 : -2000000000 < y := by omega
        have y3 : -2147483648 < y := by omega
        simp [y1, y2, y3]
    · rw [z1, z2]
  · rw [if_neg h0, if_neg h0]
theorem g_show (h : RX S b v) {x a i : Int} : EQ S b mX11_show mX12_show [x, a, i] v := by
  obtain ⟨P, B, s, h⟩ := h
  have hn := h.nb
  have hC := h.2.2.2.2.1.2.2.2.2.2.2
  have h5 := h.2.2.2.2.1.2.2.2.1
  have hmc : ∀ w, RR S w b (b + 889) P B s → MC_ w (b + 889) B := by
    intro w hw
    have hC := hw.2.2.2.2.1.2.2.2.2.2.2
    have h5 := hw.2.2.2.2.1.2.2.2.1
    refine ⟨by omega, ?_⟩
    have := hC.2.2.2.1
    rw [hw.e3, ← h5.1]
    exact this
  refine EQ.qq kX11_show kX12_show h (q_show h.rc hC (fun a m i a0 a1 m0 m1 => h.tvc ⟨a0, a1⟩ ⟨m0, m1⟩ i)) (fun w hw hq => m_show hw.rm (hmc w hw) (fun a m i a0 a1 m0 m1 => hw.tvm ⟨a0, by rw [← hw.e4]; exact a1⟩ ⟨m0, by rw [← hw.e3]; exact m1⟩ i)) (fun w hq => ?_)
  have e := hq.m h.2.1.2.2
  obtain ⟨-, -, e3, e4⟩ := mfun (B := B) h.2.1.2.2 hq
  have ec : mCo w (b + 889) B = mCo v (b + 889) B := funext fun k => e 24 _ (by omega)
  have en : mEn w (b + 889) B = mEn v (b + 889) B := funext fun k => e 25 _ (by omega)
  have e4' : mR w (b + 889) a = mR v (b + 889) a := funext fun m => e4 a m
  rw [e 4 _ (by omega), e 5 _ (by omega), h.e4, ← h5.1, ec, en, e3, e4']
  by_cases hx : 0 ≤ x ∧ x < v (P + 3) 0
  · have hx' : 0 ≤ x ∧ x < (v (P + 3) 0).toNat := by omega
    by_cases ha : 0 ≤ a ∧ a < v P 2
    · rw [← h.eK ha.1 ha.2]
      by_cases hi : 0 ≤ i ∧ i < cK v P s a
      · rw [if_pos ⟨hx', ha, hi⟩, if_pos ⟨hx, ha, hi⟩]
        have es := sv_ext (ρ := cR v P s a) (σ := mR v (b + 889) a) (i := i) hn.1 hC.2.1 hC.2.2.2.1 hx' (fun m m0 m1 => (h.eR ha.1 ha.2 m0 m1 hi.1 hi.2).1)
        have hv := sv_vv (ρ := cR v P s a) (i := i) hC.2.1 hn.1 hC.2.2.2.1 hx' (fun m m0 m1 => (h.eR ha.1 ha.2 m0 m1 hi.1 hi.2).2)
        rw [← es]
        generalize sv (mCo v (b + 889) B) (mEn v (b + 889) B) (cR v P s a) x i = z at hv ⊢
        exact (w32_e (by unfold vv at hv; omega)).symm
      · rw [if_neg (fun q => hi q.2.2), if_neg (fun q => hi q.2.2)]
    · rw [if_neg (fun q => ha q.2.1), if_neg (fun q => ha q.2.1)]
  · have hx' : ¬ (0 ≤ x ∧ x < (v (P + 3) 0).toNat) := by omega
    rw [if_neg (fun q => hx' q.1), if_neg (fun q => hx q.1)]
theorem g_shows (h : RX S b v) {x a y : Int} : EQ S b mX11_shows mX12_shows [x, a, y] v := by
  obtain ⟨P, B, s, h⟩ := h
  have hn := h.nb
  have hC := h.2.2.2.2.1.2.2.2.2.2.2
  have h5 := h.2.2.2.2.1.2.2.2.1
  have hmc : ∀ w, RR S w b (b + 889) P B s → MC_ w (b + 889) B := by
    intro w hw
    have hC := hw.2.2.2.2.1.2.2.2.2.2.2
    have h5 := hw.2.2.2.2.1.2.2.2.1
    refine ⟨by omega, ?_⟩
    have := hC.2.2.2.1
    rw [hw.e3, ← h5.1]
    exact this
  refine EQ.qq kX11_shows kX12_shows h (q_shows h.rc hC (fun a m i a0 a1 m0 m1 => h.tvc ⟨a0, a1⟩ ⟨m0, m1⟩ i)) (fun w hw hq => m_shows hw.rm (hmc w hw) (fun a m i a0 a1 m0 m1 => hw.tvm ⟨a0, by rw [← hw.e4]; exact a1⟩ ⟨m0, by rw [← hw.e3]; exact m1⟩ i)) (fun w hq => ?_)
  have e := hq.m h.2.1.2.2
  obtain ⟨-, -, e3, e4⟩ := mfun (B := B) h.2.1.2.2 hq
  have ec : mCo w (b + 889) B = mCo v (b + 889) B := funext fun k => e 24 _ (by omega)
  have en : mEn w (b + 889) B = mEn v (b + 889) B := funext fun k => e 25 _ (by omega)
  have e4' : mR w (b + 889) a = mR v (b + 889) a := funext fun m => e4 a m
  rw [e 4 _ (by omega), e 5 _ (by omega), h.e4, ← h5.1, ec, en, e3, e4']
  by_cases hx : 0 ≤ x ∧ x < v (P + 3) 0
  · have hx' : 0 ≤ x ∧ x < (v (P + 3) 0).toNat := by omega
    by_cases ha : 0 ≤ a ∧ a < v P 2
    · rw [← h.eK ha.1 ha.2, if_pos ⟨hx', ha⟩, if_pos ⟨hx, ha⟩]
      exact fShows_ext (fun i i0 i1 => sv_ext hn.1 hC.2.1 hC.2.2.2.1 hx' (fun m m0 m1 => (h.eR ha.1 ha.2 m0 m1 i0 (by have := cK_b h.rc ha; omega)).1))
    · rw [if_neg (fun q => ha q.2), if_neg (fun q => ha q.2)]
  · have hx' : ¬ (0 ≤ x ∧ x < (v (P + 3) 0).toNat) := by omega
    rw [if_neg (fun q => hx' q.1), if_neg (fun q => hx q.1)]
theorem RR.hf (h : RR S v b M P B s) {m : Int} : mF v M B m ↔ hF v P m := by
  unfold mF hF
  rw [h.e3]
  constructor
  · rintro ⟨h1, h2⟩
    have r := (h.2.2.2.2.1.2.2.2.2.1 m h1.1 h1.2).2.2.2.2
    exact ⟨h1, by omega⟩
  · rintro ⟨h1, h2⟩
    have r := (h.2.2.2.2.1.2.2.2.2.1 m h1.1 h1.2).2.2.2.2
    exact ⟨h1, by omega⟩
theorem RR.fl (h : RR S v b M P B s) {m : Int} (hm : hF v P m) : (v (P + (9 + m)) 6 = v (M + 19) (4 * B + m) ∧ 2 ≤ v (P + (9 + m)) 6 ∧ v (P + (9 + m)) 6 ≤ 24) ∧ (v (P + (9 + m)) 10 = v (M + 23) (4 * B + m)) ∧ SRf v (s + (5 + 6 * m)) (v (M + 1)) (647 + 112 * m) := by
  have r := (h.2.2.2.2.1.2.2.2.2.1 m hm.1.1 hm.1.2).2.2.2.2
  have hm2 := hm.2
  refine ⟨by omega, by omega, h.2.2.2.2.2.1.2.2.2.2.2 m hm.1.1 hm.1.2 hm.2⟩
theorem RR.ro (h : RR S v b M P B s) {m : Int} (hm : hF v P m) : RO v (s + (5 + 6 * m)) := by
  obtain ⟨-, -, f1, f2, f3, f4, f5, f6⟩ := h.fl hm
  have t := h.2.2.2.2.2.1
  have hS := mS_b h.rm
  refine ⟨⟨f4.1, ?_⟩, f2.2, f3.2, fun p p0 p1 => (f5 p p0 p1).1.2⟩
  have := t.1
  omega
theorem RR.rp (h : RR S v b M P B s) {m : Int} (hm : hF v P m) : RP v M m := by
  obtain ⟨-, -, f1, f2, f3, f4, f5, f6⟩ := h.fl hm
  have hK : cKo v (s + (5 + 6 * m)) ≤ 30 ∧ 0 ≤ cKo v (s + (5 + 6 * m)) := by unfold cKo; split <;> omega
  refine ⟨by rw [f4.2.2]; omega, by rw [← f2.1]; exact f2.2, by rw [← f3.1]; exact f3.2, fun p p0 p1 => by rw [← (f5 p p0 p1).1.1]; exact (f5 p p0 p1).1.2, fun i i0 i1 => ?_⟩
  rw [f4.2.2] at i1
  rw [← (f6 i i0 i1).2.1]
  exact (f6 i i0 i1).2.2
theorem od_ext {κ : Int} {ω ω' : Int → Int} {i : Int} {n : Nat} (hi : 0 ≤ i) (h : ∀ j, 0 ≤ j → j < κ → ω j = ω' j) : nP (od κ ω i) n = nP (od κ ω' i) n := by
  refine nP_ext n (fun j g0 g1 => ?_)
  unfold od
  by_cases hh : i + j < κ
  · rw [h _ (by omega) hh]
  · simp [hh]
theorem g_forecast (h : RX S b v) {m x : Int} : EQ S b mX11_forecast mX12_forecast [m, x] v := by
  have hX := h
  obtain ⟨P, B, s, h⟩ := h
  have : ∀ m, Decidable (hF v P m) := fun m => Classical.propDecidable _
  have : ∀ m, Decidable (mF v (b + 889) B m) := fun m => Classical.propDecidable _
  refine EQ.pp hX (q_forecast h.rc) (m_forecast h.rm) ?_
  by_cases hm : hF v P m
  · rw [if_pos hm, if_pos (h.hf.mpr hm)]
    obtain ⟨l1, l2, f1, f2, f3, f4, f5, f6⟩ := h.fl hm
    have hK : cKo v (s + (5 + 6 * m)) ≤ 30 ∧ 0 ≤ cKo v (s + (5 + 6 * m)) := by unfold cKo; split <;> omega
    have e0 : w32 (v (b + 889 + 1) (647 + 112 * m + 0)) = v (s + (5 + 6 * m)) 1 := by rw [← f2.1]; exact w32_e (by omega)
    have e1 : w32 (v (b + 889 + 1) (647 + 112 * m + 1)) = v (s + (5 + 6 * m)) 2 := by clear e0; rw [← f3.1]; exact w32_e (by omega)
    have e3 : w32 (v (b + 889 + 1) (647 + 112 * m + 3)) = cKo v (s + (5 + 6 * m)) := by clear e0 e1; rw [f4.2.2]; exact w32_e (by omega)
    have e2 : w32 (v (b + 889 + 1) (647 + 112 * m + 2)) = if v (s + (5 + 6 * m)) 0 = 0 then 0 else 1 := by
      clear e0 e1 e3
      rw [← f1.1]
      rcases f1.2 with ⟨q, -⟩ | q
      · rw [q]; rfl
      · rw [q]; rfl
    rw [e0, e1, e2, e3, ← l1.1, ← l2]
  · rw [if_neg hm, if_neg (fun q => hm (h.hf.mp q))]
theorem g_place (h : RX S b v) {m p x : Int} : EQ S b mX11_place mX12_place [m, p, x] v := by
  have hX := h
  obtain ⟨P, B, s, h⟩ := h
  have : ∀ m, Decidable (hF v P m) := fun m => Classical.propDecidable _
  have : ∀ m, Decidable (mF v (b + 889) B m) := fun m => Classical.propDecidable _
  refine EQ.pp hX (q_place h.rc (fun hm => (h.fl hm).1.2.2)) (m_place h.rm (fun hm => by have := (h.fl (h.hf.mp hm)).1; omega)) ?_
  by_cases hm : hF v P m
  · obtain ⟨l1, l2, f1, f2, f3, f4, f5, f6⟩ := h.fl hm
    rw [← l1.1]
    by_cases hp : 0 ≤ p ∧ p < v (P + (9 + m)) 6
    · have c1 : hF v P m ∧ 0 ≤ p ∧ p < v (P + (9 + m)) 6 := ⟨hm, hp⟩
      have c2 : mF v (b + 889) B m ∧ 0 ≤ p ∧ p < v (P + (9 + m)) 6 := ⟨h.hf.mpr hm, hp⟩
      rw [if_pos c1, if_pos c2]
      obtain ⟨q1, q2⟩ := f5 p hp.1 (by omega)
      have e1 : w32 (v (b + 889 + 1) (647 + 112 * m + (4 + p))) = v (s + (5 + 6 * m) + 1) p := by rw [← q1.1]; exact w32_e (by omega)
      have e2 : w32 (v (b + 889 + 1) (647 + 112 * m + (28 + p))) = v (s + (5 + 6 * m) + 2) p := by clear e1; rw [← q2.1]; exact w32_e (by omega)
      rw [e1, e2]
    · rw [if_neg (fun q => hp q.2), if_neg (fun q => hp q.2)]
  · rw [if_neg (fun q => hm q.1), if_neg (fun q => hm (h.hf.mp q.1))]
theorem g_told (h : RX S b v) {m i x : Int} : EQ S b mX11_told mX12_told [m, i, x] v := by
  have hX := h
  obtain ⟨P, B, s, h⟩ := h
  have : ∀ m, Decidable (hF v P m) := fun m => Classical.propDecidable _
  have : ∀ m, Decidable (mF v (b + 889) B m) := fun m => Classical.propDecidable _
  refine EQ.pp hX (q_told h.rc h.ro) (m_told h.rm (fun hm => h.rp (h.hf.mp hm))) ?_
  by_cases hm : hF v P m
  · obtain ⟨l1, l2, f1, f2, f3, f4, f5, f6⟩ := h.fl hm
    rw [f4.2.2]
    by_cases hp : 0 ≤ i ∧ i < cKo v (s + (5 + 6 * m))
    · have c1 : hF v P m ∧ 0 ≤ i ∧ i < cKo v (s + (5 + 6 * m)) := ⟨hm, hp⟩
      have c2 : mF v (b + 889) B m ∧ 0 ≤ i ∧ i < cKo v (s + (5 + 6 * m)) := ⟨h.hf.mpr hm, hp⟩
      rw [if_pos c1, if_pos c2]
      obtain ⟨q1, q2⟩ := f6 i hp.1 hp.2
      have e1 : w32 (v (b + 889 + 1) (647 + 112 * m + (52 + i))) = cTo v (s + (5 + 6 * m)) i := by rw [← q1.1]; exact w32_e (by omega)
      have e2 : w32 (v (b + 889 + 1) (647 + 112 * m + (82 + i))) = if cOd v (s + (5 + 6 * m)) i = 0 then 0 else 1 := by
        clear e1
        rw [← q2.1]
        rcases q2.2 with q | q
        · rw [q]; rfl
        · rw [q]; rfl
      rw [e1, e2]
    · rw [if_neg (fun q => hp q.2), if_neg (fun q => hp q.2)]
  · rw [if_neg (fun q => hm q.1), if_neg (fun q => hm (h.hf.mp q.1))]
theorem g_odd (h : RX S b v) {m n : Int} : EQ S b mX11_odd mX12_odd [m, n] v := by
  have hX := h
  obtain ⟨P, B, s, h⟩ := h
  have : ∀ m, Decidable (hF v P m) := fun m => Classical.propDecidable _
  have : ∀ m, Decidable (mF v (b + 889) B m) := fun m => Classical.propDecidable _
  refine EQ.pp hX (q_odd h.rc h.ro) (m_odd h.rm (fun hm => h.rp (h.hf.mp hm))) ?_
  by_cases hm : hF v P m
  · obtain ⟨l1, l2, f1, f2, f3, f4, f5, f6⟩ := h.fl hm
    rw [f4.2.2]
    by_cases hp : 1 ≤ n ∧ n ≤ 30
    · rw [if_pos ⟨hm, hp⟩, if_pos ⟨h.hf.mpr hm, hp⟩]
      exact od_ext (Int.le_refl 0) (fun j j0 j1 => (f6 j j0 j1).2.1)
    · rw [if_neg (fun q => hp q.2), if_neg (fun q => hp q.2)]
  · rw [if_neg (fun q => hm q.1), if_neg (fun q => hm (h.hf.mp q.1))]
theorem g_alarms (h : RX S b v) {m n k : Int} : EQ S b mX11_alarms mX12_alarms [m, n, k] v := by
  have hX := h
  obtain ⟨P, B, s, h⟩ := h
  have : ∀ m, Decidable (hF v P m) := fun m => Classical.propDecidable _
  have : ∀ m, Decidable (mF v (b + 889) B m) := fun m => Classical.propDecidable _
  refine EQ.pp hX (q_alarms h.rc h.ro) (m_alarms h.rm (fun hm => h.rp (h.hf.mp hm))) ?_
  by_cases hm : hF v P m
  · obtain ⟨l1, l2, f1, f2, f3, f4, f5, f6⟩ := h.fl hm
    rw [f4.2.2]
    by_cases hp : (1 ≤ n ∧ n ≤ 30) ∧ 0 ≤ k ∧ k ≤ 30
    · rw [if_pos ⟨hm, hp⟩, if_pos ⟨h.hf.mpr hm, hp⟩]
      refine nP_ext _ (fun i i0 i1 => ?_)
      rw [od_ext (ω' := mOd v (b + 889) m) i0 (fun j j0 j1 => (f6 j j0 j1).2.1)]
    · rw [if_neg (fun q => hp q.2), if_neg (fun q => hp q.2)]
  · rw [if_neg (fun q => hm q.1), if_neg (fun q => hm (h.hf.mp q.1))]
theorem g_ahead (h : RX S b v) {m n : Int} : EQ S b mX11_ahead mX12_ahead [m, n] v := by
  have hX := h
  obtain ⟨P, B, s, h⟩ := h
  have : ∀ m, Decidable (hF v P m) := fun m => Classical.propDecidable _
  have : ∀ m, Decidable (mF v (b + 889) B m) := fun m => Classical.propDecidable _
  refine EQ.pp hX (q_ahead h.rc (fun hm => (h.fl hm).1.2.2) h.ro) (m_ahead h.rm (fun hm => by have := (h.fl (h.hf.mp hm)).1; omega) (fun hm => h.rp (h.hf.mp hm))) ?_
  by_cases hm : hF v P m
  · obtain ⟨l1, l2, f1, f2, f3, f4, f5, f6⟩ := h.fl hm
    have t := h.2.2.2.2.2.1
    rw [← f1.1, ← f2.1, ← f3.1, ← l1.1, t.2.1, t.1.1]
    by_cases hp : (1 ≤ n ∧ n ≤ 48) ∧ ¬ v (s + (5 + 6 * m)) 0 = 0
    · rw [if_pos ⟨hm, hp⟩, if_pos ⟨h.hf.mpr hm, hp⟩]
      have hq : 0 ≤ (v (b + 889 + 1) 0 / v P 0 + n - 1) % v (P + (9 + m)) 6 ∧ (v (b + 889 + 1) 0 / v P 0 + n - 1) % v (P + (9 + m)) 6 < 24 := ⟨Int.emod_nonneg _ (by omega), by have := Int.emod_lt_of_pos (v (b + 889 + 1) 0 / v P 0 + n - 1) (show 0 < v (P + (9 + m)) 6 by omega); omega⟩
      rw [(f5 _ hq.1 hq.2).1.1]
    · rw [if_neg (fun q => hp q.2), if_neg (fun q => hp q.2)]
  · rw [if_neg (fun q => hm q.1), if_neg (fun q => hm (h.hf.mp q.1))]
theorem g_measure (h : RX S b v) {m x : Int} : EQ S b mX11_measure mX12_measure [m, x] v := by
  have hX := h
  obtain ⟨P, B, s, h⟩ := h
  refine EQ.pp hX (q_measure h.rc) (m_measure h.rm) ?_
  rw [h.e3]
  by_cases hm : 0 ≤ m ∧ m < v P 1
  · rw [if_pos hm, if_pos hm]
    have r := (h.2.2.2.2.1.2.2.2.2.1 m hm.1 hm.2).1
    obtain ⟨t1, t2, t3, t4, t5, t6, -⟩ := h.2.2.2.2.2.1.2.2.2.1 m hm.1 hm.2
    have hst := h.rc.2.2.2.2.2.1
    have e0 : w32 (v (b + 889 + 1) (3 + 12 * m + 0)) = v (s + (4 + 6 * m)) 0 := by rw [← t1.1]; exact w32_e (by omega)
    have e1 : w32 (v (b + 889 + 1) (3 + 12 * m + 1)) = v (s + (4 + 6 * m)) 1 := by clear e0; rw [← t2.1]; exact w32_e (by omega)
    have e2 : w32 (v (b + 889 + 1) (3 + 12 * m + 2)) = v (s + (4 + 6 * m)) 2 := by clear e0 e1; rw [← t2.2.1]; exact w32_e (by omega)
    have e3 : w32 (v (b + 889 + 1) (3 + 12 * m + 3)) = v (s + (4 + 6 * m)) 3 := by clear e0 e1 e2; rw [← t3.1]; exact w32_e (by omega)
    have hmod := Int.emod_lt_of_pos (v (b + 889 + 1) 0) (show 0 < v P 0 by clear e0 e1 e2 e3; omega)
    have e4 : w32 (v (b + 889 + 1) (3 + 12 * m + 7)) = v (s + (4 + 6 * m)) 6 := by clear e0 e1 e2 e3; rw [← t6.1]; exact w32_e (by omega)
    by_cases x0 : x = 0
    · simp [x0, ← e0]
    by_cases x1 : x = 1
    · simp [x1, ← e1]
    by_cases x2 : x = 2
    · simp [x2, ← e2]
    by_cases x3 : x = 3
    · simp [x3, r.1]
    by_cases x4 : x = 4
    · simp [x4, ← e4]
    by_cases x5 : x = 5
    · simp [x5, ← e3]
    simp [x0, x1, x2, x3, x4, x5]
  · rw [if_neg hm, if_neg hm]
theorem g_rate (h : RX S b v) {m : Int} : EQ S b mX11_rate mX12_rate [m] v := by
  have hX := h
  obtain ⟨P, B, s, h⟩ := h
  refine EQ.pp hX (q_rate h.rc) (m_rate h.rm) ?_
  rw [h.e3]
  by_cases hm : 0 ≤ m ∧ m < v P 1
  · obtain ⟨t1, t2, t3, t4, t5, t6, -⟩ := h.2.2.2.2.2.1.2.2.2.1 m hm.1 hm.2
    rw [if_pos hm, if_pos hm, ← t4.1, w32_tv t4.2]
  · rw [if_neg hm, if_neg hm]
theorem g_value (h : RX S b v) {m : Int} : EQ S b mX11_value mX12_value [m] v := by
  have hX := h
  obtain ⟨P, B, s, h⟩ := h
  refine EQ.pp hX (q_value h.rc) (m_value h.rm) ?_
  rw [h.e3]
  by_cases hm : 0 ≤ m ∧ m < v P 1
  · obtain ⟨t1, t2, t3, t4, t5, t6, -⟩ := h.2.2.2.2.2.1.2.2.2.1 m hm.1 hm.2
    rw [if_pos hm, if_pos hm, ← t5.1, w32_tv t5.2]
  · rw [if_neg hm, if_neg hm]
theorem g_fault (h : RX S b v) {x : Int} : EQ S b mX11_fault mX12_fault [x] v := by
  have hX := h
  obtain ⟨P, B, s, h⟩ := h
  have f := h.2.2.2.2.2.2.2.2.2.2.2
  refine EQ.pp hX (q_fault h.rc) (m_fault h.rm) ?_
  rw [f.1, f.2]
theorem g_about (h : RX S b v) {x : Int} : EQ S b mX11_about mX12_about [x] v := by
  have hX := h
  obtain ⟨P, B, s, h⟩ := h
  have hd1 : ∀ m, Decidable (hF v P m) := fun m => Classical.propDecidable _
  have hd2 : ∀ m, Decidable (mF v (b + 889) B m) := fun m => Classical.propDecidable _
  refine EQ.pp hX (q_about h.rc hd1) (m_about h.rm hd2) ?_
  have r := h.2.2.2.2.1
  have t := h.2.2.2.2.2.1
  have u := h.2.2.2.2.2.2.1
  have tp := h.2.2.2.2.2.2.2.2.2.2.1
  have hS := mS_b h.rm
  have ef : fbs (fun m => decide (hF v P m)) (v P 1).toNat = fbs (fun m => decide (mF v (b + 889) B m)) (v P 1).toNat := fbs_ext _ (fun i _ _ => by
    by_cases q : hF v P i
    · simp [q, h.hf.mpr q]
    · simp [q, mt h.hf.mp q])
  obtain ⟨t1, t2, t3, -⟩ := t
  have e5 : w32 (v (b + 889 + 1) 0) = v (b + 889 + 1) 0 := w32_e (by omega)
  have e6 : w32 (v (b + 889 + 1) 1) = v (b + 889 + 1) 1 := by clear e5; exact w32_e (by omega)
  have e7 : w32 (v (b + 889 + 1) 2) = v (b + 889 + 1) 2 := by clear e5 e6; exact w32_e (by omega)
  rw [e5, e6, e7, h.e2, h.e3, h.e4, ef, t1.1, ← t2, t3.1, r.2.2.2.1.1, r.2.2.2.1.2.1, u.1, u.2.1, tp.1]
end GQ
