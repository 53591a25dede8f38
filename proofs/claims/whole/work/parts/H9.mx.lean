/-! MAKING: the reference's constructor -/
section MK9
variable {S S' S2 : QS} {v v' v2 : QV} {L : QL} {N : QN} {Q Q' : QL → QN → Prop} {c u : Nat} {a b lo hi : Int} {E : Int → Prop}
/-- what the reference has at its start -/
def MV (w : QV) (a : Int) : Prop := (w a 28 = 0 ∧ w a 30 = 0 ∧ w a 39 = 0 ∧ w a 40 = -1 ∧ w a 58 = 0 ∧ w a 59 = 0) ∧ AnZ (w (a + 1)) ∧ (w (a + 2) 0 = 1 ∧ w (a + 3) 0 = 0 ∧ w (a + 4) 0 = 0 ∧ w (a + 5) 0 = 0 ∧ w (a + 6) 0 = 0) ∧ ∀ x, 0 ≤ x → x < 2 → w (a + 38) x = 0
theorem w_X12a {r : NT} (h1 : a + 1 = S.2.2) (h0 : 0 ≤ a) (h2 : S.1 a = 13) (l0 : L 0 = a) (hc : 38 ≤ c) (hu : 20236 ≤ u) (h : ∀ S4 v4 c4 u4, Gr S S4 v v4 a → ((S4.2.2 : Nat) : Int) = a + 39 → LMo S4 v4 a → LtO v4 a → v4 a 40 = -1 → (∀ k, k = 28 ∨ k = 30 ∨ k = 39 → v4 a k = v a k) → wN r L (S4, v4, c4, u4) Q) : wN (nFs 12 lR1 (nSeq (nLift (sPut 12 40 (eV 0) (eI (-1)))) (nSeq nFB (nFs 12 lR2 r)))) L (S, v, c, u) Q := by
  have z1 : szF lR1 = 2459 := by decide
  have z2 : szF lR2 = 17666 := by decide
  have n1 : lR1.length = 28 := rfl
  have n2 : lR2.length = 9 := rfl
  refine n_Fs lR1 S v c u (by decide) (by rw [l0]; exact h2) (by rw [l0]; omega) (by omega) (by omega) (fun S1 v1 f1 => ?_)
  rw [l0] at f1
  have g1 := f1.gr
  have s1 : ((S1.2.2 : Nat) : Int) = a + 29 := by have := f1.1; omega
  have k1 : S1.1 a = 13 := by rw [(g1.2.1 a (by omega)).1]; exact h2
  rw [wN_Seq]
  refine wN_Lift ?_
  rw [wS_Put, wE_V, wE_I]
  refine ⟨by rw [l0]; exact k1, rfl, ?_⟩
  rw [l0]
  have w2 : vu v1 a 40 (-1) a 40 = -1 := vu_is
  have e2 : ∀ k, k ≠ 40 → vu v1 a 40 (-1) a k = v1 a k := fun k hk => vu_ne (fun e => hk e.2)
  have o2 : ∀ q k, q ≠ a → vu v1 a 40 (-1) q k = v1 q k := fun q k hq => vu_ne (fun e => hq e.1)
  generalize vu v1 a 40 (-1) = v2 at *
  rw [wN_Seq]
  refine n_FB (by rw [l0]; exact k1) (by rw [l0]; omega) (by omega) (by omega) (fun S3 v3 f3 => ?_)
  rw [l0] at f3
  obtain ⟨b1, b2, b3, b4, b5, b6⟩ := f3
  rw [s1] at b2 b4 b5
  have s3 : ((S3.2.2 : Nat) : Int) = a + 30 := by omega
  have k3 : S3.1 a = 13 := by rw [(b3 a (by omega)).1]; exact k1
  refine n_Fs lR2 S3 v3 _ _ (by decide) (by rw [l0]; exact k3) (by rw [l0]; omega) (by omega) (by omega) (fun S4 v4 f4 => ?_)
  rw [l0] at f4
  have g4 := f4.gr
  have s4 : ((S4.2.2 : Nat) : Int) = a + 39 := by have := f4.1; omega
  have kR2 : ∀ p ∈ lR2, 42 ≤ p.1 ∧ p.1 ≤ 57 := by decide
  have kR1 : ∀ p ∈ lR1, p.1 < 30 ∧ p.1 ≠ 28 := by decide
  have E1 : ∀ q : Int, q < a + 29 → S4.1 q = S1.1 q ∧ S4.2.1 q = S1.2.1 q := fun q hq => by
    have x := f4.2.1 q (by omega); have y := b3 q (by omega)
    exact ⟨x.1.trans y.1, x.2.trans y.2⟩
  have V1 : ∀ (q k : Int), q < a + 29 → q ≠ a → v4 q k = v1 q k := fun q k h1 h2 => by
    rw [g4.2.2 q k (by omega) h2, b6 q k (by omega) (fun e => absurd e h2), o2 q k h2]
  have A1 : ∀ k, k < 40 → v4 a k = v1 a k := fun k hk => by
    rw [f4.2.2.1 a k (by omega) (fun _ p hp e => by have := kR2 p hp; omega), b6 a k (by omega) (fun _ => by omega), e2 k (by omega)]
  have T1 : ∀ (i : Nat) (p : Int × Nat × Int) (j : Int), lR1[i]? = some p → (i : Int) + 1 = j → S4.1 (a + j) = p.2.1 ∧ S4.2.1 (a + j) = p.2.2 ∧ v4 a p.1 = a + j := fun i p j hp hj => by
    have hi : i < 28 := by
      have := (List.getElem?_eq_some_iff.mp hp).1
      omega
    have hk := kR1 p (List.mem_of_getElem? hp)
    obtain ⟨x1, x2, -, x4⟩ := Fs_at f1 (n0 := 1) (j := j) (by omega) hp (by omega)
    rw [(E1 _ (by omega)).1, (E1 _ (by omega)).2, A1 _ (by omega)]
    exact ⟨x1, x2, x4⟩
  have T2 : ∀ (i : Nat) (p : Int × Nat × Int) (j : Int), lR2[i]? = some p → (i : Int) + 30 = j → S4.1 (a + j) = p.2.1 ∧ S4.2.1 (a + j) = p.2.2 ∧ v4 a p.1 = a + j := fun i p j hp hj => by
    obtain ⟨x1, x2, -, x4⟩ := Fs_at f4 (n0 := 30) (j := j) s3 hp (by omega)
    exact ⟨x1, x2, x4⟩
  have TB : S4.1 (a + 29) = 42 ∧ S4.2.1 (a + 29) = 111 ∧ v4 a 41 = a + 29 := by
    have x := f4.2.1 (a + 29) (by omega)
    refine ⟨x.1.trans b2.1, x.2.trans b2.2, ?_⟩
    rw [f4.2.2.1 a 41 (by omega) (fun _ p hp e => by have := kR2 p hp; omega)]
    exact b5
  refine h S4 v4 _ _ ⟨by have x1 := g1.1; have x4 := g4.1; omega, fun q hq => ?_, fun q k hq hn => ?_⟩ s4 (LMo_of (by rw [(E1 a (by omega)).1]; exact k1) T1 TB T2) (fun k hk => ?_) ?_ (fun k hk => ?_)
  · have x := E1 q (by omega); have y := g1.2.1 q hq
    exact ⟨x.1.trans y.1, x.2.trans y.2⟩
  · rw [V1 q k (by omega) hn]; exact g1.2.2 q k hq hn
  · rw [g4.2.2 _ _ (by omega) (by omega)]; exact b4 k hk
  · rw [f4.2.2.1 a 40 (by omega) (fun _ p hp e => by have := kR2 p hp; omega), b6 a 40 (by omega) (fun _ => by decide)]; exact w2
  · rw [A1 k (by omega)]
    exact f1.2.2.1 a k (by omega) (fun _ p hp e => by have := kR1 p hp; omega)
theorem cs_X12 (S : QS) (v : QV) (a : Int) (h1 : a + 1 = S.2.2) (h0 : 0 ≤ a) (h2 : S.1 a = 13) (hd : v a 28 = 0 ∧ v a 30 = 0 ∧ v a 39 = 0) : wG mX12_init a (S, v, 38, 20236) (fun M => Gr S M.1 v M.2.1 a ∧ (M.1.2.2 : Int) = a + 39 ∧ LMo M.1 M.2.1 a ∧ LtO M.2.1 a ∧ MV M.2.1 a) := by
  refine wG_M ?_
  have l0 : aL 0 [2] [a] 0 = a := rfl
  generalize aL 0 [2] [a] = L at *
  rw [show sX12_init = nSeq nSuper (nFs 12 lR1 (nSeq (nLift (sPut 12 40 (eV 0) (eI (-1)))) (nSeq nFB (nFs 12 lR2 (nSeq (nLift (sDo (eCallV 12 mX12_clearBank [(eV 0), (eI 0)]))) (nLift (sDo (eCallV 12 mX12_startAnew [(eV 0)])))))))) from rfl, wN_Seq]
  refine wN_Super (by rw [l0]; exact h0) ?_
  refine w_X12a h1 h0 h2 l0 (by decide) (by decide) (fun S4 v4 c4 u4 g4 s4 hM hL h40 hk => ?_)
  rw [wN_Seq]
  refine wN_Lift ?_
  simp only [wS_Do, wE_CV, wE_V, wE_I, wA_0, wA_1, headD_1, l0, hM.k, true_and]
  refine wM_mono (m_clearBank hM (Or.inl rfl)) ?_
  rintro r w e ⟨y2, y3, y18, yo⟩
  have k1 := Km.of kX12_clearBank e
  have hM1 := hM.keep k1.p
  have ea : ∀ k, w a k = v4 a k := fun k => yo _ _ (by omega) (by omega)
  refine wN_Lift ?_
  simp only [wS_Do, wE_CV, wE_V, wE_I, wA_0, wA_1, headD_1, l0, hM1.k, true_and]
  refine wM_mono (m_startAnew hM1 (Or.inl rfl) (by rw [ea, hk 28 (by decide)]; exact hd.1) (by rw [y3.1]; decide)) ?_
  rintro r' w' e' ⟨x1, x2, x3, x4, x5⟩
  have k2 := Km.of kX12_startAnew e'
  have xa : ∀ k, k ≠ 58 → k ≠ 59 → w' a k = v4 a k := fun k q1 q2 => by rw [x5 _ _ (fun _ => ⟨q1, q2⟩) (by omega) (by omega), ea]
  refine ⟨⟨g4.1, g4.2.1, fun q k hq hn => ?_⟩, s4, hM1.keep k2.p, fun k hk' => ?_, ⟨?_, ?_, ?_, ?_, x3.1, x3.2⟩, x2, ⟨?_, ?_, ?_, ?_, ?_⟩, x4⟩
  · show w' q k = _
    rw [x5 _ _ (fun e => absurd e hn) (by omega) (by omega), yo _ _ (by omega) (by omega)]
    exact g4.2.2 q k hq hn
  · show w' (a + 29) k = _
    rw [x5 _ _ (by omega) (by omega) (by omega), yo _ _ (by omega) (by omega)]
    exact hL k hk'
  · show w' a 28 = 0; rw [xa _ (by decide) (by decide), hk 28 (by decide)]; exact hd.1
  · show w' a 30 = 0; rw [xa _ (by decide) (by decide), hk 30 (by decide)]; exact hd.2.1
  · show w' a 39 = 0; rw [xa _ (by decide) (by decide), hk 39 (by decide)]; exact hd.2.2
  · show w' a 40 = -1; rw [xa _ (by decide) (by decide)]; exact h40
  · show w' (a + 2) 0 = 1; rw [x5 _ _ (by omega) (by omega) (by omega)]; exact y2
  · show w' (a + 3) 0 = 0; rw [x5 _ _ (by omega) (by omega) (by omega)]; exact y3.1
  · show w' (a + 4) 0 = 0; rw [x5 _ _ (by omega) (by omega) (by omega)]; exact y3.2.1
  · show w' (a + 5) 0 = 0; rw [x5 _ _ (by omega) (by omega) (by omega)]; exact y3.2.2.1
  · show w' (a + 6) 0 = 0; rw [x5 _ _ (by omega) (by omega) (by omega)]; exact y3.2.2.2.1
end MK9
