/-! MAKING: an array's things, one after another; plans -/
section MK4
variable {S S' S2 : QS} {v v' v2 : QV} {L : QL} {N : QN} {Q Q' : QL → QN → Prop} {c u : Nat} {a b lo hi : Int}
theorem n_loop {g : NM} {ci κ cj cnt mc ms n K m : Nat} {fld arr : Int} {ptr : List Int} {Lay : QS → QV → Int → Prop} (hC : Cs g cj cnt mc ms ptr Lay) (hm : K < m) (hK : K < 1000) (l0 : L 0 = a) (l1 : L 1 = 0) (h0 : S.1 a = ci + 1) (ha : a < S.2.2) (hf : v a fld = arr) (hne : a ≠ arr) (hl : arr < S.2.2) (hκ : S.1 arr = κ) (hn : S.2.1 arr = K) (hc : (1 + mc) * K ≤ c) (hu : (n + ms) * K ≤ u) (h : ∀ L' S' v' c' u', L' 0 = a → Gr S S' v v' arr → ((S'.2.2 : Nat) : Int) = S.2.2 + (1 + cnt : Int) * K → (∀ i, 0 ≤ i → i < (K : Int) → v' arr i = S.2.2 + (1 + cnt : Int) * i ∧ Lay S' v' (S.2.2 + (1 + cnt : Int) * i) ∧ ∀ k, k ∉ ptr → v' (S.2.2 + (1 + cnt : Int) * i) k = dz (cτ cj k.toNat)) → c' + (1 + mc) * K = c → u' + (n + ms) * K = u → Q L' (S', v', c', u')) : wN (nWh (cB qlt (eV 1) (eI K)) (nSeq (nAO κ (eF ci fld (eV 0)) (eV 1) cj n g mc ms) (nLift (sInc 1 1))) m) L (S, v, c, u) Q := by
  refine wN_For (K := K) (fun j L N => (L 0 = a ∧ L 1 = j) ∧ (Gr S N.1 v N.2.1 arr ∧ ((N.1.2.2 : Nat) : Int) = S.2.2 + (1 + cnt : Int) * j) ∧ (∀ i, 0 ≤ i → i < (j : Int) → N.2.1 arr i = S.2.2 + (1 + cnt : Int) * i ∧ Lay N.1 N.2.1 (S.2.2 + (1 + cnt : Int) * i) ∧ ∀ k, k ∉ ptr → N.2.1 (S.2.2 + (1 + cnt : Int) * i) k = dz (cτ cj k.toNat)) ∧ (N.2.2.1 + (1 + mc) * j = c ∧ N.2.2.2 + (n + ms) * j = u)) hm ?_ ?_ ?_
  · exact ⟨⟨l0, l1⟩, ⟨Gr.rf, by show ((S.2.2 : Nat) : Int) = S.2.2 + (1 + cnt : Int) * ((0 : Nat) : Int); rw [Int.natCast_zero, Int.mul_zero, Int.add_zero]⟩, fun i i0 i1 => by omega, by show c + (1 + mc) * 0 = c; rw [Nat.mul_zero]; rfl, by show u + (n + ms) * 0 = u; rw [Nat.mul_zero]; rfl⟩
  · rintro j L S1 v1 c1 u1 hj ⟨⟨m0, m1⟩, ⟨q1, q2⟩, q3, q4, q5⟩
    dsimp only at q1 q2 q3 q4 q5
    refine ⟨m1, ?_⟩
    have qk := q1.2.1
    have cm : (1 + mc) * (j + 1) ≤ (1 + mc) * K := Nat.mul_le_mul_left _ hj
    have um : (n + ms) * (j + 1) ≤ (n + ms) * K := Nat.mul_le_mul_left _ hj
    rw [Nat.mul_succ] at cm um
    rw [wN_Seq]
    refine n_AO hC (arr := arr) (len := K) (by rw [m0, (qk a ha).1]; exact h0) (by rw [m0, q1.2.2 a fld ha hne]; exact hf) m1 (by have := q1.1; omega) (by rw [(qk _ hl).1]; exact hκ) (by rw [(qk _ hl).2]; exact hn) (by omega) (by omega) (by omega) (fun S2 v2 hO => ?_)
    obtain ⟨r1, r2, r3, r4, r5, r6⟩ := id hO
    have ep : (1 + cnt : Int) * ((j + 1 : Nat) : Int) = (1 + cnt : Int) * (j : Int) + (1 + cnt : Int) := by
      rw [Int.natCast_add, Int.natCast_one, Int.mul_add, Int.mul_one]
    refine w_inc (y := ((j + 1 : Nat) : Int)) (by rw [m1, w32_e (by omega)]; omega) ⟨⟨by simp [lu_ap, m0], by simp [lu_ap]⟩, ⟨q1.tr hO.gr, by show ((S2.2.2 : Nat) : Int) = _; rw [ep]; omega⟩, fun i i0 i1 => ?_, by show c1 - 1 - mc + (1 + mc) * (j + 1) = c; rw [Nat.mul_succ]; omega, by show u1 - n - ms + (n + ms) * (j + 1) = u; rw [Nat.mul_succ]; omega⟩
    show v2 arr i = _ ∧ Lay S2 v2 _ ∧ ∀ k, k ∉ ptr → v2 _ k = _
    have sl := q1.1
    by_cases e : i = (j : Int)
    · subst e
      rw [← q2]
      exact ⟨r4, r5, r6⟩
    · obtain ⟨x1, x2, x3⟩ := q3 i i0 (by omega)
      have h1 : (1 + cnt : Int) * (i + 1) ≤ (1 + cnt : Int) * (j : Int) := Int.mul_le_mul_of_nonneg_left (by omega) (by omega)
      have h2 : 0 ≤ (1 + cnt : Int) * i := Int.mul_nonneg (by omega) i0
      rw [Int.mul_add, Int.mul_one] at h1
      generalize (1 + cnt : Int) * i = pi at *
      refine ⟨?_, hC.2.1 _ _ _ _ _ x2 (hO.gr.eqw (by omega) (by omega)), fun k hk => ?_⟩
      · rw [r3 _ _ (by omega) (fun _ => e)]; exact x1
      · rw [r3 _ _ (by omega) (by omega)]; exact x3 k hk
  · rintro L S1 v1 c1 u1 ⟨⟨m0, m1⟩, ⟨q1, q2⟩, q3, q4, q5⟩
    exact ⟨m1, h _ _ _ _ _ m0 q1 q2 q3 q4 q5⟩
theorem Gr.ex {x : Int} (h : Gr S S' v v' a) (h' : Gr S' S2 v' v2 x) (hx : (S.2.2 : Int) ≤ x) : Gr S S2 v v2 a := ⟨Nat.le_trans h.1 h'.1, fun q hq => by
  have x := h'.2.1 q (by have := h.1; omega); have y := h.2.1 q hq
  exact ⟨x.1.trans y.1, x.2.trans y.2⟩, fun q k hq hn => by
  have := h.1
  rw [h'.2.2 q k (by omega) (by omega)]; exact h.2.2 q k hq hn⟩
def LPz (S : QS) (v : QV) (a : Int) : Prop := LPl S v a ∧ v a 0 = 1 ∧ v (a + 3) 0 = 0 ∧ v (a + 3) 1 = 0 ∧ v (a + 3) 2 = 0
theorem cs_X6 : Cs mX6_init 6 16 16 235 [0, 3, 4, 5] LPz := by
  refine ⟨fun S v a h1 h0 h2 => ?_, fun S v S' v' a h e => ?_, fun S v a h => h.1.k⟩
  rotate_left
  · obtain ⟨g1, g2, g3, g4, g5⟩ := h
    have e0 := (e a (by omega) (by omega)).2.2
    have e3 := (e (a + 3) (by omega) (by omega)).2.2
    exact ⟨g1.st e, by rw [e0]; exact g2, by rw [e3]; exact g3, by rw [e3]; exact g4, by rw [e3]; exact g5⟩
  refine wG_M ?_
  have l0 : aL 0 [2] [a] 0 = a := rfl
  generalize aL 0 [2] [a] = L at *
  unfold sX6_init
  rw [wN_Seq]
  refine wN_Super (by rw [l0]; exact h0) ?_
  rw [wN_Seq]
  refine wN_Lift ?_
  rw [wS_Put, wE_V, wE_I]
  refine ⟨by rw [l0]; exact h2, rfl, ?_⟩
  rw [l0]
  have z0 : vu v a 0 1 a 0 = 1 := vu_is
  have zo : ∀ q k, (q = a → k ≠ 0) → vu v a 0 1 q k = v q k := fun q k hk => vu_ne (fun e => hk e.1 e.2)
  generalize vu v a 0 1 = v0 at *
  rw [wN_Seq]
  refine n_FA (by rw [l0]; exact h2) (by rw [l0]; omega) (by decide) (by decide) (fun S1 v1 f1 => ?_)
  rw [l0] at f1
  rw [wN_Seq]
  refine n_FA (by rw [l0, (f1.2.2.1 a (by omega)).1]; exact h2) (by rw [l0, f1.1]; omega) (by decide) (by decide) (fun S2 v2 f2 => ?_)
  rw [l0] at f2
  rw [wN_Seq]
  have s1 : ((S1.2.2 : Nat) : Int) = a + 2 := by have := f1.1; omega
  have s2 : ((S2.2.2 : Nat) : Int) = a + 3 := by have := f2.1; omega
  have g1 := f1.gr
  have g2 := f2.gr
  have k2 : S2.1 a = 7 := by rw [(g2.2.1 a (by omega)).1, (g1.2.1 a (by omega)).1]; exact h2
  refine n_FO cs_X1 (by rw [l0]; exact k2) (by rw [l0]; omega) (by decide) (by decide) (fun S3 v3 f3 => ?_)
  rw [l0] at f3
  have g3 := f3.gr
  have s3 : ((S3.2.2 : Nat) : Int) = a + 9 := by have := f3.1; omega
  have k3 : S3.1 a = 7 := by rw [(g3.2.1 a (by omega)).1]; exact k2
  have x1 : S3.1 (a + 1) = 32 ∧ S3.2.1 (a + 1) = 4 := by
    have e := f1.2.1
    rw [show ((S.2.2 : Nat) : Int) = a + 1 by omega] at e
    rw [(g3.2.1 _ (by omega)).1, (g3.2.1 _ (by omega)).2, (g2.2.1 _ (by omega)).1, (g2.2.1 _ (by omega)).2]
    exact e
  have x2 : S3.1 (a + 2) = 30 ∧ S3.2.1 (a + 2) = 4 := by
    have e := f2.2.1
    rw [s1] at e
    rw [(g3.2.1 _ (by omega)).1, (g3.2.1 _ (by omega)).2]
    exact e
  have y3 : v3 a 3 = a + 1 := by rw [f3.2.2.1 a 3 (by omega) (by simp), f2.2.2.2.2.2 a 3 (by omega) (by simp), f1.2.2.2.2.1]; omega
  have y4 : v3 a 4 = a + 2 := by rw [f3.2.2.1 a 4 (by omega) (by simp), f2.2.2.2.2.1]; omega
  have y5 : v3 a 5 = a + 3 := by rw [f3.2.2.2.1]; omega
  have yo : ∀ k, k ∉ [(0 : Int), 3, 4, 5] → v3 a k = v a k := fun k hk => by
    simp only [List.mem_cons, List.not_mem_nil, or_false, not_or] at hk
    rw [f3.2.2.1 a k (by omega) (fun _ => by omega), f2.2.2.2.2.2 a k (by omega) (fun _ => by omega), f1.2.2.2.2.2 a k (by omega) (fun _ => by omega), zo _ _ (fun _ => by omega)]
  have y0 : v3 a 0 = 1 := by rw [f3.2.2.1 a 0 (by omega) (by simp), f2.2.2.2.2.2 a 0 (by omega) (by simp), f1.2.2.2.2.2 a 0 (by omega) (by simp)]; exact z0
  have hFo : LFo S3 v3 (a + 3) := by have := f3.2.2.2.2.1; rw [s2] at this; exact this
  have hF0 : ∀ k, k ∉ [(3 : Int), 4, 5, 6, 7] → v3 (a + 3) k = dz (cτ 1 k.toNat) := by have := f3.2.2.2.2.2; rw [s2] at this; exact this
  have gr0 : Gr S S v v0 a := ⟨Nat.le_refl _, fun _ _ => ⟨rfl, rfl⟩, fun q k hq hn => zo q k (fun e => absurd e hn)⟩
  have gr3 : Gr S S3 v v3 a := Gr.tr (Gr.tr (Gr.tr gr0 g1) g2) g3
  clear f1 f2 f3
  rw [wN_Seq]
  refine w_set ?_
  have n0 : lu L 1 0 0 = a := by simp [lu_ap, l0]
  have n1 : lu L 1 0 1 = 0 := by simp [lu_ap]
  generalize lu L 1 0 = L1 at *
  rw [wN_Seq]
  refine n_loop (K := 4) (arr := a + 1) cs_X2 (by decide) (by decide) n0 n1 k3 (by omega) y3 (by omega) (by omega) x1.1 x1.2 (by decide) (by decide) (fun L4 S4 v4 c4 u4 m0 g4 s4 p4 ec4 eu4 => ?_)
  have s4' : ((S4.2.2 : Nat) : Int) = a + 13 := by have := s4; omega
  rw [wN_Seq]
  refine w_set ?_
  have n2 : lu L4 1 0 0 = a := by simp [lu_ap, m0]
  have n3 : lu L4 1 0 1 = 0 := by simp [lu_ap]
  generalize lu L4 1 0 = L5 at *
  have gk := g4.2.1
  refine n_loop (K := 4) (arr := a + 2) cs_X0 (by decide) (by decide) n2 n3 (by rw [(gk a (by omega)).1]; exact k3) (by omega) (by rw [g4.2.2 a 4 (by omega) (by omega)]; exact y4) (by omega) (by omega) (by rw [(gk _ (by omega)).1]; exact x2.1) (by rw [(gk _ (by omega)).2]; exact x2.2) (by have : 16 - 1 - 1 - 1 - 5 = 8 := rfl; omega) (by have : 235 - (4 : Int).toNat - (4 : Int).toNat - 9 - 158 = 60 := rfl; omega) (fun L6 S6 v6 c6 u6 m0' g6 s6 p6 ec6 eu6 => ?_)
  have gk6 := g6.2.1
  have kk : ∀ q : Int, q < a + 9 → S6.1 q = S3.1 q ∧ S6.2.1 q = S3.2.1 q := fun q hq => by
    have x := gk6 q (by omega); have y := gk q (by omega)
    exact ⟨x.1.trans y.1, x.2.trans y.2⟩
  have va : ∀ k, v6 a k = v3 a k := fun k => by rw [g6.2.2 a k (by omega) (by omega), g4.2.2 a k (by omega) (by omega)]
  have v3k : ∀ k, v6 (a + 3) k = v3 (a + 3) k := fun k => by rw [g6.2.2 _ k (by omega) (by omega), g4.2.2 _ k (by omega) (by omega)]
  refine ⟨(gr3.ex g4 (by omega)).ex g6 (by omega), ?_, ⟨⟨by rw [(kk a (by omega)).1]; exact k3, by show v6 a 3 = _; rw [va]; exact y3, by show v6 a 4 = _; rw [va]; exact y4, by show v6 a 5 = _; rw [va]; exact y5, by rw [(kk _ (by omega)).1]; exact x1.1, by rw [(kk _ (by omega)).2]; exact x1.2, by rw [(kk _ (by omega)).1]; exact x2.1, by rw [(kk _ (by omega)).2]; exact x2.2, fun m z0 z1 => ?_, fun m z0 z1 => ?_, fun m z0 z1 => ?_, fun m z0 z1 => ?_, ?_⟩, by show v6 a 0 = 1; rw [va]; exact y0, ?_, ?_, ?_⟩, fun k hk => by show v6 a k = _; rw [va]; exact yo k hk⟩
  · show ((S6.2.2 : Nat) : Int) = a + 1 + ((16 : Nat) : Int); omega
  · show v6 (a + 1) m = _
    rw [g6.2.2 _ m (by omega) (by omega), (p4 m z0 (by omega)).1]; omega
  · show v6 (a + 2) m = _
    rw [(p6 m z0 (by omega)).1]; omega
  · have := (p4 m z0 (by omega)).2.1
    rw [show ((S3.2.2 : Nat) : Int) + (1 + ((0 : Nat) : Int)) * m = a + (9 + m) by omega] at this
    rw [(gk6 _ (by omega)).1]
    exact this
  · have := (p6 m z0 (by omega)).2.1
    rw [show ((S4.2.2 : Nat) : Int) + (1 + ((0 : Nat) : Int)) * m = a + (13 + m) by omega] at this
    exact this
  · exact (hFo.st (g4.eqw (by omega) (by omega))).st (g6.eqw (by omega) (by omega))
  · show v6 (a + 3) 0 = 0
    rw [v3k, hF0 0 (by decide)]; rfl
  · show v6 (a + 3) 1 = 0
    rw [v3k, hF0 1 (by decide)]; rfl
  · show v6 (a + 3) 2 = 0
    rw [v3k, hF0 2 (by decide)]; rfl
end MK4
