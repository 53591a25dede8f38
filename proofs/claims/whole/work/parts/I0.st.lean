/-! MAKING: both at the law's start -/
section ST0
variable {S S' S2 : QS} {v v' v2 : QV} {L : QL} {N : QN} {Q Q' : QL → QN → Prop} {c u : Nat} {a b lo hi : Int} {E : Int → Prop}
theorem LCl.st (h : LCl S v b) (e : Eqw S S' v v' b (b + 888)) : LCl S' v' b := by
  obtain ⟨h1, h2, h3, h4, h5, h6, h7, h8, h9, h10, h11, h12, h13, h14, h15, h16, h17, h18, h19, h20, h21, h22, h23, h24, h25⟩ := h
  have ke : ∀ j : Int, 0 ≤ j → j ≤ 888 → S'.1 (b + j) = S.1 (b + j) ∧ S'.2.1 (b + j) = S.2.1 (b + j) ∧ ∀ k, v' (b + j) k = v (b + j) k := fun j j0 j1 => e _ (by omega) (by omega)
  obtain ⟨e0, -, e1⟩ := e b (by omega) (by omega)
  have w : ∀ x y : Int, 0 ≤ x → y ≤ 888 → Eqw S S' v v' (b + x) (b + y) := fun x y x0 y0 => e.sub (by omega) (by omega)
  have k44 := ke 44 (by decide) (by decide)
  have k773 := ke 773 (by decide) (by decide)
  have k886 := ke 886 (by decide) (by decide)
  have k887 := ke 887 (by decide) (by decide)
  have k888 := ke 888 (by decide) (by decide)
  have W1 : Eqw S S' v v' (b + 1) (b + 1 + 4) := e.sub (by omega) (by omega)
  have W2 : Eqw S S' v v' (b + 6) (b + 6 + 3) := e.sub (by omega) (by omega)
  have W3 : Eqw S S' v v' (b + 10) (b + 10 + 16) := e.sub (by omega) (by omega)
  have W4 : Eqw S S' v v' (b + 27) (b + 27 + 16) := e.sub (by omega) (by omega)
  have W5 : ∀ i, 0 ≤ i → i < 13 → Eqw S S' v v' (b + (45 + 56 * i)) (b + (45 + 56 * i) + 55) := fun i i0 i1 => e.sub (by omega) (by omega)
  have W6 : ∀ i, 0 ≤ i → i < 2 → Eqw S S' v v' (b + (774 + 56 * i)) (b + (774 + 56 * i) + 55) := fun i i0 i1 => e.sub (by omega) (by omega)
  exact ⟨by rw [e0]; exact h1, by rw [e1]; exact h2, by rw [e1]; exact h3, by rw [e1]; exact h4, by rw [e1]; exact h5, by rw [e1]; exact h6, by rw [e1]; exact h7, by rw [e1]; exact h8, by rw [k44.1]; exact h9, by rw [k44.2.1]; exact h10, by rw [k773.1]; exact h11, by rw [k773.2.1]; exact h12, by rw [k886.1]; exact h13, by rw [k886.2.1]; exact h14, by rw [k887.1]; exact h15, by rw [k887.2.1]; exact h16, by rw [k888.1]; exact h17, h18.st W1, h19.st W2, h20.st W3, h21.st W4, fun i i0 i1 => by rw [k44.2.2]; exact h22 i i0 i1, fun i i0 i1 => by rw [k773.2.2]; exact h23 i i0 i1, fun i i0 i1 => (h24 i i0 i1).st (W5 i i0 i1), fun i i0 i1 => (h25 i i0 i1).st (W6 i i0 i1)⟩
/-- both new: all is held together -/
theorem RR_start (h1 : LCl S v b) (h2 : LMo S v (b + 889)) (hb : v b 2 = b + 10 ∧ v b 3 = b + 27 ∧ v b 11 = -1) (hp : v (b + 10) 0 = 1 ∧ v (b + 10) 1 = 0 ∧ v (b + 10) 2 = 0 ∧ v (b + 13) 0 = 0 ∧ v (b + 13) 1 = 0 ∧ v (b + 13) 2 = 0) (ht : v (b + 1) 1 = 0) (hs : v (b + 45) 0 = 0 ∧ v (b + 45) 1 = 0) (hx : v (b + 886) 0 = 0 ∧ v (b + 886) 1 = 0) (hf : v b 5 = 0 ∧ v b 6 = 0 ∧ v b 7 = 0 ∧ v b 10 = 0) (hv : MV v (b + 889)) : RR S v b (b + 889) (b + 10) 0 (b + 45) := by
  obtain ⟨⟨m28, m30, m39, m40, m58, m59⟩, hz, ⟨m2, m3, m4, m5, m6⟩, m38⟩ := hv
  obtain ⟨p0, p1, p2, f0, f1, f2⟩ := hp
  have e13 : b + 10 + 3 = b + 13 := by omega
  have z : ∀ k, 0 ≤ k → k < 1095 → (k < 3 ∨ 51 ≤ k ∨ (k - 3) % 12 = 6 ∨ (k - 3) % 12 = 7) → v (b + 889 + 1) k = 0 := hz
  have g0 := z 0 (by decide) (by decide) (by decide)
  have g1 := z 1 (by decide) (by decide) (by decide)
  have g2 := z 2 (by decide) (by decide) (by decide)
  refine ⟨⟨h1, h2, rfl⟩, ⟨hb.1, by rw [hb.2.1]; omega, Or.inl rfl⟩, ⟨m28, Or.inl rfl⟩, ⟨by rw [hf.1]; decide, by rw [hf.1]; decide, by rw [hf.1]; omega⟩, ⟨⟨by rw [p0, m2], by rw [p0]; decide, by rw [p0]; decide⟩, ⟨by rw [p1, m3], by rw [p1]; decide, by rw [p1]; decide⟩, ⟨by rw [p2, m4], by rw [p2]; decide, by rw [p2]; decide⟩, ⟨by rw [e13, f0, m5], by rw [e13, f1, m6], by rw [e13, f0]; decide, by rw [e13, f0]; decide⟩, fun m m0 m1 => by rw [p1] at m1; omega, fun m m0 m1 => by rw [p2] at m1; omega, ?_⟩, ⟨⟨by rw [hs.1, g0], by rw [g0]; decide, by rw [g0]; decide⟩, by rw [g1, g0, p0]; rfl, ⟨by rw [hs.2, g2], by rw [g2]; decide, by rw [g2, g0]; decide⟩, fun m m0 m1 => by rw [p1] at m1; omega, fun m m0 m1 => by rw [p2] at m1; omega, fun m m0 m1 => by rw [p1] at m1; omega⟩, ⟨by rw [hf.2.1, m58], by rw [hf.2.2.1, m59], by rw [hf.2.1]; decide, by rw [hf.2.2.1]; decide, by rw [hf.2.1, hf.2.2.1]; decide⟩, fun j j0 j1 => by rw [hf.2.1] at j1; omega, fun j j0 j1 => by rw [hf.2.2.1] at j1; omega, fun x x0 x1 => ?_, ⟨by rw [ht, m30], by rw [m30]; decide, by rw [m30]; decide, fun k k0 k1 => by rw [m30] at k1; omega⟩, by rw [hf.2.2.2, m39], by rw [hb.2.2, m40]⟩
  · rw [e13, f0, p1]
    refine ⟨by rw [f0]; rfl, by decide, by decide, fun s hs => absurd hs (Nat.not_lt_zero _), fun s s0 s1 => ?_, fun k k0 ⟨s, hs, hk⟩ => absurd hs (Nat.not_lt_zero _)⟩
    have : (((0 : Int).toNat : Nat) : Int) = 0 := rfl
    omega
  · have e : v (b + 886) x = 0 := by
      by_cases c : x = 0
      · rw [c]; exact hx.1
      · rw [show x = 1 by omega]; exact hx.2
    exact ⟨⟨by rw [e, m38 x x0 x1], Or.inl e⟩, fun z => absurd e z⟩
theorem n_LO {k cj n mc ms : Nat} {g : NM} {P : QN → Prop} (hc : 1 + mc ≤ c) (hu : n + ms ≤ u) (hg : wG g S.2.2 (aS S (cj + 1) 0, aV v S.2.2 (fun j => dz (cτ cj j.toNat)), mc, ms) P) (h : ∀ M, P M → Q (lu L k S.2.2) (M.1, M.2.1, c - 1 - mc, u - n - ms)) : wN (nLO k cj n g mc ms) L (S, v, c, u) Q := by
  obtain ⟨M, h1, h2⟩ := hg
  refine ⟨(lu L k S.2.2, (M.1, M.2.1, c - 1 - mc, u - n - ms)), ?_, h M h2⟩
  show ((nAl (cj + 1) 0 n (fun j => dz (cτ cj j.toNat)) (S, v, c, u)).bind _) = _
  rw [al_eq (by omega) (by omega)]
  show ((nCall g mc ms S.2.2 (aS S (cj + 1) 0, aV v S.2.2 (fun j => dz (cτ cj j.toNat)), c - 1, u - n)).bind _) = _
  have : nCall g mc ms S.2.2 (aS S (cj + 1) 0, aV v S.2.2 (fun j => dz (cτ cj j.toNat)), c - 1, u - n) = some (M.1, M.2.1, c - 1 - mc, u - n - ms) := by
    unfold nCall
    rw [if_pos ⟨by show mc ≤ c - 1; omega, by show ms ≤ u - n; omega⟩, h1]
    rfl
  rw [this]
  rfl
/-- both are made -/
def sLn : NT := nSeq (nLO 1 11 14 mX11_init 888 21416) (nLO 2 12 60 mX12_init 38 20236)
theorem law_mk (hc : 928 ≤ c) (hu : 41726 ≤ u) : wN sLn L (S, v, c, u) (fun L' N' => (L' 0 = L 0 ∧ L' 1 = S.2.2 ∧ L' 2 = (S.2.2 : Int) + 889) ∧ ((∀ q : Int, q < (S.2.2 : Int) → N'.1.1 q = S.1 q ∧ N'.1.2.1 q = S.2.1 q) ∧ ∀ (q k : Int), q < (S.2.2 : Int) → N'.2.1 q k = v q k) ∧ RX N'.1 S.2.2 N'.2.1 ∧ LtO N'.2.1 (S.2.2 + 889) ∧ N'.2.2.1 = c - 928 ∧ N'.2.2.2 = u - 41726) := by
  rw [sLn, wN_Seq]
  generalize hb : ((S.2.2 : Nat) : Int) = b
  have b0 : 0 ≤ b := by omega
  have hG1 := cs_X11 (aS S (11 + 1) 0) (aV v S.2.2 (fun j => dz (cτ 11 j.toNat))) S.2.2 (by rw [aS_n.2.2]; omega) (by omega) aS_n.1
  refine n_LO (by omega) (by omega) hG1 ?_
  rintro ⟨S1, v1, c1, u1⟩ ⟨g1, s1, hC, ho⟩
  dsimp only at g1 s1 hC ho ⊢
  rw [hb] at s1 hC ho g1 ⊢
  have q1 : ∀ q : Int, q < b → S1.1 q = S.1 q ∧ S1.2.1 q = S.2.1 q := fun q hq => by
    have x := g1.2.1 q (by rw [aS_n.2.2]; omega)
    rw [x.1, x.2]; exact aS_o (by omega)
  have r1 : ∀ (q k : Int), q < b → v1 q k = v q k := fun q k hq => by
    rw [g1.2.2 q k (by rw [aS_n.2.2]; omega) (by omega)]; exact aV_o (by omega)
  have f1 : ∀ k, k ∉ [(0 : Int), 1, 2, 3, 4, 8, 9, 11, 12, 13] → v1 b k = dz (cτ 11 k.toNat) := fun k hk => by rw [ho k hk]; exact aV_n
  clear g1 ho hG1
  have hG2 := cs_X12 (aS S1 (12 + 1) 0) (aV v1 S1.2.2 (fun j => dz (cτ 12 j.toNat))) S1.2.2 (by rw [aS_n.2.2]; omega) (by omega) aS_n.1 ⟨by rw [aV_n]; rfl, by rw [aV_n]; rfl, by rw [aV_n]; rfl⟩
  refine n_LO (by omega) (by omega) hG2 ?_
  rintro ⟨S2, v2, c2, u2⟩ ⟨g2, s2, hM, hL, hv⟩
  dsimp only at g2 s2 hM hL hv ⊢
  rw [s1] at hM hL hv g2 ⊢
  have q2 : ∀ q : Int, q < b + 889 → S2.1 q = S1.1 q ∧ S2.2.1 q = S1.2.1 q := fun q hq => by
    have x := g2.2.1 q (by rw [aS_n.2.2]; omega)
    rw [x.1, x.2]; exact aS_o (by omega)
  have r2 : ∀ (q k : Int), q < b + 889 → v2 q k = v1 q k := fun q k hq => by
    rw [g2.2.2 q k (by rw [aS_n.2.2]; omega) (by omega)]; exact aV_o (by omega)
  have W : Eqw S1 S2 v1 v2 b (b + 888) := fun q h1 h2 => ⟨(q2 q (by omega)).1, (q2 q (by omega)).2, fun k => r2 q k (by omega)⟩
  have rb : ∀ j k : Int, 0 ≤ j → j ≤ 888 → v2 (b + j) k = v1 (b + j) k := fun j k j0 j1 => r2 _ k (by omega)
  have rz : ∀ k : Int, v2 b k = v1 b k := fun k => r2 _ k (by omega)
  have KB : (∀ q : Int, q < b → S2.1 q = S.1 q ∧ S2.2.1 q = S.2.1 q) ∧ ∀ (q k : Int), q < b → v2 q k = v q k := ⟨fun q hq => by
    have x := q2 q (by omega); have y := q1 q hq
    exact ⟨x.1.trans y.1, x.2.trans y.2⟩, fun q k hq => by rw [r2 q k (by omega)]; exact r1 q k hq⟩
  have ec : c - 1 - 888 - 1 - 38 = c - 928 := by omega
  have eu : u - 14 - 21416 - 60 - 20236 = u - 41726 := by rw [Nat.sub_sub, Nat.sub_sub, Nat.sub_sub]
  clear q1 q2 r1 r2 g2 s1 s2 hc hu
  obtain ⟨hC1, ⟨y1, y2, y3⟩, ⟨y4, y5, y6, y7, y8, y9⟩, y10, ⟨y11, y12⟩, y13, y14⟩ := hC
  refine ⟨⟨by simp [lu_ap], by simp [lu_ap], by simp [lu_ap]⟩, KB, ⟨b + 10, 0, b + 45, RR_start (hC1.st W) hM ⟨?_, ?_, ?_⟩ ⟨?_, ?_, ?_, ?_, ?_, ?_⟩ ?_ ⟨?_, ?_⟩ ⟨?_, ?_⟩ ⟨?_, ?_, ?_, ?_⟩ hv⟩, hL, ec, eu⟩
  · rw [rz]; exact y1
  · rw [rz]; exact y2
  · rw [rz]; exact y3
  · rw [rb _ _ (by decide) (by decide)]; exact y4
  · rw [rb _ _ (by decide) (by decide)]; exact y5
  · rw [rb _ _ (by decide) (by decide)]; exact y6
  · rw [rb _ _ (by decide) (by decide)]; exact y7
  · rw [rb _ _ (by decide) (by decide)]; exact y8
  · rw [rb _ _ (by decide) (by decide)]; exact y9
  · rw [rb _ _ (by decide) (by decide)]; exact y10
  · rw [rb _ _ (by decide) (by decide)]; exact y11
  · rw [rb _ _ (by decide) (by decide)]; exact y12
  · rw [rb _ _ (by decide) (by decide)]; exact y13
  · rw [rb _ _ (by decide) (by decide)]; exact y14
  · rw [rz, f1 5 (by decide)]; rfl
  · rw [rz, f1 6 (by decide)]; rfl
  · rw [rz, f1 7 (by decide)]; rfl
  · rw [rz, f1 10 (by decide)]; rfl
end ST0
