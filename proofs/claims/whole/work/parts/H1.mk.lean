/-! MAKING: what a constructor leaves -/
def wN (s : NT) (L : QL) (N : QN) (Q : QL → QN → Prop) : Prop := ∃ r, s L N = some r ∧ Q r.1 r.2
def wG (g : NM) (a : Int) (N : QN) (Q : QN → Prop) : Prop := ∃ M, g a N = some M ∧ Q M
def nFs (ci : Nat) : List (Int × Nat × Int) → NT → NT
  | [], r => r
  | p :: l, r => nSeq (nFA ci p.1 p.2.1 p.2.2) (nFs ci l r)
def szF : List (Int × Nat × Int) → Nat
  | [] => 0
  | p :: l => p.2.2.toNat + szF l
theorem seq_skip {s : NT} : nSeq s nSkip = s := by
  funext L N
  unfold nSeq nSkip
  cases s L N <;> rfl
/-- things of a stretch stay -/
def Eqw (S S' : QS) (v v' : QV) (lo hi : Int) : Prop := ∀ q, lo ≤ q → q ≤ hi → S'.1 q = S.1 q ∧ S'.2.1 q = S.2.1 q ∧ ∀ k, v' q k = v q k
/-- things that were there stay, all but the contents of a -/
def Gr (S S' : QS) (v v' : QV) (a : Int) : Prop := S.2.2 ≤ S'.2.2 ∧ (∀ q : Int, q < (S.2.2 : Int) → S'.1 q = S.1 q ∧ S'.2.1 q = S.2.1 q) ∧ ∀ (q k : Int), q < (S.2.2 : Int) → q ≠ a → v' q k = v q k
/-- a new thing, told in field k of a -/
def As (S : QS) (v : QV) (κ : Nat) (n : Int) (d : Int → Int) (a k : Int) (S' : QS) (v' : QV) : Prop := S'.2.2 = S.2.2 + 1 ∧ (S'.1 S.2.2 = κ ∧ S'.2.1 S.2.2 = n) ∧ (∀ q : Int, q < (S.2.2 : Int) → S'.1 q = S.1 q ∧ S'.2.1 q = S.2.1 q) ∧ (∀ j, v' S.2.2 j = d j) ∧ v' a k = S.2.2 ∧ ∀ (q j : Int), q < (S.2.2 : Int) → (q = a → j ≠ k) → v' q j = v q j
def FsN (S : QS) (v : QV) (a : Int) (l : List (Int × Nat × Int)) (S' : QS) (v' : QV) : Prop := S'.2.2 = S.2.2 + l.length ∧ (∀ q : Int, q < (S.2.2 : Int) → S'.1 q = S.1 q ∧ S'.2.1 q = S.2.1 q) ∧ (∀ (q j : Int), q < (S.2.2 : Int) → (q = a → ∀ p ∈ l, p.1 ≠ j) → v' q j = v q j) ∧ ∀ (i : Nat) (p : Int × Nat × Int), l[i]? = some p → S'.1 (S.2.2 + i) = p.2.1 ∧ S'.2.1 (S.2.2 + i) = p.2.2 ∧ (∀ j, v' (S.2.2 + i) j = dz (eτ p.2.1)) ∧ v' a p.1 = S.2.2 + i
/-- a new object and all that its constructor made -/
def Os (S : QS) (v : QV) (cj cnt : Nat) (ptr : List Int) (Lay : QS → QV → Int → Prop) (a k : Int) (S' : QS) (v' : QV) : Prop := (S'.2.2 : Int) = S.2.2 + 1 + cnt ∧ (∀ q : Int, q < (S.2.2 : Int) → S'.1 q = S.1 q ∧ S'.2.1 q = S.2.1 q) ∧ (∀ (q j : Int), q < (S.2.2 : Int) → (q = a → j ≠ k) → v' q j = v q j) ∧ v' a k = S.2.2 ∧ Lay S' v' S.2.2 ∧ ∀ j, j ∉ ptr → v' S.2.2 j = dz (cτ cj j.toNat)
def Cs (g : NM) (ci cnt mc ms : Nat) (ptr : List Int) (Lay : QS → QV → Int → Prop) : Prop := (∀ (S : QS) (v : QV) (a : Int), a + 1 = S.2.2 → 0 ≤ a → S.1 a = ci + 1 → wG g a (S, v, mc, ms) (fun M => Gr S M.1 v M.2.1 a ∧ (M.1.2.2 : Int) = a + 1 + cnt ∧ Lay M.1 M.2.1 a ∧ ∀ k, k ∉ ptr → M.2.1 a k = v a k)) ∧ (∀ S v S' v' a, Lay S v a → Eqw S S' v v' a (a + cnt) → Lay S' v' a) ∧ ∀ S v a, Lay S v a → S.1 a = ci + 1
section MK1
variable {S S' S2 : QS} {v v' v2 : QV} {L : QL} {N : QN} {Q Q' : QL → QN → Prop} {c u : Nat} {a b lo hi : Int}
theorem Gr.rf : Gr S S v v a := ⟨Nat.le_refl _, fun _ _ => ⟨rfl, rfl⟩, fun _ _ _ _ => rfl⟩
theorem Gr.tr (h : Gr S S' v v' a) (h' : Gr S' S2 v' v2 a) : Gr S S2 v v2 a := by
  obtain ⟨h1, h2, h3⟩ := h
  obtain ⟨g1, g2, g3⟩ := h'
  refine ⟨Nat.le_trans h1 g1, fun q hq => ?_, fun q k hq hn => ?_⟩
  · have := g2 q (by omega)
    rw [this.1, this.2]; exact h2 q hq
  · rw [g3 q k (by omega) hn]; exact h3 q k hq hn
theorem Eqw.sub {lo' hi' : Int} (h : Eqw S S' v v' lo hi) (h1 : lo ≤ lo') (h2 : hi' ≤ hi) : Eqw S S' v v' lo' hi' := fun q q1 q2 => h q (by omega) (by omega)
theorem Eqw.tr (h : Eqw S S' v v' lo hi) (h' : Eqw S' S2 v' v2 lo hi) : Eqw S S2 v v2 lo hi := fun q q1 q2 => by
  obtain ⟨a1, a2, a3⟩ := h q q1 q2
  obtain ⟨b1, b2, b3⟩ := h' q q1 q2
  exact ⟨b1.trans a1, b2.trans a2, fun k => (b3 k).trans (a3 k)⟩
theorem Gr.eqw (h : Gr S S' v v' a) (h1 : hi < S.2.2) (h2 : a < lo ∨ hi < a) : Eqw S S' v v' lo hi := fun q q1 q2 => ⟨(h.2.1 q (by omega)).1, (h.2.1 q (by omega)).2, fun k => h.2.2 q k (by omega) (by omega)⟩
theorem As.gr {κ : Nat} {n k : Int} {d : Int → Int} (h : As S v κ n d a k S' v') : Gr S S' v v' a := ⟨by rw [h.1]; omega, h.2.2.1, fun q j hq hn => h.2.2.2.2.2 q j hq (fun e => absurd e hn)⟩
theorem Os.gr {cj cnt : Nat} {ptr : List Int} {Lay : QS → QV → Int → Prop} {k : Int} (h : Os S v cj cnt ptr Lay a k S' v') : Gr S S' v v' a := ⟨by have := h.1; omega, h.2.1, fun q j hq hn => h.2.2.1 q j hq (fun e => absurd e hn)⟩
theorem FsN.gr {l : List (Int × Nat × Int)} (h : FsN S v a l S' v') : Gr S S' v v' a := ⟨by rw [h.1]; omega, h.2.1, fun q j hq hn => h.2.2.1 q j hq (fun e => absurd e hn)⟩
theorem wN_Seq {s t : NT} : wN (nSeq s t) L N Q ↔ wN s L N (fun L' N' => wN t L' N' Q) := by
  constructor
  · rintro ⟨r, h, q⟩
    obtain ⟨x, h1, h2⟩ := Option.bind_eq_some_iff.mp h
    exact ⟨x, h1, r, h2, q⟩
  · rintro ⟨x, h1, r, h2, q⟩
    exact ⟨r, Option.bind_eq_some_iff.mpr ⟨x, h1, h2⟩, q⟩
theorem wN_mono {s : NT} (h : wN s L N Q') (hq : ∀ L' N', Q' L' N' → Q L' N') : wN s L N Q := by
  obtain ⟨r, h1, h2⟩ := h
  exact ⟨r, h1, hq _ _ h2⟩
theorem wN_Super (h0 : 0 ≤ L 0) (h : Q L N) : wN nSuper L N Q := ⟨(L, N), if_pos h0, h⟩
theorem wN_Skip (h : Q L N) : wN nSkip L N Q := ⟨(L, N), rfl, h⟩
theorem wN_Lift {s : QT} (h : wS s L S v (fun k z L' w => k = 0 ∧ Q L' (S, w, c, u))) : wN (nLift s) L (S, v, c, u) Q := by
  obtain ⟨k, z, L', w, h1, rfl, h2⟩ := h
  exact ⟨(L', (S, w, c, u)), Option.bind_eq_some_iff.mpr ⟨_, h1, if_pos rfl⟩, h2⟩
theorem wG_M {s : NT} {Q : QN → Prop} (h : wN s (aL 0 [2] [a]) N (fun _ N' => Q N')) : wG (nM s) a N Q := by
  obtain ⟨r, h1, h2⟩ := h
  exact ⟨r.2, Option.map_eq_some_iff.mpr ⟨r, h1, rfl⟩, h2⟩
theorem wN_wh {bd : NT} {K : Nat} (I : Nat → QL → QN → Prop) (hs : ∀ j L S v c u, j < K → I j L (S, v, c, u) → L 1 = j ∧ wN bd L (S, v, c, u) (I (j + 1))) (he : ∀ L S v c u, I K L (S, v, c, u) → L 1 = K ∧ Q L (S, v, c, u)) : ∀ (m j : Nat) (L : QL) (N : QN), K < m + j → j ≤ K → I j L N → wN (nWh (cB qlt (eV 1) (eI K)) bd m) L N Q
  | 0, j, L, N, h1, h2, h3 => by omega
  | m + 1, j, L, (S, v, c, u), h1, h2, h3 => by
    by_cases e : j = K
    · subst e
      obtain ⟨l1, hq⟩ := he _ _ _ _ _ h3
      refine ⟨(L, (S, v, c, u)), ?_, hq⟩
      show (((cB qlt (eV 1) (eI j)) L S v).bind fun t => _) = _
      have : (cB qlt (eV 1) (eI j)) L S v = some (false, v) := by
        show some (qlt (L 1) j, v) = _
        rw [l1]
        simp [qlt]
      rw [this]
      rfl
    · obtain ⟨l1, hb⟩ := hs j _ _ _ _ _ (by omega) h3
      obtain ⟨r, h4, h5⟩ := hb
      obtain ⟨r2, h6, h7⟩ := wN_wh I hs he m (j + 1) r.1 r.2 (by omega) (by omega) h5
      refine ⟨r2, ?_, h7⟩
      show (((cB qlt (eV 1) (eI K)) L S v).bind fun t => _) = _
      have : (cB qlt (eV 1) (eI K)) L S v = some (true, v) := by
        show some (qlt (L 1) K, v) = _
        rw [l1]
        have : (j : Int) < K := by omega
        simp [qlt, this]
      rw [this]
      show ((bd L (S, v, c, u)).bind fun r => nWh (cB qlt (eV 1) (eI K)) bd m r.1 r.2) = _
      rw [h4]
      exact h6
theorem wN_For {bd : NT} {K m : Nat} (I : Nat → QL → QN → Prop) (hm : K < m) (h0 : I 0 L N) (hs : ∀ j L S v c u, j < K → I j L (S, v, c, u) → L 1 = j ∧ wN bd L (S, v, c, u) (I (j + 1))) (he : ∀ L S v c u, I K L (S, v, c, u) → L 1 = K ∧ Q L (S, v, c, u)) : wN (nWh (cB qlt (eV 1) (eI K)) bd m) L N Q := wN_wh I hs he m 0 L N (by omega) (Nat.zero_le _) h0
def aS (S : QS) (κ : Nat) (n : Int) : QS := (fun a => if a = (S.2.2 : Int) then κ else S.1 a, fun a => if a = (S.2.2 : Int) then n else S.2.1 a, S.2.2 + 1)
def aV (v : QV) (n0 : Int) (d : Int → Int) : QV := fun a k => if a = n0 then d k else v a k
theorem al_eq {κ m : Nat} {n : Int} {d : Int → Int} (hc : 1 ≤ c) (hu : m ≤ u) : nAl κ n m d (S, v, c, u) = some (aS S κ n, aV v S.2.2 d, c - 1, u - m) := if_pos ⟨hc, hu⟩
theorem aS_n {κ : Nat} {n : Int} : (aS S κ n).1 S.2.2 = κ ∧ (aS S κ n).2.1 S.2.2 = n ∧ (aS S κ n).2.2 = S.2.2 + 1 := ⟨if_pos rfl, if_pos rfl, rfl⟩
theorem aS_o {κ : Nat} {n q : Int} (h : q < S.2.2) : (aS S κ n).1 q = S.1 q ∧ (aS S κ n).2.1 q = S.2.1 q := ⟨if_neg (by omega), if_neg (by omega)⟩
theorem aV_n {n0 k : Int} {d : Int → Int} : aV v n0 d n0 k = d k := if_pos rfl
theorem aV_o {n0 q k : Int} {d : Int → Int} (h : q < n0) : aV v n0 d q k = v q k := if_neg (by omega)
theorem n_FA {ci κ : Nat} {k n : Int} (h0 : S.1 (L 0) = ci + 1) (hl : L 0 < S.2.2) (hc : 1 ≤ c) (hu : n.toNat ≤ u) (h : ∀ S' v', As S v κ n (fun _ => dz (eτ κ)) (L 0) k S' v' → Q L (S', v', c - 1, u - n.toNat)) : wN (nFA ci k κ n) L (S, v, c, u) Q := by
  have e0 : (aS S κ n).1 (L 0) = ci + 1 := by rw [(aS_o hl).1]; exact h0
  refine ⟨(L, (aS S κ n, vu (aV v S.2.2 (fun _ => dz (eτ κ))) (L 0) k S.2.2, c - 1, u - n.toNat)), ?_, h _ _ ⟨aS_n.2.2, ⟨aS_n.1, aS_n.2.1⟩, fun q hq => aS_o hq, fun j => ?_, vu_is, fun q j hq hk => ?_⟩⟩
  · show ((nAl κ n n.toNat (fun _ => dz (eτ κ)) (S, v, c, u)).bind _) = _
    rw [al_eq hc hu]
    exact if_pos e0
  · rw [vu_ne (by omega)]; exact aV_n
  · rw [vu_ne (fun e => hk e.1 e.2)]; exact aV_o hq
theorem n_Fs {ci : Nat} {r : NT} : ∀ (l : List (Int × Nat × Int)) (S : QS) (v : QV) (c u : Nat), (l.map (·.1)).Nodup → S.1 (L 0) = ci + 1 → L 0 < S.2.2 → l.length ≤ c → szF l ≤ u → (∀ S' v', FsN S v (L 0) l S' v' → wN r L (S', v', c - l.length, u - szF l) Q) → wN (nFs ci l r) L (S, v, c, u) Q
  | [], S, v, c, u, hd, h0, hl, hc, hu, h => h S v ⟨rfl, fun _ _ => ⟨rfl, rfl⟩, fun _ _ _ _ => rfl, fun i p hp => by simp at hp⟩
  | p :: l, S, v, c, u, hd, h0, hl, hc, hu, h => by
    simp only [List.length_cons] at hc
    simp only [szF] at hu
    rw [List.map_cons, List.nodup_cons] at hd
    rw [nFs, wN_Seq]
    refine n_FA h0 hl (by omega) (by omega) (fun S1 v1 h1 => ?_)
    obtain ⟨a1, ⟨a2, a3⟩, a4, a5, a6, a7⟩ := id h1
    refine n_Fs l S1 v1 _ _ hd.2 (by rw [(a4 _ hl).1]; exact h0) (by omega) (by omega) (by omega) (fun S2 v2 h2 => ?_)
    obtain ⟨b1, b2, b3, b4⟩ := h2
    have e1 : c - 1 - l.length = c - (p :: l).length := by simp only [List.length_cons]; omega
    have e2 : u - p.2.2.toNat - szF l = u - szF (p :: l) := by simp only [szF]; omega
    rw [e1, e2]
    have en : ((S1.2.2 : Nat) : Int) = S.2.2 + 1 := by omega
    refine h S2 v2 ⟨by rw [b1, a1]; simp only [List.length_cons]; omega, fun q hq => ?_, fun q j hq hk => ?_, fun i p' hp => ?_⟩
    · have := b2 q (by omega)
      rw [this.1, this.2]
      exact a4 q hq
    · rw [b3 q j (by omega) (fun e p' hp' => hk e p' (List.mem_cons_of_mem _ hp')), a7 q j hq (fun e z => hk e p (List.mem_cons_self ..) z.symm)]
    · cases i with
      | zero =>
        simp only [List.getElem?_cons_zero, Option.some.injEq] at hp
        subst hp
        have x := b2 S.2.2 (by omega)
        refine ⟨?_, ?_, fun j => ?_, ?_⟩
        · rw [show (S.2.2 : Int) + ((0 : Nat) : Int) = S.2.2 by omega, x.1]; exact a2
        · rw [show (S.2.2 : Int) + ((0 : Nat) : Int) = S.2.2 by omega, x.2]; exact a3
        · rw [show (S.2.2 : Int) + ((0 : Nat) : Int) = S.2.2 by omega, b3 _ _ (by omega) (fun e => by omega)]; exact a5 j
        · rw [b3 _ _ (by omega) (fun _ p' hp' e => hd.1 (by rw [← e]; exact List.mem_map.mpr ⟨p', hp', rfl⟩)), a6]; omega
      | succ i =>
        simp only [List.getElem?_cons_succ] at hp
        have := b4 i p' hp
        rw [en, show (S.2.2 : Int) + 1 + (i : Int) = S.2.2 + ((i + 1 : Nat) : Int) by omega] at this
        exact this
theorem n_call {g : NM} {cj cnt mc ms n : Nat} {ptr : List Int} {Lay : QS → QV → Int → Prop} (hC : Cs g cj cnt mc ms ptr Lay) (hc : 1 + mc ≤ c) (hu : n + ms ≤ u) : ∃ S1 v1 c1 u1, nCall g mc ms S.2.2 (aS S (cj + 1) 0, aV v S.2.2 (fun j => dz (cτ cj j.toNat)), c - 1, u - n) = some (S1, v1, c - 1 - mc, u - n - ms) ∧ (S1.2.2 : Int) = S.2.2 + 1 + cnt ∧ (∀ q : Int, q < (S.2.2 : Int) → S1.1 q = S.1 q ∧ S1.2.1 q = S.2.1 q) ∧ (∀ (q j : Int), q < (S.2.2 : Int) → v1 q j = v q j) ∧ Lay S1 v1 S.2.2 ∧ (∀ j, j ∉ ptr → v1 S.2.2 j = dz (cτ cj j.toNat)) ∧ (c1 = c ∧ u1 = u) := by
  obtain ⟨M, h1, ⟨g1, g2, g3⟩, g4, g5, g6⟩ := hC.1 (aS S (cj + 1) 0) (aV v S.2.2 (fun j => dz (cτ cj j.toNat))) S.2.2 (by rw [aS_n.2.2]; omega) (by omega) aS_n.1
  refine ⟨M.1, M.2.1, c, u, ?_, g4, fun q hq => ?_, fun q j hq => ?_, g5, fun j hj => ?_, rfl, rfl⟩
  · unfold nCall
    rw [if_pos ⟨by show mc ≤ c - 1; omega, by show ms ≤ u - n; omega⟩, h1]
    rfl
  · have := g2 q (by rw [aS_n.2.2]; omega)
    rw [this.1, this.2]
    exact aS_o hq
  · rw [g3 q j (by rw [aS_n.2.2]; omega) (by omega)]
    exact aV_o hq
  · rw [g6 j hj]; exact aV_n
theorem n_FO {g : NM} {ci cj cnt mc ms n : Nat} {k : Int} {ptr : List Int} {Lay : QS → QV → Int → Prop} (hC : Cs g cj cnt mc ms ptr Lay) (h0 : S.1 (L 0) = ci + 1) (hl : L 0 < S.2.2) (hc : 1 + mc ≤ c) (hu : n + ms ≤ u) (h : ∀ S' v', Os S v cj cnt ptr Lay (L 0) k S' v' → Q L (S', v', c - 1 - mc, u - n - ms)) : wN (nFO ci k cj n g mc ms) L (S, v, c, u) Q := by
  obtain ⟨S1, v1, -, -, e1, f1, f2, f3, f4, f5, -⟩ := n_call (S := S) (v := v) (n := n) hC hc hu
  refine ⟨(L, (S1, vu v1 (L 0) k S.2.2, c - 1 - mc, u - n - ms)), ?_, h _ _ ⟨f1, f2, fun q j hq hk => ?_, vu_is, ?_, fun j hj => ?_⟩⟩
  · show ((nAl (cj + 1) 0 n (fun j => dz (cτ cj j.toNat)) (S, v, c, u)).bind _) = _
    rw [al_eq (by omega) (by omega)]
    show ((nCall g mc ms S.2.2 (aS S (cj + 1) 0, aV v S.2.2 (fun j => dz (cτ cj j.toNat)), c - 1, u - n)).bind _) = _
    rw [e1]
    exact if_pos (by show S1.1 (L 0) = ci + 1; rw [(f2 _ hl).1]; exact h0)
  · rw [vu_ne (fun e => hk e.1 e.2)]; exact f3 q j hq
  · exact hC.2.1 _ _ _ _ _ f4 (fun q q1 q2 => ⟨rfl, rfl, fun j => vu_ne (by omega)⟩)
  · rw [vu_ne (by omega)]; exact f5 j hj
theorem n_AO {g : NM} {ci κ cj cnt mc ms n : Nat} {k arr len j : Int} {ptr : List Int} {Lay : QS → QV → Int → Prop} (hC : Cs g cj cnt mc ms ptr Lay) (h0 : S.1 (L 0) = ci + 1) (ha : v (L 0) k = arr) (h1 : L 1 = j) (hl : arr < S.2.2) (hκ : S.1 arr = κ) (hn : S.2.1 arr = len) (hj : 0 ≤ j ∧ j < len) (hc : 1 + mc ≤ c) (hu : n + ms ≤ u) (h : ∀ S' v', Os S v cj cnt ptr Lay arr j S' v' → Q L (S', v', c - 1 - mc, u - n - ms)) : wN (nAO κ (eF ci k (eV 0)) (eV 1) cj n g mc ms) L (S, v, c, u) Q := by
  obtain ⟨S1, v1, -, -, e1, f1, f2, f3, f4, f5, -⟩ := n_call (S := S) (v := v) (n := n) hC hc hu
  subst h1
  refine ⟨(L, (S1, vu v1 arr (L 1) S.2.2, c - 1 - mc, u - n - ms)), ?_, h _ _ ⟨f1, f2, fun q i hq hk => ?_, vu_is, ?_, fun i hi => ?_⟩⟩
  · have ea : eF ci k (eV 0) L S v = some (arr, v) := by
      show ((some (L 0, v)).bind fun r : Int × QV => if S.1 r.1 = ci + 1 then some (r.2 r.1 k, r.2) else none) = _
      show (if S.1 (L 0) = ci + 1 then some (v (L 0) k, v) else none) = _
      rw [if_pos h0, ha]
    show ((eF ci k (eV 0) L S v).bind _) = _
    rw [ea]
    show ((nAl (cj + 1) 0 n (fun j => dz (cτ cj j.toNat)) (S, v, c, u)).bind _) = _
    rw [al_eq (by omega) (by omega)]
    show ((nCall g mc ms S.2.2 (aS S (cj + 1) 0, aV v S.2.2 (fun j => dz (cτ cj j.toNat)), c - 1, u - n)).bind _) = _
    rw [e1]
    refine if_pos ⟨?_, hj.1, ?_, ?_⟩
    · show S1.1 arr = κ
      rw [(f2 _ hl).1]; exact hκ
    · show L 1 < S1.2.1 arr
      rw [(f2 _ hl).2, hn]; exact hj.2
    · exact hC.2.2 _ _ _ f4
  · rw [vu_ne (fun e => hk e.1 e.2)]; exact f3 q i hq
  · exact hC.2.1 _ _ _ _ _ f4 (fun q q1 q2 => ⟨rfl, rfl, fun j => vu_ne (by omega)⟩)
  · rw [vu_ne (by omega)]; exact f5 i hi
end MK1
