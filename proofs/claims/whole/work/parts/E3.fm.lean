/-! STORE: a formula as a machine over tokens -/
def fUn (v : QV) (T : Int) (β : Int → Int) (op un i : Int) : Int := if ¬ kdT v T i = 3 ∧ ¬ kdT v T i = 4 ∧ ¬ kdT v T i = 40 then 1 else if kdT v T i = 3 ∧ 9999 < nmT v T i then 2 else if kdT v T i = 4 ∧ β i = -1 then 3 else if 30 ≤ un ∨ 4 < op then 4 else 0
def cdU (v : QV) (T : Int) (β : Int → Int) (i : Int) : Int := if kdT v T i = 3 then nmT v T i else if β i < 4 then 10000 + β i else 10010 + (β i - 4)
def fmG (v : QV) (T : Int) (β : Int → Int) : Nat → List Int → (Int → Int) → Int → Int → Int → Bool → Int → (Int × Int) × (Int → Int) × Int × Int
  | 0, _, c, l, _, un, _, i => ((1, i), c, l, un)
  | k + 1, st, c, l, op, un, true, i => if fUn v T β op un i = 0 then (if kdT v T i = 40 then fmG v T β k (40 :: st) c l (op + 1) (un + 1) true (i + 1) else fmG v T β k st (fu c l (cdU v T β i)) (l + 1) op (un + 1) false (i + 1)) else ((fUn v T β op un i, i), c, l, un)
  | k + 1, st, c, l, op, un, false, i => if 0 < rkS (kdT v T i) then fmG v T β k (kdT v T i :: (fRl (rkS (kdT v T i)) st c l).1) (fRl (rkS (kdT v T i)) st c l).2.1 (fRl (rkS (kdT v T i)) st c l).2.2 op un true (i + 1) else if kdT v T i = 41 ∧ 0 < op then fmG v T β k (fRl 1 st c l).1.tail (fRl 1 st c l).2.1 (fRl 1 st c l).2.2 (op - 1) un false (i + 1) else if 0 < op then ((1, i), c, l, un) else ((0, i), (fRl 1 st c l).2.1, (fRl 1 st c l).2.2, un)
def cP : List Int → Int
  | [] => 0
  | s :: st => (if s = 40 then 1 else 0) + cP st
theorem cP_n : ∀ st : List Int, 0 ≤ cP st
  | [] => Int.le_refl _
  | s :: st => by
    have := cP_n st
    simp only [cP]
    split <;> omega
theorem dp_c {c c' : Int → Int} {a : Int} : ∀ j : Nat, (∀ k : Nat, k < j → c' (a + k) = c (a + k)) → dp c' a j = dp c a j
  | 0, _ => rfl
  | j + 1, h => by
    have ih := dp_c j (fun k hk => h k (by omega))
    simp only [dp]
    rw [h j (by omega), ih]
theorem wc_c {c c' : Int → Int} {a nm : Int} {s j : Nat} (h : ∀ k : Nat, k ≤ j → c' (a + k) = c (a + k)) (hw : wc c nm s a j) : wc c' nm s a j := by
  unfold wc at hw ⊢
  rw [h j (Nat.le_refl _), dp_c j (fun k hk => h k (by omega))]
  exact hw
/-- what holds in the midst of a formula -/
def fV (st : List Int) (c : Int → Int) (l op un : Int) (e : Int) (l0 nm : Int) (ns : Nat) : Prop := sOk st ∧ cP st = op ∧ ((st.length : Int) + e ≤ un ∧ un ≤ 30) ∧ l + cO st ≤ 2 * un - e ∧ (0 ≤ l0 ∧ l0 ≤ l) ∧ dp c l0 (l - l0).toNat = cO st + e ∧ ∀ j : Nat, l0 + j < l → wc c nm ns l0 j
theorem fV.lay {c : Int → Int} {l l0 nm z D D' : Int} {ns : Nat} (h0 : 0 ≤ l0 ∧ l0 ≤ l) (hd : dp c l0 (l - l0).toNat = D) (hw : ∀ j : Nat, l0 + j < l → wc c nm ns l0 j) (hz : (10020 ≤ z ∧ z ≤ 10024 ∧ 2 ≤ D ∧ D ≤ 30 ∧ D' = D - 1) ∨ (0 ≤ D ∧ D < 30 ∧ D' = D + 1 ∧ z < 10020 ∧ ((0 ≤ z ∧ z ≤ 9999) ∨ (10000 ≤ z ∧ z < 10000 + nm) ∨ (10010 ≤ z ∧ z < 10010 + ns)))) : dp (fu c l z) l0 (l + 1 - l0).toNat = D' ∧ ∀ j : Nat, l0 + j < l + 1 → wc (fu c l z) nm ns l0 j := by
  have e1 : (l + 1 - l0).toNat = (l - l0).toNat + 1 := by omega
  have e2 : l0 + (((l - l0).toNat : Nat) : Int) = l := by omega
  have hc : ∀ k : Nat, l0 + k < l → fu c l z (l0 + k) = c (l0 + k) := fun k hk => by rw [fu_ap, if_neg (by omega)]
  have hl : fu c l z l = z := by rw [fu_ap, if_pos rfl]
  have hdp : dp (fu c l z) l0 (l - l0).toNat = D := by rw [dp_c _ (fun k hk => hc k (by omega))]; exact hd
  refine ⟨?_, fun j hj => ?_⟩
  · rw [e1]
    simp only [dp]
    rw [e2, hl, hdp]
    rcases hz with ⟨a, b, c1, d, e⟩ | ⟨a, b, c1, d, e⟩
    · rw [if_pos a, e]
    · rw [if_neg (by omega), c1]
  · by_cases c1 : l0 + (j : Int) < l
    · exact wc_c (fun k hk => hc k (by omega)) (hw j c1)
    · have ej : j = (l - l0).toNat := by omega
      subst ej
      unfold wc
      rw [e2, hl, hdp]
      rcases hz with ⟨a, b, c1, d, e⟩ | ⟨a, b, c1, d, e⟩
      · exact Or.inl ⟨a, b, c1, d⟩
      · exact Or.inr ⟨a, b, e⟩
theorem cO_len : ∀ st : List Int, cO st ≤ st.length
  | [] => Int.le_refl _
  | s :: st => by
    have := cO_len st
    simp only [cO, List.length_cons]
    split <;> omega
theorem cv_b {s : Int} (h : isOp s) : 10020 ≤ cvS s ∧ cvS s ≤ 10024 := by
  unfold isOp at h
  unfold cvS
  omega
theorem rk_40 : rkS 40 = 0 := rfl
theorem fRl_v {r op un l0 nm : Int} {ns : Nat} (hr : 0 < r) : ∀ (st : List Int) (c : Int → Int) (l : Int), fV st c l op un 1 l0 nm ns → fV (fRl r st c l).1 (fRl r st c l).2.1 (fRl r st c l).2.2 op un 1 l0 nm ns ∧ (∀ k, k < l → (fRl r st c l).2.1 k = c k) ∧ l ≤ (fRl r st c l).2.2 ∧ (r = 1 → (fRl r st c l).1 = [] ∨ ∃ t, (fRl r st c l).1 = 40 :: t)
  | [], c, l, h => ⟨h, fun _ _ => rfl, Int.le_refl _, fun _ => Or.inl rfl⟩
  | s :: st, c, l, h => by
    obtain ⟨h1, h2, ⟨h3, h4⟩, h5, h6, h7, h8⟩ := id h
    have hs := h1 s (List.mem_cons_self ..)
    simp only [fRl]
    by_cases g : r ≤ rkS s
    · rw [if_pos g]
      have hop := rkS_p.mp (show 0 < rkS s by omega)
      have n40 : ¬ s = 40 := fun e => by rw [e, rk_40] at g; omega
      have e1 : cO (s :: st) = 1 + cO st := by simp only [cO]; rw [if_pos (by omega)]
      have e2 : cP (s :: st) = cP st := by simp only [cP]; rw [if_neg n40]; omega
      have hn := cO_n st
      have hl := cO_len st
      have hb := cv_b hop
      simp only [List.length_cons] at h3
      rw [e1] at h5 h7
      rw [e2] at h2
      obtain ⟨g1, g2⟩ := fV.lay (z := cvS s) (D' := cO st + 1) h6 h7 h8 (Or.inl ⟨hb.1, hb.2, by omega, by omega, by omega⟩)
      have hv : fV st (fu c l (cvS s)) (l + 1) op un 1 l0 nm ns := ⟨fun a ha => h1 a (List.mem_cons_of_mem _ ha), h2, ⟨by omega, h4⟩, by omega, ⟨h6.1, by omega⟩, g1, g2⟩
      obtain ⟨q1, q2, q3, q4⟩ := fRl_v hr st _ _ hv
      refine ⟨q1, fun k hk => ?_, by omega, q4⟩
      rw [q2 k (by omega), fu_ap, if_neg (by omega)]
    · rw [if_neg g]
      refine ⟨h, fun _ _ => rfl, Int.le_refl _, fun e => Or.inr ⟨st, ?_⟩⟩
      rcases hs with a | a
      · have := rkS_p.mpr a; omega
      · rw [a]
section FM
variable {v : QV} {T l0 nm op un : Int} {ns : Nat} {β : Int → Int} {st : List Int} {c : Int → Int} {l i : Int}
theorem fUn_0 (h : fUn v T β op un i = 0) : ((kdT v T i = 3 ∧ nmT v T i ≤ 9999) ∨ (kdT v T i = 4 ∧ ¬ β i = -1) ∨ kdT v T i = 40) ∧ un < 30 ∧ op ≤ 4 := by
  unfold fUn at h
  split at h
  · omega
  · split at h
    · omega
    · split at h
      · omega
      · split at h <;> omega
theorem fV.opn (h : fV st c l op un 0 l0 nm ns) (hu : un < 30) : fV (40 :: st) c l (op + 1) (un + 1) 0 l0 nm ns := by
  obtain ⟨h1, h2, ⟨h3, h4⟩, h5, h6, h7, h8⟩ := h
  have e1 : cO (40 :: st) = cO st := by simp only [cO]; rw [rk_40, if_neg (by omega)]; omega
  have e2 : cP (40 :: st) = 1 + cP st := by simp only [cP, if_true]
  refine ⟨fun s hs => ?_, by omega, ⟨by simp only [List.length_cons]; omega, by omega⟩, by omega, h6, by rw [e1]; exact h7, h8⟩
  rcases List.mem_cons.mp hs with a | a
  · exact Or.inr a
  · exact h1 s a
theorem fV.cd (h : fV st c l op un 0 l0 nm ns) (hu : un < 30) {z : Int} (hz : z < 10020 ∧ ((0 ≤ z ∧ z ≤ 9999) ∨ (10000 ≤ z ∧ z < 10000 + nm) ∨ (10010 ≤ z ∧ z < 10010 + ns))) : fV st (fu c l z) (l + 1) op (un + 1) 1 l0 nm ns := by
  obtain ⟨h1, h2, ⟨h3, h4⟩, h5, h6, h7, h8⟩ := h
  have hn := cO_n st
  have hl := cO_len st
  obtain ⟨g1, g2⟩ := fV.lay (z := z) (D' := cO st + 1) h6 h7 h8 (Or.inr ⟨by omega, by omega, by omega, hz⟩)
  exact ⟨h1, h2, ⟨by omega, by omega⟩, by omega, ⟨h6.1, by omega⟩, g1, g2⟩
theorem fV.bi {s : Int} (h : fV st c l op un 1 l0 nm ns) (hs : isOp s) : fV (s :: st) c l op un 0 l0 nm ns := by
  obtain ⟨h1, h2, ⟨h3, h4⟩, h5, h6, h7, h8⟩ := h
  have e1 : cO (s :: st) = 1 + cO st := by simp only [cO]; rw [if_pos (rkS_p.mpr hs)]
  have e2 : cP (s :: st) = cP st := by simp only [cP]; rw [if_neg (fun e => by rw [e] at hs; unfold isOp at hs; omega)]; omega
  refine ⟨fun a ha => ?_, by omega, ⟨by simp only [List.length_cons]; omega, by omega⟩, by omega, h6, by rw [e1]; omega, h8⟩
  rcases List.mem_cons.mp ha with q | q
  · rw [q]; exact Or.inl hs
  · exact h1 a q
theorem fV.cl (h : fV (40 :: st) c l op un 1 l0 nm ns) : fV st c l (op - 1) un 1 l0 nm ns := by
  obtain ⟨h1, h2, ⟨h3, h4⟩, h5, h6, h7, h8⟩ := h
  have e1 : cO (40 :: st) = cO st := by simp only [cO]; rw [rk_40, if_neg (by omega)]; omega
  have e2 : cP (40 :: st) = 1 + cP st := by simp only [cP, if_true]
  simp only [List.length_cons] at h3
  exact ⟨fun a ha => h1 a (List.mem_cons_of_mem _ ha), by omega, ⟨by omega, h4⟩, by omega, h6, by rw [← e1]; exact h7, h8⟩
/-- where the bearers of names point -/
def bOk (v : QV) (T : Int) (β : Int → Int) (nm : Int) (ns : Nat) : Prop := nm ≤ 4 ∧ ns ≤ 4 ∧ (∀ i, 0 ≤ i → i < nTk v T → kdT v T i = 4 → β i = -1 ∨ (0 ≤ β i ∧ β i < nm) ∨ (4 ≤ β i ∧ β i < 4 + ns)) ∧ ∀ i, 0 ≤ i → i < nTk v T → kdT v T i = 3 → 0 ≤ nmT v T i
theorem cdU_b (hb : bOk v T β nm ns) (hi : 0 ≤ i ∧ i < nTk v T) (h : fUn v T β op un i = 0) (h4 : ¬ kdT v T i = 40) : cdU v T β i < 10020 ∧ ((0 ≤ cdU v T β i ∧ cdU v T β i ≤ 9999) ∨ (10000 ≤ cdU v T β i ∧ cdU v T β i < 10000 + nm) ∨ (10010 ≤ cdU v T β i ∧ cdU v T β i < 10010 + ns)) := by
  obtain ⟨b1, b2, b3, b4⟩ := hb
  obtain ⟨g, -, -⟩ := fUn_0 h
  have b3 := b3 i hi.1 hi.2
  have b4 := b4 i hi.1 hi.2
  unfold cdU
  by_cases k : kdT v T i = 3
  · rw [if_pos k]
    have := b4 k
    omega
  · rw [if_neg k]
    have k4 : kdT v T i = 4 := by omega
    have := b3 k4
    split <;> omega
theorem rk_1 {k : Int} (h : 0 < rkS k) : k ≠ 1 := by
  have := rkS_p.mp h
  unfold isOp at this
  omega
/-- what comes of a formula -/
theorem fmG_v (hb : bOk v T β nm ns) : ∀ (k : Nat) (st : List Int) (c : Int → Int) (l op un : Int) (wt : Bool) (i : Int), fV st c l op un (if wt then 0 else 1) l0 nm ns → (0 ≤ i ∧ i < nTk v T) → (kdT v T (nTk v T - 1) = 1) → (k : Int) = nTk v T - i → (fmG v T β k st c l op un wt i).1.1 = 0 → (∀ j, j < l → (fmG v T β k st c l op un wt i).2.1 j = c j) ∧ (l ≤ (fmG v T β k st c l op un wt i).2.2.1 ∧ (fmG v T β k st c l op un wt i).2.2.1 ≤ 2 * (fmG v T β k st c l op un wt i).2.2.2) ∧ (un ≤ (fmG v T β k st c l op un wt i).2.2.2 ∧ (fmG v T β k st c l op un wt i).2.2.2 ≤ 30) ∧ dp (fmG v T β k st c l op un wt i).2.1 l0 ((fmG v T β k st c l op un wt i).2.2.1 - l0).toNat = 1 ∧ ∀ j : Nat, l0 + j < (fmG v T β k st c l op un wt i).2.2.1 → wc (fmG v T β k st c l op un wt i).2.1 nm ns l0 j
  | 0, st, c, l, op, un, wt, i, h, hi, h1, hk, z => by omega
  | k + 1, st, c, l, op, un, true, i, h, hi, h1, hk, z => by
    have nx : kdT v T i ≠ 1 → i + 1 < nTk v T := fun e => by
      by_cases q : i = nTk v T - 1
      · rw [q] at e; exact absurd h1 e
      · omega
    simp only [fmG] at z ⊢
    by_cases c0 : fUn v T β op un i = 0
    · obtain ⟨g1, g2, g3⟩ := fUn_0 c0
      rw [if_pos c0] at z ⊢
      by_cases c1 : kdT v T i = 40
      · rw [if_pos c1] at z ⊢
        have ih := fmG_v hb k _ _ _ _ _ true (i + 1) (fV.opn h g2) ⟨by omega, nx (by omega)⟩ h1 (by omega) z
        obtain ⟨q1, q2, q3, q4⟩ := ih
        exact ⟨q1, q2, ⟨by omega, q3.2⟩, q4⟩
      · rw [if_neg c1] at z ⊢
        have ih := fmG_v hb k _ _ _ _ _ false (i + 1) (fV.cd h g2 (cdU_b hb hi c0 c1)) ⟨by omega, nx (by omega)⟩ h1 (by omega) z
        obtain ⟨q1, q2, q3, q4⟩ := ih
        refine ⟨fun j hj => ?_, ⟨by omega, q2.2⟩, ⟨by omega, q3.2⟩, q4⟩
        rw [q1 j (by omega), fu_ap, if_neg (by omega)]
    · rw [if_neg c0] at z
      exact absurd z c0
  | k + 1, st, c, l, op, un, false, i, h, hi, h1, hk, z => by
    have nx : kdT v T i ≠ 1 → i + 1 < nTk v T := fun e => by
      by_cases q : i = nTk v T - 1
      · rw [q] at e; exact absurd h1 e
      · omega
    simp only [fmG] at z ⊢
    by_cases c0 : 0 < rkS (kdT v T i)
    · rw [if_pos c0] at z ⊢
      obtain ⟨g1, g2, g3, g4⟩ := fRl_v c0 _ _ _ h
      have ih := fmG_v hb k _ _ _ _ _ true (i + 1) (g1.bi (rkS_p.mp c0)) ⟨by omega, nx (rk_1 c0)⟩ h1 (by omega) z
      obtain ⟨q1, q2, q3, q4⟩ := ih
      refine ⟨fun j hj => ?_, ⟨by omega, q2.2⟩, q3, q4⟩
      rw [q1 j (by omega), g2 j hj]
    · rw [if_neg c0] at z ⊢
      obtain ⟨g1, g2, g3, g4⟩ := fRl_v (show (0 : Int) < 1 by decide) _ _ _ h
      have g4 := g4 rfl
      by_cases c1 : kdT v T i = 41 ∧ 0 < op
      · rw [if_pos c1] at z ⊢
        generalize fRl 1 st c l = q at *
        obtain ⟨q1, q2, q3⟩ := q
        dsimp only at *
        have hne : ∃ t, q1 = 40 :: t := by
          rcases g4 with a | a
          · subst a
            have := g1.2.1
            simp only [cP] at this
            omega
          · exact a
        obtain ⟨t, rfl⟩ := hne
        rw [List.tail_cons] at z ⊢
        have ih := fmG_v hb k _ _ _ _ _ false (i + 1) (fV.cl g1) ⟨by omega, nx (by omega)⟩ h1 (by omega) z
        obtain ⟨p1, p2, p3, p4⟩ := ih
        refine ⟨fun j hj => ?_, ⟨by omega, p2.2⟩, p3, p4⟩
        rw [p1 j (by omega), g2 j hj]
      · rw [if_neg c1] at z ⊢
        by_cases c2 : 0 < op
        · rw [if_pos c2] at z
          exact absurd z (by simp)
        · rw [if_neg c2] at z ⊢
          generalize fRl 1 st c l = q at *
          obtain ⟨q1, q2, q3⟩ := q
          dsimp only at *
          obtain ⟨v1, v2, ⟨v3, v4⟩, v5, v6, v7, v8⟩ := g1
          have he : q1 = [] := by
            rcases g4 with a | ⟨t, rfl⟩
            · exact a
            · have := cP_n t
              simp only [cP, if_true] at v2
              omega
          subst he
          simp only [cO, List.length_nil] at v5 v7
          exact ⟨g2, ⟨g3, by omega⟩, ⟨by omega, v4⟩, by rw [v7]; rfl, v8⟩
end FM
