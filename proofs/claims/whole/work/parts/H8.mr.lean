/-! MAKING: the reference whole -/
def lR1 : List (Int × Nat × Int) := [(0, 41, 1095), (1, 40, 2), (2, 40, 2), (3, 40, 2), (4, 40, 2), (5, 40, 2), (6, 40, 2), (7, 40, 8), (8, 40, 8), (9, 40, 8), (10, 40, 8), (11, 40, 8), (12, 40, 8), (13, 40, 8), (14, 40, 8), (15, 40, 8), (16, 40, 8), (17, 44, 8), (18, 40, 8), (19, 40, 8), (20, 40, 8), (21, 40, 8), (22, 40, 8), (23, 40, 200), (24, 40, 8), (25, 40, 8), (26, 40, 8), (29, 42, 1000)]
def lR2 : List (Int × Nat × Int) := [(42, 40, 8), (43, 40, 64), (46, 40, 4), (52, 41, 64), (53, 41, 4), (54, 41, 1095), (55, 41, 14235), (56, 41, 2190), (57, 44, 2)]
section MK8
variable {S S' S2 : QS} {v v' v2 : QV} {L : QL} {N : QN} {Q Q' : QL → QN → Prop} {c u : Nat} {a b lo hi : Int} {E : Int → Prop}
theorem nB_ap : ∀ (cs : List Int) (i : Int) (v : QV) (q j : Int), nB a i cs v q j = if q = a ∧ i ≤ j ∧ j < i + cs.length then cs.getD (j - i).toNat 0 else v q j
  | [], i, v, q, j => by
    rw [if_neg (by simp only [List.length_nil]; omega)]
    rfl
  | c :: cs, i, v, q, j => by
    show nB a (i + 1) cs (vu v a i c) q j = _
    rw [nB_ap cs (i + 1) (vu v a i c) q j]
    by_cases hq : q = a
    · subst hq
      by_cases h1 : j = i
      · subst h1
        rw [if_neg (by omega), vu_is, if_pos ⟨rfl, by omega, by simp only [List.length_cons]; omega⟩, show (j - j).toNat = 0 by omega]
        rfl
      · by_cases h2 : i + 1 ≤ j ∧ j < i + 1 + cs.length
        · rw [if_pos ⟨rfl, h2⟩, if_pos ⟨rfl, by omega, by simp only [List.length_cons]; omega⟩, show (j - i).toNat = (j - (i + 1)).toNat + 1 by omega]
          rfl
        · rw [if_neg (fun e => h2 e.2), if_neg (by simp only [List.length_cons]; omega), vu_ne (fun e => h1 e.2)]
    · rw [if_neg (fun e => hq e.1), if_neg (fun e => hq e.1), vu_ne (fun e => hq e.1)]
theorem nB_o {cs : List Int} {i q j : Int} (h : q = a → j < i ∨ i + cs.length ≤ j) : nB a i cs v q j = v q j := by
  rw [nB_ap, if_neg (by omega)]
theorem nB_i {cs : List Int} {i j : Int} (h : i ≤ j ∧ j < i + cs.length) : nB a i cs v a j = cs.getD (j - i).toNat 0 := by
  rw [nB_ap, if_pos ⟨rfl, h⟩]
theorem nLet_o {q k : Int} (h : q ≠ a) : nLet a v q k = v q k := by
  unfold nLet
  rw [nB_o (fun e => absurd e h), nB_o (fun e => absurd e h), nB_o (fun e => absurd e h), nB_o (fun e => absurd e h), nB_o (fun e => absurd e h), nB_o (fun e => absurd e h), nB_o (fun e => absurd e h), nB_o (fun e => absurd e h), nB_o (fun e => absurd e h), nB_o (fun e => absurd e h), nB_o (fun e => absurd e h), nB_o (fun e => absurd e h)]
theorem nLet_k {k : Nat} (h : k < 111) : nLet a v a k = mdL.getD k 0 := by
  unfold nLet
  by_cases c11 : 110 ≤ k
  · rw [nB_i ⟨by omega, by simp only [List.length_cons, List.length_nil]; omega⟩, show ((k : Int) - 110).toNat = k - 110 by omega]
    have hd : ∀ r : Nat, r < 1 → ([32] : List Int).getD r 0 = mdL.getD (110 + r) 0 := by decide
    rw [hd (k - 110) (by omega), show 110 + (k - 110) = k by omega]
  rw [nB_o (fun _ => Or.inl (by omega))]
  by_cases c10 : 100 ≤ k
  · rw [nB_i ⟨by omega, by simp only [List.length_cons, List.length_nil]; omega⟩, show ((k : Int) - 100).toNat = k - 100 by omega]
    have hd : ∀ r : Nat, r < 10 → ([32, 108, 97, 116, 101, 115, 116, 32, 111, 114] : List Int).getD r 0 = mdL.getD (100 + r) 0 := by decide
    rw [hd (k - 100) (by omega), show 100 + (k - 100) = k by omega]
  rw [nB_o (fun _ => Or.inl (by omega))]
  by_cases c9 : 90 ≤ k
  · rw [nB_i ⟨by omega, by simp only [List.length_cons, List.length_nil]; omega⟩, show ((k : Int) - 90).toNat = k - 90 by omega]
    have hd : ∀ r : Nat, r < 10 → ([117, 110, 116, 101, 114, 32, 109, 101, 97, 110] : List Int).getD r 0 = mdL.getD (90 + r) 0 := by decide
    rw [hd (k - 90) (by omega), show 90 + (k - 90) = k by omega]
  rw [nB_o (fun _ => Or.inl (by omega))]
  by_cases c8 : 80 ≤ k
  · rw [nB_i ⟨by omega, by simp only [List.length_cons, List.length_nil]; omega⟩, show ((k : Int) - 80).toNat = k - 80 by omega]
    have hd : ∀ r : Nat, r < 10 → ([32, 97, 109, 111, 117, 110, 116, 32, 99, 111] : List Int).getD r 0 = mdL.getD (80 + r) 0 := by decide
    rw [hd (k - 80) (by omega), show 80 + (k - 80) = k by omega]
  rw [nB_o (fun _ => Or.inl (by omega))]
  by_cases c7 : 70 ≤ k
  · rw [nB_i ⟨by omega, by simp only [List.length_cons, List.length_nil]; omega⟩, show ((k : Int) - 70).toNat = k - 70 by omega]
    have hd : ∀ r : Nat, r < 10 → ([115, 104, 111, 119, 32, 103, 97, 117, 103, 101] : List Int).getD r 0 = mdL.getD (70 + r) 0 := by decide
    rw [hd (k - 70) (by omega), show 70 + (k - 70) = k by omega]
  rw [nB_o (fun _ => Or.inl (by omega))]
  by_cases c6 : 60 ≤ k
  · rw [nB_i ⟨by omega, by simp only [List.length_cons, List.length_nil]; omega⟩, show ((k : Int) - 60).toNat = k - 60 by omega]
    have hd : ∀ r : Nat, r < 10 → ([97, 115, 111, 110, 32, 98, 97, 110, 100, 32] : List Int).getD r 0 = mdL.getD (60 + r) 0 := by decide
    rw [hd (k - 60) (by omega), show 60 + (k - 60) = k by omega]
  rw [nB_o (fun _ => Or.inl (by omega))]
  by_cases c5 : 50 ≤ k
  · rw [nB_i ⟨by omega, by simp only [List.length_cons, List.length_nil]; omega⟩, show ((k : Int) - 50).toNat = k - 50 by omega]
    have hd : ∀ r : Nat, r < 10 → ([111, 114, 101, 99, 97, 115, 116, 32, 115, 101] : List Int).getD r 0 = mdL.getD (50 + r) 0 := by decide
    rw [hd (k - 50) (by omega), show 50 + (k - 50) = k by omega]
  rw [nB_o (fun _ => Or.inl (by omega))]
  by_cases c4 : 40 ≤ k
  · rw [nB_i ⟨by omega, by simp only [List.length_cons, List.length_nil]; omega⟩, show ((k : Int) - 40).toNat = k - 40 by omega]
    have hd : ∀ r : Nat, r < 10 → ([98, 121, 32, 115, 104, 97, 114, 101, 32, 102] : List Int).getD r 0 = mdL.getD (40 + r) 0 := by decide
    rw [hd (k - 40) (by omega), show 40 + (k - 40) = k by omega]
  rw [nB_o (fun _ => Or.inl (by omega))]
  by_cases c3 : 30 ≤ k
  · rw [nB_i ⟨by omega, by simp only [List.length_cons, List.length_nil]; omega⟩, show ((k : Int) - 30).toNat = k - 30 by omega]
    have hd : ∀ r : Nat, r < 10 → ([116, 32, 97, 114, 99, 104, 105, 118, 101, 32] : List Int).getD r 0 = mdL.getD (30 + r) 0 := by decide
    rw [hd (k - 30) (by omega), show 30 + (k - 30) = k by omega]
  rw [nB_o (fun _ => Or.inl (by omega))]
  by_cases c2 : 20 ≤ k
  · rw [nB_i ⟨by omega, by simp only [List.length_cons, List.length_nil]; omega⟩, show ((k : Int) - 20).toNat = k - 20 by omega]
    have hd : ∀ r : Nat, r < 10 → ([32, 108, 101, 97, 115, 116, 32, 109, 111, 115] : List Int).getD r 0 = mdL.getD (20 + r) 0 := by decide
    rw [hd (k - 20) (by omega), show 20 + (k - 20) = k by omega]
  rw [nB_o (fun _ => Or.inl (by omega))]
  by_cases c1 : 10 ≤ k
  · rw [nB_i ⟨by omega, by simp only [List.length_cons, List.length_nil]; omega⟩, show ((k : Int) - 10).toNat = k - 10 by omega]
    have hd : ∀ r : Nat, r < 10 → ([114, 101, 32, 115, 105, 108, 101, 110, 99, 101] : List Int).getD r 0 = mdL.getD (10 + r) 0 := by decide
    rw [hd (k - 10) (by omega), show 10 + (k - 10) = k by omega]
  rw [nB_o (fun _ => Or.inl (by omega))]
  rw [nB_i ⟨by omega, by simp only [List.length_cons, List.length_nil]; omega⟩, show ((k : Int) - 0).toNat = k by omega]
  have hd : ∀ r : Nat, r < 10 → ([115, 116, 101, 112, 32, 109, 101, 97, 115, 117] : List Int).getD r 0 = mdL.getD r 0 := by decide
  exact hd k (by omega)
theorem n_FB (h0 : S.1 (L 0) = 13) (hl : L 0 < S.2.2) (hc : 1 ≤ c) (hu : 111 ≤ u) (h : ∀ (S' : QS) (v' : QV), (S'.2.2 = S.2.2 + 1 ∧ (S'.1 S.2.2 = 42 ∧ S'.2.1 S.2.2 = 111) ∧ (∀ q : Int, q < (S.2.2 : Int) → S'.1 q = S.1 q ∧ S'.2.1 q = S.2.1 q) ∧ (∀ k : Nat, k < 111 → v' S.2.2 k = mdL.getD k 0) ∧ v' (L 0) 41 = S.2.2 ∧ ∀ (q j : Int), q < (S.2.2 : Int) → (q = L 0 → j ≠ 41) → v' q j = v q j) → Q L (S', v', c - 1, u - 111)) : wN nFB L (S, v, c, u) Q := by
  have e0 : (aS S 42 111).1 (L 0) = 13 := by rw [(aS_o hl).1]; exact h0
  refine ⟨(L, (aS S 42 111, vu (nLet S.2.2 (aV v S.2.2 (fun _ => 0))) (L 0) 41 S.2.2, c - 1, u - 111)), ?_, h _ _ ⟨aS_n.2.2, ⟨aS_n.1, aS_n.2.1⟩, fun q hq => aS_o hq, fun k hk => ?_, vu_is, fun q j hq hk => ?_⟩⟩
  · show ((nAl 42 111 111 (fun _ => 0) (S, v, c, u)).bind _) = _
    rw [al_eq hc hu]
    exact if_pos e0
  · rw [vu_ne (by omega)]; exact nLet_k hk
  · rw [vu_ne (fun e => hk e.1 e.2), nLet_o (by omega)]; exact aV_o hq
theorem Fs_at {l : List (Int × Nat × Int)} (hf : FsN S v a l S' v') {n0 j : Int} (hs : (S.2.2 : Int) = a + n0) {i : Nat} {p : Int × Nat × Int} (hp : l[i]? = some p) (hj : n0 + i = j) : S'.1 (a + j) = p.2.1 ∧ S'.2.1 (a + j) = p.2.2 ∧ (∀ x, v' (a + j) x = dz (eτ p.2.1)) ∧ v' a p.1 = a + j := by
  have := hf.2.2.2 i p hp
  rw [show (S.2.2 : Int) + (i : Int) = a + j by omega] at this
  exact this
theorem LMo_of (K0 : S.1 a = 13) (T1 : ∀ (i : Nat) (p : Int × Nat × Int) (j : Int), lR1[i]? = some p → (i : Int) + 1 = j → S.1 (a + j) = p.2.1 ∧ S.2.1 (a + j) = p.2.2 ∧ v a p.1 = a + j) (TB : S.1 (a + 29) = 42 ∧ S.2.1 (a + 29) = 111 ∧ v a 41 = a + 29) (T2 : ∀ (i : Nat) (p : Int × Nat × Int) (j : Int), lR2[i]? = some p → (i : Int) + 30 = j → S.1 (a + j) = p.2.1 ∧ S.2.1 (a + j) = p.2.2 ∧ v a p.1 = a + j) : LMo S v a := ⟨K0, (T1 0 _ 1 rfl rfl).2.2, (T1 1 _ 2 rfl rfl).2.2, (T1 2 _ 3 rfl rfl).2.2, (T1 3 _ 4 rfl rfl).2.2, (T1 4 _ 5 rfl rfl).2.2, (T1 5 _ 6 rfl rfl).2.2, (T1 6 _ 7 rfl rfl).2.2, (T1 7 _ 8 rfl rfl).2.2, (T1 8 _ 9 rfl rfl).2.2, (T1 9 _ 10 rfl rfl).2.2, (T1 10 _ 11 rfl rfl).2.2, (T1 11 _ 12 rfl rfl).2.2, (T1 12 _ 13 rfl rfl).2.2, (T1 13 _ 14 rfl rfl).2.2, (T1 14 _ 15 rfl rfl).2.2, (T1 15 _ 16 rfl rfl).2.2, (T1 16 _ 17 rfl rfl).2.2, (T1 17 _ 18 rfl rfl).2.2, (T1 18 _ 19 rfl rfl).2.2, (T1 19 _ 20 rfl rfl).2.2, (T1 20 _ 21 rfl rfl).2.2, (T1 21 _ 22 rfl rfl).2.2, (T1 22 _ 23 rfl rfl).2.2, (T1 23 _ 24 rfl rfl).2.2, (T1 24 _ 25 rfl rfl).2.2, (T1 25 _ 26 rfl rfl).2.2, (T1 26 _ 27 rfl rfl).2.2, (T1 27 _ 28 rfl rfl).2.2, TB.2.2, (T2 0 _ 30 rfl rfl).2.2, (T2 1 _ 31 rfl rfl).2.2, (T2 2 _ 32 rfl rfl).2.2, (T2 3 _ 33 rfl rfl).2.2, (T2 4 _ 34 rfl rfl).2.2, (T2 5 _ 35 rfl rfl).2.2, (T2 6 _ 36 rfl rfl).2.2, (T2 7 _ 37 rfl rfl).2.2, (T2 8 _ 38 rfl rfl).2.2, (T1 0 _ 1 rfl rfl).1, (T1 0 _ 1 rfl rfl).2.1, (T1 1 _ 2 rfl rfl).1, (T1 1 _ 2 rfl rfl).2.1, (T1 2 _ 3 rfl rfl).1, (T1 2 _ 3 rfl rfl).2.1, (T1 3 _ 4 rfl rfl).1, (T1 3 _ 4 rfl rfl).2.1, (T1 4 _ 5 rfl rfl).1, (T1 4 _ 5 rfl rfl).2.1, (T1 5 _ 6 rfl rfl).1, (T1 5 _ 6 rfl rfl).2.1, (T1 6 _ 7 rfl rfl).1, (T1 6 _ 7 rfl rfl).2.1, (T1 7 _ 8 rfl rfl).1, (T1 7 _ 8 rfl rfl).2.1, (T1 8 _ 9 rfl rfl).1, (T1 8 _ 9 rfl rfl).2.1, (T1 9 _ 10 rfl rfl).1, (T1 9 _ 10 rfl rfl).2.1, (T1 10 _ 11 rfl rfl).1, (T1 10 _ 11 rfl rfl).2.1, (T1 11 _ 12 rfl rfl).1, (T1 11 _ 12 rfl rfl).2.1, (T1 12 _ 13 rfl rfl).1, (T1 12 _ 13 rfl rfl).2.1, (T1 13 _ 14 rfl rfl).1, (T1 13 _ 14 rfl rfl).2.1, (T1 14 _ 15 rfl rfl).1, (T1 14 _ 15 rfl rfl).2.1, (T1 15 _ 16 rfl rfl).1, (T1 15 _ 16 rfl rfl).2.1, (T1 16 _ 17 rfl rfl).1, (T1 16 _ 17 rfl rfl).2.1, (T1 17 _ 18 rfl rfl).1, (T1 17 _ 18 rfl rfl).2.1, (T1 18 _ 19 rfl rfl).1, (T1 18 _ 19 rfl rfl).2.1, (T1 19 _ 20 rfl rfl).1, (T1 19 _ 20 rfl rfl).2.1, (T1 20 _ 21 rfl rfl).1, (T1 20 _ 21 rfl rfl).2.1, (T1 21 _ 22 rfl rfl).1, (T1 21 _ 22 rfl rfl).2.1, (T1 22 _ 23 rfl rfl).1, (T1 22 _ 23 rfl rfl).2.1, (T1 23 _ 24 rfl rfl).1, (T1 23 _ 24 rfl rfl).2.1, (T1 24 _ 25 rfl rfl).1, (T1 24 _ 25 rfl rfl).2.1, (T1 25 _ 26 rfl rfl).1, (T1 25 _ 26 rfl rfl).2.1, (T1 26 _ 27 rfl rfl).1, (T1 26 _ 27 rfl rfl).2.1, (T1 27 _ 28 rfl rfl).1, (T1 27 _ 28 rfl rfl).2.1, TB.1, TB.2.1, (T2 0 _ 30 rfl rfl).1, (T2 0 _ 30 rfl rfl).2.1, (T2 1 _ 31 rfl rfl).1, (T2 1 _ 31 rfl rfl).2.1, (T2 2 _ 32 rfl rfl).1, (T2 2 _ 32 rfl rfl).2.1, (T2 3 _ 33 rfl rfl).1, (T2 3 _ 33 rfl rfl).2.1, (T2 4 _ 34 rfl rfl).1, (T2 4 _ 34 rfl rfl).2.1, (T2 5 _ 35 rfl rfl).1, (T2 5 _ 35 rfl rfl).2.1, (T2 6 _ 36 rfl rfl).1, (T2 6 _ 36 rfl rfl).2.1, (T2 7 _ 37 rfl rfl).1, (T2 7 _ 37 rfl rfl).2.1, (T2 8 _ 38 rfl rfl).1, (T2 8 _ 38 rfl rfl).2.1⟩
end MK8
