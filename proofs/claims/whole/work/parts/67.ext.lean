/-! ANSWERS DEPEND ON THE ROWS THAT ARE KEPT ALONE -/
theorem w32_tv {x : Int} (h : tv x) : w32 x = x := w32_e (by unfold tv at h; omega)
theorem fOver_ext {U D f t x : Int} {K : Nat} {ρ σ : Int → Int} (h : ∀ i : Int, 0 ≤ i → i < K → ρ i = σ i) : fOver U D K ρ f t x = fOver U D K σ f t x := by
  have e : ∀ i : Int, 0 ≤ i → i < K → wk U D f t ρ i = wk U D f t σ i ∧ ρ i = σ i := fun i g0 g1 => ⟨by unfold wk; rw [h i g0 g1], h i g0 g1⟩
  unfold fOver
  rw [nP_ext K (fun i g0 g1 => (e i g0 g1).1), sP_ext K e, gP_ext K e, lP_ext K e]
theorem fTotal_ext {U D f t : Int} {K : Nat} {ρ σ : Int → Int} (h : ∀ i : Int, 0 ≤ i → i < K → ρ i = σ i) : fTotal U D K ρ f t = fTotal U D K σ f t := by
  have e : ∀ i : Int, 0 ≤ i → i < K → wk U D f t ρ i = wk U D f t σ i ∧ ρ i = σ i := fun i g0 g1 => ⟨by unfold wk; rw [h i g0 g1], h i g0 g1⟩
  unfold fTotal
  rw [sP_ext K e]
theorem fShare_ext {x : Int} {K : Nat} {ρ σ : Int → Int} (h : ∀ i : Int, 0 ≤ i → i < K → ρ i = σ i) : fShare K ρ x = fShare K σ x := by
  have e0 : ∀ y, nP (uP ρ y) K = nP (uP σ y) K := fun y => nP_ext K (fun i g0 g1 => by unfold uP; rw [h i g0 g1])
  unfold fShare
  refine lP_ext K (fun i g0 g1 => ⟨?_, h i g0 g1⟩)
  unfold shp
  rw [e0, e0, h i g0 g1]
theorem fSmooth_ext {i : Int} {n K : Nat} {ρ σ : Int → Int} (hi : 0 ≤ i) (h : ∀ i : Int, 0 ≤ i → i < K → ρ i = σ i) : fSmooth K ρ n i = fSmooth K σ n i := by
  have e : ∀ j : Int, 0 ≤ j → cut K ρ i j = cut K σ i j := by
    intro j hj
    unfold cut
    by_cases hh : i + j < K
    · rw [if_pos hh, if_pos hh, h _ (by omega) hh]
    · rw [if_neg hh, if_neg hh]
  have e1 : nP (kn (cut K ρ i)) n = nP (kn (cut K σ i)) n := nP_ext n (fun j g0 _ => by unfold kn; rw [e j g0])
  have e2 : sP (kn (cut K ρ i)) (cut K ρ i) n = sP (kn (cut K σ i)) (cut K σ i) n := sP_ext n (fun j g0 _ => ⟨by unfold kn; rw [e j g0], e j g0⟩)
  unfold fSmooth
  rw [e1, e2]
theorem alp_ext {K : Nat} {ρ σ ρ' σ' : Int → Int} (h : ∀ i : Int, 0 ≤ i → i < K → ρ i = σ i) (h' : ∀ i : Int, 0 ≤ i → i < K → ρ' i = σ' i) : nP (alp ρ ρ') (K - 1) = nP (alp σ σ') (K - 1) := by
  refine nP_ext _ (fun i g0 g1 => ?_)
  unfold alp wy
  rw [h i g0 (by omega), h (i + 1) (by omega) (by omega), h' i g0 (by omega), h' (i + 1) (by omega) (by omega)]
theorem gap_ext {ρ σ : Int → Int} : ∀ K : Nat, (∀ i : Int, 0 ≤ i → i < K → ρ i = σ i) → gr ρ K = gr σ K ∧ gm ρ K = gm σ K ∧ ga ρ K = ga σ K
  | 0, _ => ⟨rfl, rfl, rfl⟩
  | K + 1, h => by
    obtain ⟨e1, e2, e3⟩ := gap_ext K (fun i g0 g1 => h i g0 (by omega))
    have e4 : gr ρ (K + 1) = gr σ (K + 1) := by
      unfold gr
      rw [h K (by omega) (by omega), e1]
    refine ⟨e4, ?_, ?_⟩
    · unfold gm
      rw [e2, e4]
    · unfold ga
      rw [e2, e3, e4]
theorem cRise_ext {K : Int} {ρ σ : Int → Int} (h : ∀ i : Int, 0 ≤ i → i < K → ρ i = σ i) : cRise K ρ = cRise K σ := by
  have e : ∀ x : Int, 0 ≤ x → x < K.toNat → rvK K ρ x = rvK K σ x := fun x g0 g1 => h _ (by omega) (by omega)
  have ek : ∀ x : Int, 0 ≤ x → x < K.toNat → kn (rvK K ρ) x = kn (rvK K σ) x := fun x g0 g1 => by unfold kn; rw [e x g0 g1]
  unfold cRise
  rw [nP_ext _ ek, sP_ext _ (fun x g0 g1 => ⟨ek x g0 g1, rfl⟩), sP_ext (f := rvK K ρ) _ (fun x g0 g1 => ⟨ek x g0 g1, e x g0 g1⟩), sP_ext (f := fun x => x * x) _ (fun x g0 g1 => ⟨ek x g0 g1, rfl⟩), sP_ext (f := fun x => x * rvK K ρ x) (g := fun x => x * rvK K σ x) _ (fun x g0 g1 => ⟨ek x g0 g1, by rw [e x g0 g1]⟩)]
theorem be_ext {c c' : Int → Bool} {t t' : Int → Int → Bool} : ∀ n : Nat, (∀ i : Int, 0 ≤ i → i < n → c i = c' i) → (∀ i j : Int, 0 ≤ i → i < n → 0 ≤ j → j < n → t i j = t' i j) → be c t n = be c' t' n
  | 0, _, _ => rfl
  | n + 1, h, ht => by
    have ih := be_ext n (fun i g0 g1 => h i g0 (by omega)) (fun i j g0 g1 g2 g3 => ht i j g0 (by omega) g2 (by omega))
    have hb := be_b (c := c') (t := t') n
    unfold be
    rw [ih, h n (by omega) (by omega)]
    by_cases hm : be c' t' n = -1
    · simp only [hm, true_or]
    · rw [ht n _ (by omega) (by omega) (by omega) (by omega)]
theorem fbs_ext {c c' : Int → Bool} : ∀ n : Nat, (∀ i : Int, 0 ≤ i → i < n → c i = c' i) → fbs c n = fbs c' n
  | 0, _ => rfl
  | n + 1, h => by
    unfold fbs
    rw [fbs_ext n (fun i g0 g1 => h i g0 (by omega)), h n (by omega) (by omega)]
theorem fP_ext {p q : Int → Bool} : ∀ (n : Nat) (i : Int), (∀ j : Int, i ≤ j → j < i + n → p j = q j) → fP p n i = fP q n i
  | 0, _, _ => rfl
  | n + 1, i, h => by
    rw [fP_s, fP_s, h i (by omega) (by omega), fP_ext n (i + 1) (fun j g0 g1 => h j (by omega) (by omega))]
theorem stk_ext {c res res' μ μ' : Int → Int} {a nm : Int} {s : Nat} (hnm : nm ≤ 4) (hs4 : s ≤ 4) (hr : ∀ k : Int, 0 ≤ k → k < s → res k = res' k) (hμ : ∀ k : Int, 0 ≤ k → k < nm → μ k = μ' k) : ∀ n : Nat, (∀ j : Nat, j < n → wc c nm s a j) → ∀ i, stk c res μ a n i = stk c res' μ' a n i
  | 0, _, _ => rfl
  | n + 1, hw, i => by
    have ih := stk_ext hnm hs4 hr hμ n (fun j hj => hw j (by omega))
    unfold stk
    rw [ih, ih, ih]
    have hn := hw n (by omega)
    by_cases hc : 10020 ≤ c (a + n)
    · rw [if_pos hc, if_pos hc]
    · rw [if_neg hc, if_neg hc]
      have : un res μ (c (a + n)) = un res' μ' (c (a + n)) := by
        unfold un
        rcases hn with ⟨u1, u2, u3, u4⟩ | ⟨u1, u2, u3⟩
        · omega
        · by_cases q1 : 10010 ≤ c (a + n)
          · rw [if_pos q1, if_pos q1]
            exact hr _ (by omega) (by omega)
          · rw [if_neg q1, if_neg q1]
            by_cases q2 : 10000 ≤ c (a + n)
            · rw [if_pos q2, if_pos q2]
              exact hμ _ (by omega) (by omega)
            · rw [if_neg q2, if_neg q2]
      rw [this]
theorem rs_ext {c e μ μ' : Int → Int} {nm : Int} {ns : Nat} (hnm : nm ≤ 4) (hns : ns ≤ 4) (hW : WF c e nm ns) (hμ : ∀ k : Int, 0 ≤ k → k < nm → μ k = μ' k) : ∀ s : Nat, s ≤ ns → ∀ k, rs c e μ s k = rs c e μ' s k
  | 0, _, _ => rfl
  | s + 1, hs, k => by
    have ih := rs_ext hnm hns hW hμ s (by omega)
    obtain ⟨⟨w1, w2, w3⟩, w4, w5⟩ := hW s (by omega)
    unfold rs
    rw [ih k, stk_ext (res' := rs c e μ' s) (μ' := μ') hnm (by omega) (fun k _ _ => ih k) hμ _ (fun j hj => w4 j (by omega))]
theorem sv_ext {c e : Int → Int} {ρ σ : Int → Int → Int} {nm x i : Int} {ns : Nat} (hnm : nm ≤ 4) (hns : ns ≤ 4) (hW : WF c e nm ns) (hx : 0 ≤ x ∧ x < ns) (h : ∀ m, 0 ≤ m → m < nm → ρ m i = σ m i) : sv c e ρ x i = sv c e σ x i :=
  rs_ext hnm hns hW h _ (by omega) x
theorem fShows_ext {σ σ' : Int → Int} {x : Int} {K : Nat} (h : ∀ i : Int, 0 ≤ i → i < K → σ i = σ' i) : fShows σ K x = fShows σ' K x := by
  have e : ∀ k : Nat, k ≤ K → ∀ i : Int, 0 ≤ i → i < k → kn σ i = kn σ' i ∧ σ i = σ' i := fun k hk i g0 g1 => ⟨by unfold kn; rw [h i g0 (by omega)], h i g0 (by omega)⟩
  have es : ∀ k : Nat, k ≤ K → swh σ k = swh σ' k := by
    intro k
    induction k with
    | zero => intro _; rfl
    | succ k ih =>
      intro hk
      unfold swh
      rw [ih (by omega), h k (by omega) (by omega), nP_ext k (fun i g0 g1 => (e k (by omega) i g0 g1).1), gP_ext k (e k (by omega))]
  have eK := e K (Nat.le_refl _)
  unfold fShows
  rw [nP_ext K (fun i g0 g1 => (eK i g0 g1).1), gP_ext K eK, lP_ext K eK, es K (Nat.le_refl _)]
