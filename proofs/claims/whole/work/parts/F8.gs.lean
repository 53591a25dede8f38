/-! STORE: a show told by both -/
theorem ends_le {c e : Int → Int} {nm : Int} : ∀ (ns : Nat), WF c e nm ns → ∀ s : Nat, s < ns → e s ≤ ss e ns
  | 0, _, s, hs => absurd hs (Nat.not_lt_zero _)
  | n + 1, h, s, hs => by
    rw [ss_s]
    by_cases c : s = n
    · rw [c]; exact Int.le_refl _
    · have ih := ends_le n (fun s' hs' => h s' (by omega)) s (by omega)
      have := (h n (by omega)).1
      omega
theorem ss_e {e e' : Int → Int} {ns : Nat} (h : ∀ s : Nat, s < ns → e' s = e s) : ∀ s : Nat, s ≤ ns → ss e' s = ss e s
  | 0, _ => rfl
  | s + 1, hs => by
    rw [ss_s, ss_s]
    exact h s (by omega)
section GSS
variable {S : QS} {u v w m m' : QV} {T x P M B i n : Int} {o : Int × Int}
theorem Gx_S {b : Int} {β : Int → Int} {RES : (Int × Int) × (Int → Int) × Int × Int} (hG : Gx u m T x P M B) (hC : Cl S v T x P u i) (hB : B = 0 ∨ B = 1) (hPM : P + 16 < M) (hbo : bOk v T β (u P 1) (u (P + 3) 0).toNat) (hR : RES = fmG v T β (nTk v T - (i + 3)).toNat [] (cC u (P + 3)) (u (P + 3) 2) 0 (u (P + 3) 1) true (i + 3)) (hi3 : i + 3 < nTk v T) (hcf : slF u w x (P + 3) (u x 7) (u (P + 3) 0)) (hcv : (kdT v T (i + 1) = 4 ∧ b = -1 ∧ kdT v T (i + 2) = 61 ∧ u (P + 3) 0 < 4 ∧ RES.1.1 = 0) ∧ (w (P + 3) 0 = u (P + 3) 0 + 1 ∧ w (P + 3) 1 = RES.2.2.2 ∧ w (P + 3 + 3) (u (P + 3) 0) = RES.2.2.1 ∧ FR0 S w (P + 3) RES.2.1 RES.2.2.1) ∧ (w x 7 = u x 7 + 1 ∧ w (x + 1) (u x 7) = i + 1 ∧ w (x + 2) (u x 7) = 4 + u (P + 3) 0)) (hf : msF m m' M B (u (P + 3) 2) (u (P + 3) 0) (u x 7)) (hv : (m' (M + 5) B = u (P + 3) 0 + 1 ∧ m' M 27 = u x 7 + 1 ∧ m' (M + 26) (u x 7) = stT v T (i + 1) ∧ m' (M + 27) (u x 7) = spT v T (i + 1) - stT v T (i + 1) ∧ m' (M + 30) (u x 7) = 10 + u (P + 3) 0) ∧ m' (M + 25) (4 * B + u (P + 3) 0) = RES.2.2.1 ∧ m' (M + 7) B = RES.2.2.1 ∧ m' (M + 6) B = RES.2.2.2 ∧ ∀ k, 0 ≤ k → k < RES.2.2.1 → m' (M + 24) (100 * B + k) = RES.2.1 k) : Gx w m' T x P M B := by
  obtain ⟨⟨k4, kb, k61, kc, hR0⟩, ⟨w0, w1, w3, hFR⟩, ⟨w7, wx1, wx2⟩⟩ := hcv
  obtain ⟨⟨v5, v27, v26, vl, vs⟩, v25, v7, v6, vc⟩ := hv
  obtain ⟨⟨r1, r2, r3, r4, r5, r6, r7⟩, gl, gs, gN, gf⟩ := hG
  obtain ⟨hb, hN, ⟨c1, c2, c3⟩, ⟨cn, -⟩, ⟨z1, z2⟩, -⟩ := hC
  obtain ⟨hend, hi, -⟩ := hb.end
  obtain ⟨hp, -, htr, hx⟩ := hb
  have h10 := hp.2.2.2.2.2.2.2.2.2
  have n0 : 0 ≤ u x 7 := hN.1.1
  have hV0 : fV [] (cC u (P + 3)) (u (P + 3) 2) 0 (u (P + 3) 1) (if true then 0 else 1) (u (P + 3) 2) (u P 1) (u (P + 3) 0).toNat := by
    refine ⟨fun s hs => absurd hs (by simp), rfl, ⟨by simp; omega, z1.2⟩, by simp only [cO, if_true]; omega, ⟨z2.1, Int.le_refl _⟩, ?_, fun j hj => by omega⟩
    rw [show (u (P + 3) 2 - u (P + 3) 2).toNat = 0 by omega]
    rfl
  obtain ⟨f1, f2, f3, f4, f5⟩ := fmG_v hbo (nTk v T - (i + 3)).toNat [] (cC u (P + 3)) (u (P + 3) 2) 0 (u (P + 3) 1) true (i + 3) hV0 ⟨by omega, by omega⟩ hend (by omega) (by rw [← hR]; exact hR0)
  rw [← hR] at f1 f2 f3 f4 f5
  have fx : ∀ k, k ≠ 2 → k ≠ 3 → k ≠ 4 → k ≠ 7 → k ≠ 9 → w x k = u x k := fun k q1 q2 q3 q4 q5 => hcf _ _ (fun _ => ⟨q1, q2, q3, q4, q5⟩) (by omega) (by omega) (by omega) (by omega) (by omega) (by omega) (by omega)
  have fo : ∀ a k, a ≠ x → a ≠ x + 1 → a ≠ x + 2 → a ≠ x + 3 → ¬ (P + 3 ≤ a ∧ a ≤ P + 6) → w a k = u a k := fun a k q1 q2 q3 q4 q5 => hcf _ _ (by omega) (by omega) (by omega) (by omega) (by omega) (by omega) (by omega) (by omega)
  have fn : ∀ k, k ≠ u x 7 → w (x + 1) k = u (x + 1) k ∧ w (x + 2) k = u (x + 2) k := fun k q => ⟨hcf _ _ (by omega) (fun _ => q) (by omega) (by omega) (by omega) (by omega) (by omega) (by omega), hcf _ _ (by omega) (by omega) (fun _ => q) (by omega) (by omega) (by omega) (by omega) (by omega)⟩
  have f3' : ∀ k, k ≠ u (P + 3) 0 → w (P + 3 + 3) k = u (P + 3 + 3) k := fun k q => hcf _ _ (by omega) (by omega) (by omega) (by omega) (by omega) (by omega) (by omega) (fun _ => q)
  have gm : ∀ a k, a ≠ M → ¬ (M + 5 ≤ a ∧ a ≤ M + 7) → ¬ (M + 24 ≤ a ∧ a ≤ M + 27) → a ≠ M + 30 → a ≠ M + 31 → m' a k = m a k := fun a k q1 q2 q3 q4 q5 => hf _ _ (by omega) q5 (by omega) (by omega) (by omega) (by omega)
  have gn : ∀ k, k ≠ u x 7 → m' (M + 26) k = m (M + 26) k ∧ m' (M + 27) k = m (M + 27) k ∧ m' (M + 30) k = m (M + 30) k := fun k q => ⟨hf _ _ (by omega) (by omega) (by omega) (by omega) (by omega) (fun _ => q), hf _ _ (by omega) (by omega) (by omega) (by omega) (by omega) (fun _ => q), hf _ _ (by omega) (by omega) (by omega) (by omega) (by omega) (fun _ => q)⟩
  have gc : ∀ k, 0 ≤ k → k < u (P + 3) 2 → m' (M + 24) (100 * B + k) = m (M + 24) (100 * B + k) := fun k k0 k1 => hf _ _ (by omega) (by omega) (by omega) (fun _ => Or.inl (by omega)) (by omega) (by omega)
  have ge : ∀ k, k ≠ u (P + 3) 0 → m' (M + 25) (4 * B + k) = m (M + 25) (4 * B + k) := fun k q => hf _ _ (by omega) (by omega) (by omega) (by omega) (fun _ => by omega) (by omega)
  (repeat (first | rw [mgm_u (by omega)] at r1 | rw [mgm_m (by omega)] at r1)); (repeat (first | rw [mgm_u (by omega)] at r2 | rw [mgm_m (by omega)] at r2)); (repeat (first | rw [mgm_u (by omega)] at r3 | rw [mgm_m (by omega)] at r3))
  (repeat (first | rw [mgm_u (by omega)] at r4 | rw [mgm_m (by omega)] at r4))
  rw [mCo_g, mEn_g] at r7
  rw [mgm_u (show P < M by omega)] at r7
  rw [mgm_u (show P + 3 < M by omega)] at r7
  have hsn : (w (P + 3) 0).toNat = (u (P + 3) 0).toNat + 1 := by omega
  have hec : (((u (P + 3) 0).toNat : Nat) : Int) = u (P + 3) 0 := by omega
  have he' : ∀ s : Nat, s < (u (P + 3) 0).toNat → mEn m' M B s = mEn m M B s := fun s hs => ge _ (by omega)
  have hen : mEn m' M B (((u (P + 3) 0).toNat : Nat) : Int) = RES.2.2.1 := by unfold mEn; rw [hec]; exact v25
  have hl2 := hFR.2.1
  refine ⟨⟨?_, ?_, ?_, ?_, ?_, ?_, ?_⟩, ?_, ?_, ?_, ?_⟩
  · (repeat (first | rw [mgm_u (by omega)] | rw [mgm_m (by omega)])); rw [fo _ _ (by omega) (by omega) (by omega) (by omega) (by omega), gm _ _ (by omega) (by omega) (by omega) (by omega) (by omega)]; exact r1
  · (repeat (first | rw [mgm_u (by omega)] | rw [mgm_m (by omega)])); rw [fo _ _ (by omega) (by omega) (by omega) (by omega) (by omega), gm _ _ (by omega) (by omega) (by omega) (by omega) (by omega)]; exact r2
  · (repeat (first | rw [mgm_u (by omega)] | rw [mgm_m (by omega)])); rw [fo _ _ (by omega) (by omega) (by omega) (by omega) (by omega), gm _ _ (by omega) (by omega) (by omega) (by omega) (by omega)]; exact r3
  · (repeat (first | rw [mgm_u (by omega)] | rw [mgm_m (by omega)])); rw [w0, w1, v5, v6]; omega
  · intro k k0 k1
    rw [mgm_u (by omega), fo _ _ (by omega) (by omega) (by omega) (by omega) (by omega)] at k1
    refine (r5 k k0 (by rw [mgm_u (by omega)]; exact k1)).cg (fun j => ?_) (fun a a0 => ?_)
    · (repeat (first | rw [mgm_u (by omega)] | rw [mgm_m (by omega)])); rw [fo _ _ (by omega) (by omega) (by omega) (by omega) (by omega)]
    · (repeat (first | rw [mgm_u (by omega)] | rw [mgm_m (by omega)]))
      exact gm _ _ (by omega) (by omega) (by omega) (by omega) (by omega)
  · intro k k0 k1
    rw [mgm_u (by omega), fo _ _ (by omega) (by omega) (by omega) (by omega) (by omega)] at k1
    refine (r6 k k0 (by rw [mgm_u (by omega)]; exact k1)).cg (fun j => ?_) (fun a a0 => ?_)
    · (repeat (first | rw [mgm_u (by omega)] | rw [mgm_m (by omega)])); rw [fo _ _ (by omega) (by omega) (by omega) (by omega) (by omega)]
    · (repeat (first | rw [mgm_u (by omega)] | rw [mgm_m (by omega)]))
      exact gm _ _ (by omega) (by omega) (by omega) (by omega) (by omega)
  · rw [mCo_g, mEn_g, mgm_u (show P < M by omega), mgm_u (show P + 3 < M by omega), fo P 1 (by omega) (by omega) (by omega) (by omega) (by omega), hsn]
    obtain ⟨q1, q2, q3, q4, q5, q6⟩ := r7
    have hle := ends_le _ q4
    have hss := ss_e he'
    refine ⟨by rw [mgm_u (by omega), w0]; omega, by omega, c1.2, fun s hs => ?_, fun s s0 s1 => ?_, fun k k0 ⟨s, hs, hk⟩ => ?_⟩
    · by_cases e : s = (u (P + 3) 0).toNat
      · subst e
        rw [hss _ (Nat.le_refl _), ← gs, hen]
        have hcc : ∀ j : Nat, u (P + 3) 2 + j < RES.2.2.1 → mCo m' M B (u (P + 3) 2 + j) = RES.2.1 (u (P + 3) 2 + j) := fun j hj => vc _ (by omega) hj
        refine ⟨by omega, fun j hj => wc_c (fun k hk => hcc k (by omega)) (f5 j hj), ?_⟩
        rw [dp_c _ (fun k hk => hcc k (by omega))]
        exact f4
      · have hs' : s < (u (P + 3) 0).toNat := by omega
        rw [hss _ (by omega), he' s hs']
        obtain ⟨y1, y2, y3⟩ := q4 s hs'
        have hl := hle s hs'
        rw [← gs] at hl
        have hcc : ∀ j : Nat, ss (mEn m M B) s + j < mEn m M B s → mCo m' M B (ss (mEn m M B) s + j) = mCo m M B (ss (mEn m M B) s + j) := fun j hj => gc _ (by omega) (by omega)
        refine ⟨y1, fun j hj => wc_c (fun k hk => hcc k (by omega)) (y2 j hj), ?_⟩
        rw [dp_c _ (fun k hk => hcc k (by omega))]
        exact y3
    · rw [mgm_u (by omega)]
      by_cases e : s = u (P + 3) 0
      · rw [e, w3, ← hen, hec]
      · have := q5 s s0 (by omega)
        rw [mgm_u (by omega)] at this
        rw [f3' s e, this]
        exact (ge s e).symm
    · have hkl : k < RES.2.2.1 := by
        by_cases e : s = (u (P + 3) 0).toNat
        · rw [e, hen] at hk; exact hk
        · have hs' : s < (u (P + 3) 0).toNat := by omega
          rw [he' s hs'] at hk
          have hl := hle s hs'
          rw [← gs] at hl
          omega
      (repeat (first | rw [mgm_u (by omega)] | rw [mgm_m (by omega)]))
      have := hFR.2.2 k k0 hkl
      rw [← vc k k0 hkl] at this
      exact this
  · rw [hl2]
    refine ⟨v7, fun k k0 k1 => ?_⟩
    rw [vc k k0 k1]
    exact crel_d (hFR.2.2 k k0 k1)
  · rw [hl2, hsn, ss_s, hen]
  · obtain ⟨⟨q1, q2, q3⟩, q4⟩ := gN
    have hT : ∀ a k, T ≤ a → a ≤ T + 4 → w a k = u a k := fun a k z1 z2 => fo _ _ (by omega) (by omega) (by omega) (by omega) (by omega)
    refine ⟨⟨by rw [v27, w7], by omega, by omega⟩, fun j j0 j1 => ?_⟩
    by_cases e : j = u x 7
    · subst e
      rw [wx1, wx2, v26, vl, vs, nt_q hT, st_q hT, sp_q hT, nt_q htr, st_q htr, sp_q htr]
      exact ⟨⟨by omega, kd_lt (by rw [k4]; decide)⟩, ⟨rfl, rfl⟩, ⟨by omega, by omega⟩, by unfold cvB; rw [if_neg (by omega)]; omega⟩
    · rw [(fn j e).1, (fn j e).2, (gn j e).1, (gn j e).2.1, (gn j e).2.2, nt_q hT, st_q hT, sp_q hT]
      exact q4 j j0 (by omega)
  · intro k k0 k1
    rw [fo P 1 (by omega) (by omega) (by omega) (by omega) (by omega)] at k0
    rw [gm _ _ (by omega) (by omega) (by omega) (by omega) (by omega)]
    exact gf k k0 k1
end GSS
