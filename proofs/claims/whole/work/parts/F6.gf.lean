/-! STORE: a forecast told by both -/
section GF
variable {S : QS} {u v w m m' : QV} {T x P M B i n : Int} {o : Int × Int}
theorem foN_b {b sea : Int} (h : (foO v T i b sea).1 = 0) : (2 ≤ nmT v T (i + 3) ∧ nmT v T (i + 3) ≤ 24) ∧ (0 ≤ nmT v T (i + 5) ∧ nmT v T (i + 5) ≤ 16) ∧ (0 ≤ nmT v T (i + 6) ∧ nmT v T (i + 6) ≤ 16) ∧ (0 ≤ nmT v T (i + 7) ∧ nmT v T (i + 7) ≤ 16) ∧ (1 ≤ nmT v T (i + 9) ∧ nmT v T (i + 9) ≤ 9) := by
  unfold foO at h
  by_cases c : kdT v T (i + 1) = 4
  · rw [if_neg (fun z => z c)] at h
    split at h
    · exact absurd h (by simp)
    · unfold foN at h
      obtain ⟨a1, a2, a3⟩ := stp_i h
      obtain ⟨b1, b2, b3⟩ := stp_i a1
      obtain ⟨c1, c2, c3⟩ := stp_i b1
      obtain ⟨d1, d2, d3⟩ := stp_i c1
      obtain ⟨e1, e2, e3⟩ := stp_i d1
      obtain ⟨f1, f2, f3⟩ := stp_i e1
      obtain ⟨g1, g2, g3⟩ := stp_i f1
      obtain ⟨h1, h2, h3⟩ := stp_i g1
      obtain ⟨i1, i2, i3⟩ := stp_i h1
      rw [i3] at h3
      rw [h3] at g3
      rw [g3] at f3
      rw [f3] at e3
      rw [e3] at d3
      rw [d3] at c3
      rw [i3] at h2
      have y3 := (fNu_0 h2).2
      rw [g3] at f2
      have y5 := (fNu_0 f2).2
      rw [f3] at e2
      have y6 := (fNu_0 e2).2
      rw [e3] at d2
      have y7 := (fNu_0 d2).2
      rw [c3] at b2
      have y9 := (fNu_0 b2).2
      dsimp only at y3 y5 y6 y7 y9
      rw [show i + 2 + 1 = i + 3 by omega] at y3
      rw [show i + 2 + 1 + 1 + 1 = i + 5 by omega] at y5
      rw [show i + 2 + 1 + 1 + 1 + 1 = i + 6 by omega] at y6
      rw [show i + 2 + 1 + 1 + 1 + 1 + 1 = i + 7 by omega] at y7
      rw [show i + 2 + 1 + 1 + 1 + 1 + 1 + 1 + 1 = i + 9 by omega] at y9
      exact ⟨y3, y5, y6, y7, y9⟩
  · rw [if_pos c] at h
    exact absurd h (by simp)
theorem Gx_F {b : Int} (hG : Gx u m T x P M B) (hC : Cl S v T x P u i) (hB : B = 0 ∨ B = 1) (hPM : P + 16 < M) (h0 : (foO v T i b (u (P + (9 + b)) 6)).1 = 0) (hbm : b < u P 1) (hcf : foF u w x (P + (9 + b))) (hcv : (0 ≤ b ∧ b < 4 ∧ ¬ 0 < u (P + (9 + b)) 6) ∧ w (P + (9 + b)) 6 = nmT v T (i + 3) ∧ w (P + (9 + b)) 7 = nmT v T (i + 5) ∧ w (P + (9 + b)) 8 = nmT v T (i + 6) ∧ w (P + (9 + b)) 9 = nmT v T (i + 7) ∧ w (P + (9 + b)) 10 = nmT v T (i + 9)) (hf : fmF m m' M B b) (hv : m' (M + 18) (4 * B + b) = 1 ∧ m' (M + 19) (4 * B + b) = nmT v T (i + 3) ∧ m' (M + 20) (4 * B + b) = nmT v T (i + 5) ∧ m' (M + 21) (4 * B + b) = nmT v T (i + 6) ∧ m' (M + 22) (4 * B + b) = nmT v T (i + 7) ∧ m' (M + 23) (4 * B + b) = nmT v T (i + 9)) : Gx w m' T x P M B := by
  obtain ⟨⟨b0, b4, -⟩, wa0, wa1, wa2, wa3, wa4⟩ := hcv
  obtain ⟨v0, v1, v2, v3, v4, v5⟩ := hv
  obtain ⟨⟨r1, r2, r3, r4, r5, r6, r7⟩, gl, gs, gN, gf⟩ := hG
  obtain ⟨hb, hN, ⟨c1, c2, c3⟩, -⟩ := hC
  obtain ⟨hp, -, -, hx⟩ := hb
  have h10 := hp.2.2.2.2.2.2.2.2.2
  obtain ⟨t3, t5, t6, t7, t9⟩ := foN_b h0
  have fx : ∀ k, k ≠ 2 → k ≠ 3 → k ≠ 4 → w x k = u x k := fun k q1 q2 q3 => hcf _ _ (fun _ => ⟨q1, q2, q3⟩) (by omega)
  have fo : ∀ a k, a ≠ x → a ≠ P + (9 + b) → w a k = u a k := fun a k q1 q2 => hcf _ _ (by omega) (by omega)
  have gm : ∀ a k, a ≠ M → ¬ (M + 18 ≤ a ∧ a ≤ M + 23) → m' a k = m a k := fun a k q1 q2 => hf _ _ (by omega) (by omega)
  have g27 : m' M 27 = m M 27 := hf _ _ (by omega) (by omega)
  (repeat (first | rw [mgm_u (by omega)] at r1 | rw [mgm_m (by omega)] at r1)); (repeat (first | rw [mgm_u (by omega)] at r2 | rw [mgm_m (by omega)] at r2)); (repeat (first | rw [mgm_u (by omega)] at r3 | rw [mgm_m (by omega)] at r3))
  (repeat (first | rw [mgm_u (by omega)] at r4 | rw [mgm_m (by omega)] at r4))
  rw [mCo_g, mEn_g] at r7
  rw [mgm_u (show P < M by omega)] at r7
  rw [mgm_u (show P + 3 < M by omega)] at r7
  refine ⟨⟨?_, ?_, ?_, ?_, ?_, ?_, ?_⟩, ?_, ?_, ?_, ?_⟩
  · (repeat (first | rw [mgm_u (by omega)] | rw [mgm_m (by omega)])); rw [fo _ _ (by omega) (by omega), gm _ _ (by omega) (by omega)]; exact r1
  · (repeat (first | rw [mgm_u (by omega)] | rw [mgm_m (by omega)])); rw [fo _ _ (by omega) (by omega), gm _ _ (by omega) (by omega)]; exact r2
  · (repeat (first | rw [mgm_u (by omega)] | rw [mgm_m (by omega)])); rw [fo _ _ (by omega) (by omega), gm _ _ (by omega) (by omega)]; exact r3
  · (repeat (first | rw [mgm_u (by omega)] | rw [mgm_m (by omega)])); rw [fo _ _ (by omega) (by omega), fo _ _ (by omega) (by omega), gm _ _ (by omega) (by omega), gm _ _ (by omega) (by omega)]; exact r4
  · intro k k0 k1
    rw [mgm_u (by omega), fo _ _ (by omega) (by omega)] at k1
    by_cases e : k = b
    · subst e
      have h5 := r5 k k0 (by rw [mgm_u (by omega)]; exact k1)
      obtain ⟨q1, q2, q3, q4, -⟩ := h5
      have wp : ∀ j, j < 6 → w (P + (9 + k)) j = u (P + (9 + k)) j := fun j q => hcf _ _ (by omega) (fun _ => Or.inl q)
      have g8 : ∀ a, M + 8 ≤ a → a ≤ M + 13 → mgm M w m' a (4 * B + k) = mgm M u m a (4 * B + k) := fun a a0 a1 => by
        (repeat (first | rw [mgm_u (by omega)] | rw [mgm_m (by omega)])); exact gm _ _ (by omega) (by omega)
      have gp : ∀ j, j < 6 → mgm M w m' (P + (9 + k)) j = mgm M u m (P + (9 + k)) j := fun j q => by
        (repeat (first | rw [mgm_u (by omega)] | rw [mgm_m (by omega)])); exact wp j q
      refine ⟨?_, ?_, ?_, ?_, Or.inr ⟨?_, ⟨?_, ?_⟩, ⟨?_, ?_⟩, ⟨?_, ?_⟩, ⟨?_, ?_⟩, ?_, ?_⟩⟩
      · rw [gp 0 (by decide), g8 _ (by omega) (by omega)]; exact q1
      · rw [gp 0 (by decide), gp 1 (by decide), gp 2 (by decide), g8 _ (by omega) (by omega), g8 _ (by omega) (by omega)]; exact q2
      · rw [gp 3 (by decide), g8 _ (by omega) (by omega)]; exact q3
      · rw [gp 4 (by decide), gp 5 (by decide), g8 _ (by omega) (by omega), g8 _ (by omega) (by omega)]; exact q4
      · rw [mgm_m (by omega)]; exact v0
      · (repeat (first | rw [mgm_u (by omega)] | rw [mgm_m (by omega)])); rw [wa0, v1]
      · rw [mgm_u (by omega), wa0]; exact t3
      · (repeat (first | rw [mgm_u (by omega)] | rw [mgm_m (by omega)])); rw [wa1, v2]
      · rw [mgm_u (by omega), wa1]; exact t5
      · (repeat (first | rw [mgm_u (by omega)] | rw [mgm_m (by omega)])); rw [wa2, v3]
      · rw [mgm_u (by omega), wa2]; exact t6
      · (repeat (first | rw [mgm_u (by omega)] | rw [mgm_m (by omega)])); rw [wa3, v4]
      · rw [mgm_u (by omega), wa3]; exact t7
      · (repeat (first | rw [mgm_u (by omega)] | rw [mgm_m (by omega)])); rw [wa4, v5]
      · rw [mgm_u (by omega), wa4]; exact t9
    · refine (r5 k k0 (by rw [mgm_u (by omega)]; exact k1)).cg (fun j => ?_) (fun a a0 => ?_)
      · (repeat (first | rw [mgm_u (by omega)] | rw [mgm_m (by omega)])); rw [fo _ _ (by omega) (by omega)]
      · (repeat (first | rw [mgm_u (by omega)] | rw [mgm_m (by omega)]))
        exact hf _ _ (by omega) (by omega)
  · intro k k0 k1
    rw [mgm_u (by omega), fo _ _ (by omega) (by omega)] at k1
    refine (r6 k k0 (by rw [mgm_u (by omega)]; exact k1)).cg (fun j => ?_) (fun a a0 => ?_)
    · (repeat (first | rw [mgm_u (by omega)] | rw [mgm_m (by omega)])); rw [fo _ _ (by omega) (by omega)]
    · (repeat (first | rw [mgm_u (by omega)] | rw [mgm_m (by omega)]))
      exact gm _ _ (by omega) (by omega)
  · rw [mCo_g, mEn_g, mCo_e (fun k => gm _ _ (by omega) (by omega)), mEn_e (fun k => gm _ _ (by omega) (by omega)), mgm_u (show P < M by omega), mgm_u (show P + 3 < M by omega), fo P 1 (by omega) (by omega), fo (P + 3) 0 (by omega) (by omega)]
    refine r7.cg ?_ (fun k => ?_) (fun k => ⟨?_, ?_⟩) ⟨Int.le_refl _, c1.2⟩
    · (repeat (first | rw [mgm_u (by omega)] | rw [mgm_m (by omega)])); exact fo _ _ (by omega) (by omega)
    · (repeat (first | rw [mgm_u (by omega)] | rw [mgm_m (by omega)])); exact fo _ _ (by omega) (by omega)
    · (repeat (first | rw [mgm_u (by omega)] | rw [mgm_m (by omega)])); exact fo _ _ (by omega) (by omega)
    · (repeat (first | rw [mgm_u (by omega)] | rw [mgm_m (by omega)])); exact fo _ _ (by omega) (by omega)
  · rw [fo (P + 3) 2 (by omega) (by omega), gm _ _ (by omega) (by omega)]
    refine ⟨gl.1, fun k k0 k1 => ?_⟩
    rw [gm _ _ (by omega) (by omega), gl.2 k k0 k1]
    unfold cC
    rw [fo (P + 3 + 1) k (by omega) (by omega), fo (P + 3 + 2) k (by omega) (by omega)]
  · rw [mEn_e (fun k => gm _ _ (by omega) (by omega)), fo (P + 3) 2 (by omega) (by omega), fo (P + 3) 0 (by omega) (by omega)]; exact gs
  · exact gN.cg (fx _ (by decide) (by decide) (by decide)) (fun a k q1 q2 => fo _ _ (by omega) (by omega)) (fun k => fo _ _ (by omega) (by omega)) (fun k => fo _ _ (by omega) (by omega)) g27 (fun k => gm _ _ (by omega) (by omega)) (fun k => gm _ _ (by omega) (by omega)) (fun k => gm _ _ (by omega) (by omega))
  · intro k k0 k1
    rw [fo P 1 (by omega) (by omega)] at k0
    rw [hf _ _ (by omega) (by omega)]
    exact gf k k0 k1
end GF
