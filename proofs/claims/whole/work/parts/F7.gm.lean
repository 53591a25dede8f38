/-! STORE: a measure told by both -/
section GMM
variable {S : QS} {u v w m m' : QV} {T x P M B i n : Int} {o : Int × Int}
theorem meL_0 (h : (meL v T o).1 = 0) : o.1 = 0 := by
  by_cases c : o.1 = 0
  · exact c
  · rw [meL_d c] at h; exact h
theorem meM_0 {lea : Int} (h : (meM v T lea o).1 = 0) : o.1 = 0 := by
  by_cases c : o.1 = 0
  · exact c
  · rw [meM_d c] at h; exact h
theorem meO_b {cnt b : Int} (h : (meO v T i cnt b).1 = 0) : (srtK (kdT v T (i + 2)) = 2 → 4 ≤ nmT v T (i + 3) ∧ nmT v T (i + 3) < nmT v T (i + 3 + 1) ∧ nmT v T (i + 3 + 1) ≤ 20) ∧ (1 ≤ nmT v T (meJ (srtK (kdT v T (i + 2))) (i + 3) + 1) ∧ nmT v T (meJ (srtK (kdT v T (i + 2))) (i + 3) + 1) ≤ 1000) ∧ (0 ≤ leT v T (meJ (srtK (kdT v T (i + 2))) (i + 3) + 2) ∧ leT v T (meJ (srtK (kdT v T (i + 2))) (i + 3) + 2) ≤ moT v T (meL v T (0, meJ (srtK (kdT v T (i + 2))) (i + 3) + 2)).2 ∧ moT v T (meL v T (0, meJ (srtK (kdT v T (i + 2))) (i + 3) + 2)).2 ≤ 999999) := by
  unfold meO at h
  split at h
  · exact absurd h (by simp)
  · split at h
    · exact absurd h (by simp)
    · split at h
      · exact absurd h (by simp)
      · split at h
        · exact absurd h (by simp)
        · generalize srtK (kdT v T (i + 2)) = srt at *
          obtain ⟨a1, -, -⟩ := stp_i h
          unfold meB at a1
          have b1 := meM_0 a1
          have c1 := meL_0 b1
          obtain ⟨d1, d2, d3⟩ := stp_i c1
          obtain ⟨e1, e2, e3⟩ := stp_i d1
          have hj := meW_2 e1
          rw [hj] at e3
          have ho : stp (fNu v T 1 1000) (stp (fKd v T 261) (meW v T srt (i + 3))) = (0, meJ srt (i + 3) + 2) := pair_e c1 (by rw [d3, e3]; omega)
          rw [e3] at d2
          rw [ho] at a1 b1
          dsimp only at a1
          refine ⟨fun z => ?_, (fNu_0 d2).2, ?_⟩
          · unfold meW at e1
            rw [if_pos z] at e1
            obtain ⟨f1, f2, f3⟩ := stp_i e1
            obtain ⟨g1, g2, g3⟩ := stp_i f1
            rw [g3] at f2
            have y1 := (fNu_0 g2).2
            have y2 := (fNu_0 f2).2
            dsimp only at y1 y2
            omega
          · generalize meJ srt (i + 3) + 2 = j at *
            have hle : 0 ≤ leT v T j ∧ leT v T j ≤ 999999 := by
              unfold leT
              by_cases c : kdT v T j = 262
              · rw [if_pos c]
                unfold meL at b1
                rw [if_pos ⟨rfl, c⟩] at b1
                have := (fNu_0 (stp_i b1).2.1).2
                dsimp only at this
                omega
              · rw [if_neg c]; decide
            generalize leT v T j = le at *
            generalize meL v T (0, j) = oL at *
            unfold moT
            by_cases c : kdT v T oL.2 = 263
            · rw [if_pos c]
              unfold meM at a1
              rw [if_pos ⟨b1, c⟩] at a1
              have := (fNu_0 (stp_i a1).2.1).2
              dsimp only at this
              omega
            · rw [if_neg c]; omega
theorem Gx_M {b : Int} (hG : Gx u m T x P M B) (hC : Cl S v T x P u i) (hB : B = 0 ∨ B = 1) (hPM : P + 16 < M) (h0 : (meO v T i (u P 1) b).1 = 0) (hi1 : i + 1 < nTk v T) (hcf : mlF u w x P (P + (9 + u P 1)) (u x 7)) (hcv : (kdT v T (i + 1) = 4 ∧ b = -1 ∧ ¬ srtK (kdT v T (i + 2)) = -1 ∧ u P 1 < 4) ∧ w P 1 = u P 1 + 1 ∧ (w x 7 = u x 7 + 1 ∧ w (x + 1) (u x 7) = i + 1 ∧ w (x + 2) (u x 7) = u P 1) ∧ w (P + (9 + u P 1)) 0 = srtK (kdT v T (i + 2)) ∧ (srtK (kdT v T (i + 2)) = 2 → w (P + (9 + u P 1)) 1 = nmT v T (i + 3) ∧ w (P + (9 + u P 1)) 2 = nmT v T (i + 3 + 1)) ∧ w (P + (9 + u P 1)) 3 = nmT v T (meJ (srtK (kdT v T (i + 2))) (i + 3) + 1) ∧ w (P + (9 + u P 1)) 4 = leT v T (meJ (srtK (kdT v T (i + 2))) (i + 3) + 2) ∧ w (P + (9 + u P 1)) 5 = moT v T (meL v T (0, meJ (srtK (kdT v T (i + 2))) (i + 3) + 2)).2 ∧ w (P + (9 + u P 1)) 6 = 0) (hf : mrF m m' M B (u P 1) (u x 7)) (hv : (m' (M + 3) B = u P 1 + 1 ∧ m' M 27 = u x 7 + 1 ∧ m' (M + 26) (u x 7) = stT v T (i + 1) ∧ m' (M + 27) (u x 7) = spT v T (i + 1) - stT v T (i + 1) ∧ m' (M + 30) (u x 7) = u P 1) ∧ m' (M + 8) (4 * B + u P 1) = srtK (kdT v T (i + 2)) ∧ (srtK (kdT v T (i + 2)) = 2 → m' (M + 9) (4 * B + u P 1) = nmT v T (i + 3) ∧ m' (M + 10) (4 * B + u P 1) = nmT v T (i + 3 + 1)) ∧ m' (M + 11) (4 * B + u P 1) = nmT v T (meJ (srtK (kdT v T (i + 2))) (i + 3) + 1) ∧ m' (M + 12) (4 * B + u P 1) = leT v T (meJ (srtK (kdT v T (i + 2))) (i + 3) + 2) ∧ m' (M + 13) (4 * B + u P 1) = moT v T (meL v T (0, meJ (srtK (kdT v T (i + 2))) (i + 3) + 2)).2) : Gx w m' T x P M B := by
  obtain ⟨⟨k4, kb, ks, kc⟩, w1, ⟨w7, wx1, wx2⟩, wa0, wa1, wa3, wa4, wa5, wa6⟩ := hcv
  obtain ⟨⟨v1, v27, v26, vl, vs⟩, v8, v9, v11, v12, v13⟩ := hv
  obtain ⟨⟨r1, r2, r3, r4, r5, r6, r7⟩, gl, gs, gN, gf⟩ := hG
  obtain ⟨hb, hN, ⟨c1, c2, c3⟩, ⟨cn, -⟩, -⟩ := hC
  obtain ⟨-, hi, -⟩ := hb.end
  obtain ⟨hp, -, htr, hx⟩ := hb
  have h10 := hp.2.2.2.2.2.2.2.2.2
  obtain ⟨t1, t2, t3⟩ := meO_b h0
  have hsk := srtK_b ks
  have n0 : 0 ≤ u x 7 := hN.1.1
  have fx : ∀ k, k ≠ 2 → k ≠ 3 → k ≠ 4 → k ≠ 7 → w x k = u x k := fun k q1 q2 q3 q4 => hcf _ _ (fun _ => ⟨q1, q2, q3, q4⟩) (by omega) (by omega) (by omega) (by omega)
  have fo : ∀ a k, a ≠ x → a ≠ x + 1 → a ≠ x + 2 → a ≠ P → a ≠ P + (9 + u P 1) → w a k = u a k := fun a k q1 q2 q3 q4 q5 => hcf _ _ (by omega) (by omega) (by omega) (by omega) q5
  have fn : ∀ k, k ≠ u x 7 → w (x + 1) k = u (x + 1) k ∧ w (x + 2) k = u (x + 2) k := fun k q => ⟨hcf _ _ (by omega) (fun _ => q) (by omega) (by omega) (by omega), hcf _ _ (by omega) (by omega) (fun _ => q) (by omega) (by omega)⟩
  have fP : ∀ k, k ≠ 1 → w P k = u P k := fun k q => hcf _ _ (by omega) (by omega) (by omega) (fun _ => q) (by omega)
  have gm : ∀ a k, a ≠ M → a ≠ M + 3 → ¬ (M + 8 ≤ a ∧ a ≤ M + 13) → a ≠ M + 26 → a ≠ M + 27 → a ≠ M + 30 → m' a k = m a k := fun a k q1 q2 q3 q4 q5 q6 => hf _ _ (by omega) (by omega) (by omega) (by omega)
  have gn : ∀ k, k ≠ u x 7 → m' (M + 26) k = m (M + 26) k ∧ m' (M + 27) k = m (M + 27) k ∧ m' (M + 30) k = m (M + 30) k := fun k q => ⟨hf _ _ (by omega) (by omega) (by omega) (fun _ => Or.inl q), hf _ _ (by omega) (by omega) (by omega) (fun _ => Or.inl q), hf _ _ (by omega) (by omega) (by omega) (fun _ => Or.inl q)⟩
  (repeat (first | rw [mgm_u (by omega)] at r1 | rw [mgm_m (by omega)] at r1)); (repeat (first | rw [mgm_u (by omega)] at r2 | rw [mgm_m (by omega)] at r2)); (repeat (first | rw [mgm_u (by omega)] at r3 | rw [mgm_m (by omega)] at r3))
  (repeat (first | rw [mgm_u (by omega)] at r4 | rw [mgm_m (by omega)] at r4))
  rw [mCo_g, mEn_g] at r7
  rw [mgm_u (show P < M by omega)] at r7
  rw [mgm_u (show P + 3 < M by omega)] at r7
  refine ⟨⟨?_, ?_, ?_, ?_, ?_, ?_, ?_⟩, ?_, ?_, ?_, ?_⟩
  · (repeat (first | rw [mgm_u (by omega)] | rw [mgm_m (by omega)])); rw [fP _ (by decide), gm _ _ (by omega) (by omega) (by omega) (by omega) (by omega) (by omega)]; exact r1
  · (repeat (first | rw [mgm_u (by omega)] | rw [mgm_m (by omega)])); rw [w1, v1]; omega
  · (repeat (first | rw [mgm_u (by omega)] | rw [mgm_m (by omega)])); rw [fP _ (by decide), gm _ _ (by omega) (by omega) (by omega) (by omega) (by omega) (by omega)]; exact r3
  · (repeat (first | rw [mgm_u (by omega)] | rw [mgm_m (by omega)])); rw [fo _ _ (by omega) (by omega) (by omega) (by omega) (by omega), fo _ _ (by omega) (by omega) (by omega) (by omega) (by omega), gm _ _ (by omega) (by omega) (by omega) (by omega) (by omega) (by omega), gm _ _ (by omega) (by omega) (by omega) (by omega) (by omega) (by omega)]; exact r4
  · intro k k0 k1
    rw [mgm_u (by omega), w1] at k1
    by_cases e : k = u P 1
    · subst e
      refine ⟨⟨?_, ?_⟩, fun z => ?_, ⟨?_, ?_⟩, ⟨?_, ?_, ?_⟩, Or.inl ⟨?_, ?_⟩⟩
      · (repeat (first | rw [mgm_u (by omega)] | rw [mgm_m (by omega)])); rw [wa0, v8]
      · rw [mgm_u (by omega), wa0]; exact ⟨hsk.1, hsk.2.1⟩
      · rw [mgm_u (by omega), wa0] at z
        obtain ⟨z1, z2⟩ := wa1 z
        obtain ⟨z3, z4⟩ := v9 z
        have := t1 z
        (repeat (first | rw [mgm_u (by omega)] | rw [mgm_m (by omega)])); rw [z1, z2, z3, z4]
        exact ⟨rfl, rfl, this⟩
      · (repeat (first | rw [mgm_u (by omega)] | rw [mgm_m (by omega)])); rw [wa3, v11]
      · rw [mgm_u (by omega), wa3]; exact t2
      · (repeat (first | rw [mgm_u (by omega)] | rw [mgm_m (by omega)])); rw [wa4, v12]
      · (repeat (first | rw [mgm_u (by omega)] | rw [mgm_m (by omega)])); rw [wa5, v13]
      · (repeat (first | rw [mgm_u (by omega)] | rw [mgm_m (by omega)])); rw [wa4, wa5]; exact t3
      · rw [mgm_m (by omega), gm _ _ (by omega) (by omega) (by omega) (by omega) (by omega) (by omega)]; exact gf _ (Int.le_refl _) kc
      · rw [mgm_u (by omega), wa6]
    · refine (r5 k k0 (by rw [mgm_u (by omega)]; omega)).cg (fun j => ?_) (fun a a0 => ?_)
      · (repeat (first | rw [mgm_u (by omega)] | rw [mgm_m (by omega)])); rw [fo _ _ (by omega) (by omega) (by omega) (by omega) (by omega)]
      · (repeat (first | rw [mgm_u (by omega)] | rw [mgm_m (by omega)]))
        exact hf _ _ (by omega) (by omega) (by omega) (by omega)
  · intro k k0 k1
    rw [mgm_u (by omega), fP _ (by decide)] at k1
    refine (r6 k k0 (by rw [mgm_u (by omega)]; exact k1)).cg (fun j => ?_) (fun a a0 => ?_)
    · (repeat (first | rw [mgm_u (by omega)] | rw [mgm_m (by omega)])); rw [fo _ _ (by omega) (by omega) (by omega) (by omega) (by omega)]
    · (repeat (first | rw [mgm_u (by omega)] | rw [mgm_m (by omega)]))
      exact gm _ _ (by omega) (by omega) (by omega) (by omega) (by omega) (by omega)
  · rw [mCo_g, mEn_g, mCo_e (fun k => gm _ _ (by omega) (by omega) (by omega) (by omega) (by omega) (by omega)), mEn_e (fun k => gm _ _ (by omega) (by omega) (by omega) (by omega) (by omega) (by omega)), mgm_u (show P < M by omega), mgm_u (show P + 3 < M by omega), w1, fo (P + 3) 0 (by omega) (by omega) (by omega) (by omega) (by omega)]
    refine r7.cg ?_ (fun k => ?_) (fun k => ⟨?_, ?_⟩) ⟨by omega, by omega⟩
    · (repeat (first | rw [mgm_u (by omega)] | rw [mgm_m (by omega)])); exact fo _ _ (by omega) (by omega) (by omega) (by omega) (by omega)
    · (repeat (first | rw [mgm_u (by omega)] | rw [mgm_m (by omega)])); exact fo _ _ (by omega) (by omega) (by omega) (by omega) (by omega)
    · (repeat (first | rw [mgm_u (by omega)] | rw [mgm_m (by omega)])); exact fo _ _ (by omega) (by omega) (by omega) (by omega) (by omega)
    · (repeat (first | rw [mgm_u (by omega)] | rw [mgm_m (by omega)])); exact fo _ _ (by omega) (by omega) (by omega) (by omega) (by omega)
  · rw [fo (P + 3) 2 (by omega) (by omega) (by omega) (by omega) (by omega), gm _ _ (by omega) (by omega) (by omega) (by omega) (by omega) (by omega)]
    refine ⟨gl.1, fun k k0 k1 => ?_⟩
    rw [gm _ _ (by omega) (by omega) (by omega) (by omega) (by omega) (by omega), gl.2 k k0 k1]
    unfold cC
    rw [fo (P + 3 + 1) k (by omega) (by omega) (by omega) (by omega) (by omega), fo (P + 3 + 2) k (by omega) (by omega) (by omega) (by omega) (by omega)]
  · rw [mEn_e (fun k => gm _ _ (by omega) (by omega) (by omega) (by omega) (by omega) (by omega)), fo (P + 3) 2 (by omega) (by omega) (by omega) (by omega) (by omega), fo (P + 3) 0 (by omega) (by omega) (by omega) (by omega) (by omega)]; exact gs
  · obtain ⟨⟨q1, q2, q3⟩, q4⟩ := gN
    have hT : ∀ a k, T ≤ a → a ≤ T + 4 → w a k = u a k := fun a k z1 z2 => fo _ _ (by omega) (by omega) (by omega) (by omega) (by omega)
    refine ⟨⟨by rw [v27, w7], by omega, by omega⟩, fun j j0 j1 => ?_⟩
    by_cases e : j = u x 7
    · subst e
      rw [wx1, wx2, v26, vl, vs, nt_q hT, st_q hT, sp_q hT, nt_q htr, st_q htr, sp_q htr]
      exact ⟨⟨by omega, kd_lt (by rw [k4]; decide)⟩, ⟨rfl, rfl⟩, ⟨c1.1, by omega⟩, by unfold cvB; rw [if_pos kc]⟩
    · rw [(fn j e).1, (fn j e).2, (gn j e).1, (gn j e).2.1, (gn j e).2.2, nt_q hT, st_q hT, sp_q hT]
      exact q4 j j0 (by omega)
  · intro k k0 k1
    rw [w1] at k0
    rw [gm _ _ (by omega) (by omega) (by omega) (by omega) (by omega) (by omega)]
    exact gf k (by omega) k1
end GMM
