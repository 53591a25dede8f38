/-! STORE: one line of the reference beside the class's -/
section MK
variable {S : QS} {u v w m m' : QV} {T x P M B i n : Int} {o : Int × Int}
theorem Gx.cnt (hG : Gx u m T x P M B) (hPM : P + 16 < M) : m (M + 3) B = u P 1 ∧ m (M + 4) B = u P 2 ∧ m (M + 5) B = u (P + 3) 0 ∧ m (M + 6) B = u (P + 3) 1 := by
  obtain ⟨⟨r1, r2, r3, r4, -⟩, -⟩ := hG
  rw [mgm_u (by omega), mgm_m (by omega)] at r2 r3
  (repeat (first | rw [mgm_u (by omega)] at r4 | rw [mgm_m (by omega)] at r4))
  omega
theorem isBe_4 (hN : NB u T x) {b : Int} (hb : kdT v T (i + 1) = 4 → isBe u T x (i + 1) b) : ∃ b', (kdT v T (i + 1) = 4 → isBe u T x (i + 1) b') ∧ (-1 ≤ b' ∧ b' < 8) ∧ (kdT v T (i + 1) = 4 → b' = b) := by
  by_cases c : kdT v T (i + 1) = 4
  · exact ⟨b, hb, isBe_b hN (hb c), fun _ => rfl⟩
  · exact ⟨-1, fun z => absurd z c, by decide, fun z => absurd z c⟩
theorem m_lineM (hc : CX v M T n) (hC : Cl S v T x P u i) (hG : Gx u m T x P M B) (hm : Mm S v T M n (fun _ => True) m (0, i)) (hB : B = 0 ∨ B = 1) (hPM : P + 16 < M) (hK : kdT v T i ≠ 1) (hL : LsM v T x P u i w o) : ∃ oR, o = stp (fKd v T 59) oR ∧ wM mX12_readMeasure [M, B] S m (fun _ w' => Mm S v T M n (fun m' => FrM M B m m' ∧ (o.1 = 0 → Gx w m' T x P M B)) w' oR) := by
  obtain ⟨b, hbe, ho, hcf, hcv⟩ := hL
  obtain ⟨n3, n4, n5, n6⟩ := hG.cnt hPM
  obtain ⟨hb, hN, ⟨c1, c2, c3⟩, ⟨cn, -⟩, -⟩ := id hC
  obtain ⟨hend, hi, -⟩ := hb.end
  obtain ⟨b', hb', hbb, hbe'⟩ := isBe_4 hN hbe
  have hR := hG.2.2.2.1
  by_cases c4 : 4 ≤ u P 1
  · have h4 : meO v T i (u P 1) b = stp (fKd v T 59) (4, i) := by unfold meO; rw [if_pos c4, stp_ff (by decide)]
    refine ⟨(4, i), by rw [ho]; exact h4, wM_mono (m_meas4 hm hB (by omega)) ?_⟩
    rintro r w' e h
    exact h.cg (fun q => ⟨q.fr, fun z => by rw [ho, h4, stp_ff (by decide)] at z; exact absurd z (by simp)⟩)
  · have he : meO v T i (u P 1) b = meO v T i (u P 1) b' := by
      unfold meO
      rw [if_neg c4, if_neg c4]
      by_cases ck : kdT v T (i + 1) = 4
      · rw [hbe' ck]
      · rw [if_pos ck, if_pos ck]
    refine ⟨meR v T i (u P 1) b', by rw [ho, he]; exact meR_o, wM_mono (m_readMeasure hc hm hB n3 c1 hK (fun q k q1 q2 => hb.2.2.1 q k q1 q2) hR rfl (by have := hN.1; omega) hb' hbb) ?_⟩
    rintro r w' e h
    refine h.cg (fun q => ⟨fun a k q1 q2 q3 q4 q5 q6 q7 => q.1 a k (fun e => ⟨Or.inl (q1 e).1, (q1 e).2.1⟩) (by omega) (by omega) (by omega), fun z => ?_⟩)
    have hz := z
    rw [ho, he, meR_o] at hz
    have hv := q.2 (stp_i hz).1
    rw [ho] at z
    exact Gx_M hG hC hB hPM z (gd_nx hend hi.2 hK) hcf (hcv (by rw [ho]; exact z)) q.1 hv
theorem m_lineA (hc : CX v M T n) (hC : Cl S v T x P u i) (hG : Gx u m T x P M B) (hm : Mm S v T M n (fun _ => True) m (0, i)) (hB : B = 0 ∨ B = 1) (hPM : P + 16 < M) (hK : kdT v T i ≠ 1) (hL : LsA v T x P u i w o) : ∃ oR, o = stp (fKd v T 59) oR ∧ wM mX12_readArchive [M, B] S m (fun _ w' => Mm S v T M n (fun m' => FrM M B m m' ∧ (o.1 = 0 → Gx w m' T x P M B)) w' oR) := by
  obtain ⟨n3, n4, n5, n6⟩ := hG.cnt hPM
  obtain ⟨hb, hN, ⟨c1, c2, c3⟩, ⟨cn, -⟩, -⟩ := id hC
  have ho := hL.1
  by_cases c4 : 4 ≤ u P 2
  · have h4 : arO v T i (u P 2) = stp (fKd v T 59) (4, i) := by unfold arO; rw [if_pos c4, stp_ff (by decide)]
    refine ⟨(4, i), by rw [ho]; exact h4, wM_mono (m_arch4 hm hB (by omega)) ?_⟩
    rintro r w' e h
    exact h.cg (fun q => ⟨q.fr, fun z => by rw [ho, h4, stp_ff (by decide)] at z; exact absurd z (by simp)⟩)
  · refine ⟨arM v T i (u P 2), by rw [ho]; exact arM_o, wM_mono (m_readArchive hc hm hB n4 c2 hK) ?_⟩
    rintro r w' e h
    refine h.cg (fun q => ⟨fun a k q1 q2 q3 q4 q5 q6 q7 => q.1 a k (fun e => (q1 e).2.1) (by omega) (by omega), fun z => ?_⟩)
    have hz := z
    rw [ho, arM_o] at hz
    exact Gx_A hG hC hB hPM hL z q.1 (q.2 (stp_i hz).1)
theorem m_lineF (hc : CX v M T n) (hC : Cl S v T x P u i) (hG : Gx u m T x P M B) (hm : Mm S v T M n (fun _ => True) m (0, i)) (hB : B = 0 ∨ B = 1) (hPM : P + 16 < M) (hK : kdT v T i ≠ 1) (hL : LsF v T x P u i w o) : ∃ oR, o = stp (fKd v T 59) oR ∧ wM mX12_readForecast [M, B] S m (fun _ w' => Mm S v T M n (fun m' => FrM M B m m' ∧ (o.1 = 0 → Gx w m' T x P M B)) w' oR) := by
  obtain ⟨b, hbe, ho, hcf, hcv⟩ := hL
  obtain ⟨n3, n4, n5, n6⟩ := hG.cnt hPM
  obtain ⟨hb, hN, ⟨c1, c2, c3⟩, ⟨cn, cb⟩, -⟩ := id hC
  have hR := hG.2.2.2.1
  by_cases cg : kdT v T (i + 1) = 4 ∧ 0 ≤ b ∧ b < 4
  · obtain ⟨ck, b0, b4⟩ := cg
    have hbl : b < u P 1 := by
      rcases hbe ck with ⟨j, hj, -, -, e⟩ | ⟨e, -⟩
      · have := cb j hj.1 hj.2; omega
      · omega
    have h5 := hG.1.2.2.2.2.1 b b0 (by rw [mgm_u (by omega)]; exact hbl)
    have hsea : m (M + 18) (4 * B + b) = 0 ↔ ¬ 0 < u (P + (9 + b)) 6 := by
      have h6 := h5.2.2.2.2
      (repeat (first | rw [mgm_u (by omega)] at h6 | rw [mgm_m (by omega)] at h6))
      omega
    refine ⟨foM v T i b (u (P + (9 + b)) 6), by rw [ho]; exact foM_o, wM_mono (m_readForecast hc hm hB hK (fun q k q1 q2 => hb.2.2.1 q k q1 q2) hR hbe (isBe_b hN (hbe ck)) (fun _ _ => hsea)) ?_⟩
    rintro r w' e h
    refine h.cg (fun q => ⟨fun a k q1 q2 q3 q4 q5 q6 q7 => q.1 a k (fun e => (q1 e).2.1) (by omega), fun z => ?_⟩)
    have hz := z
    rw [ho, foM_o] at hz
    rw [ho] at z
    exact Gx_F hG hC hB hPM z hbl hcf (hcv (by rw [ho]; exact z)) q.1 (q.2 (stp_i hz).1)
  · have hf : foO v T i b (u (P + (9 + b)) 6) = if kdT v T (i + 1) = 4 then (3, i + 1) else (1, i + 1) := by
      unfold foO
      by_cases ck : kdT v T (i + 1) = 4
      · rw [if_neg (fun z => z ck), if_pos ck, if_pos (by omega)]
      · rw [if_pos ck, if_neg ck]
    have hs : stp (fKd v T 59) (if kdT v T (i + 1) = 4 then (3, i + 1) else (1, i + 1)) = if kdT v T (i + 1) = 4 then (3, i + 1) else (1, i + 1) := by
      split <;> exact stp_ff (by decide)
    refine ⟨if kdT v T (i + 1) = 4 then (3, i + 1) else (1, i + 1), by rw [ho, hf, hs], wM_mono (m_foreN (b := b) hc hm hK (fun q k q1 q2 => hb.2.2.1 q k q1 q2) hR (fun ck => ⟨hbe ck, by omega⟩)) ?_⟩
    rintro r w' e h
    refine h.cg (fun q => ⟨q.fr, fun z => ?_⟩)
    rw [ho, hf] at z
    split at z <;> exact absurd z (by simp)
theorem m_lineS (hc : CX v M T n) (hC : Cl S v T x P u i) (hG : Gx u m T x P M B) (hm : Mm S v T M n (fun _ => True) m (0, i)) (hB : B = 0 ∨ B = 1) (hPM : P + 16 < M) (hK : kdT v T i ≠ 1) (hL : LsS S v T x P u i w o) : ∃ oR, o = stp (fKd v T 59) oR ∧ wM mX12_readShow [M, B] S m (fun _ w' => Mm S v T M n (fun m' => FrM M B m m' ∧ (o.1 = 0 → Gx w m' T x P M B)) w' oR) := by
  obtain ⟨b, β, RES, hbe, hβ, hbo, hRE, ho, hcf, hcv⟩ := hL
  obtain ⟨n3, n4, n5, n6⟩ := hG.cnt hPM
  obtain ⟨hb, hN, ⟨c1, c2, c3⟩, ⟨cn, -⟩, ⟨g1, g2⟩, -⟩ := id hC
  obtain ⟨hend, hi, -⟩ := hb.end
  obtain ⟨b', hb', hbb, hbe'⟩ := isBe_4 hN hbe
  have hR := hG.2.2.2.1
  have gl := hG.2.1
  by_cases c4 : 4 ≤ u (P + 3) 0
  · have h4 : stp (fKd v T 59) (shM v T i (u (P + 3) 0) b RES.1) = stp (fKd v T 59) (4, i) := by unfold shM; rw [if_pos c4]
    refine ⟨(4, i), by rw [ho]; exact h4, wM_mono (m_show4 hm hB (by omega)) ?_⟩
    rintro r w' e h
    exact h.cg (fun q => ⟨q.fr, fun z => by rw [ho, h4, stp_ff (by decide)] at z; exact absurd z (by simp)⟩)
  · have he : shM v T i (u (P + 3) 0) b RES.1 = shM v T i (u (P + 3) 0) b' RES.1 := by
      unfold shM
      rw [if_neg c4, if_neg c4]
      by_cases ck : kdT v T (i + 1) = 4
      · rw [hbe' ck]
      · rw [if_pos ck, if_pos ck]
    refine ⟨shM v T i (u (P + 3) 0) b' RES.1, by rw [ho, he], wM_mono (m_readShow (nn := u x 7) (c := cC u (P + 3)) (β := β) hc hm hB n5 c3 hK (fun q k q1 q2 => hb.2.2.1 q k q1 q2) hR rfl (by have := hN.1; omega) hb' hbb gl.1 n6 gl.2 (fun i r _ _ hr => isBe_u hr (hβ i)) g1 g2 hbo hend hRE) ?_⟩
    rintro r w' e h
    refine h.cg (fun q => ⟨fun a k q1 q2 q3 q4 q5 q6 q7 => q.1 a k q1 q4 (by omega) (by omega) (by omega) (by omega), fun z => ?_⟩)
    have hz := z
    rw [ho, he] at hz
    have hv := q.2 (stp_i hz).1
    have hcv' := hcv z
    have i1 := gd_nx hend hi.2 hK
    have i2 := gd_nx hend i1 (by rw [hcv'.1.1]; decide)
    have i3 := gd_nx hend i2 (by rw [show i + 1 + 1 = i + 2 by omega, hcv'.1.2.2.1]; decide)
    exact Gx_S hG hC hB hPM hbo hRE (by omega) hcf hcv' q.1 hv
end MK
