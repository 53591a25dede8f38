/-! STORE: what both have told so far -/
def mgm (M : Int) (u m : QV) : QV := fun a k => if a < M then u a k else m a k
theorem mgm_u {M : Int} {u m : QV} {a k : Int} (h : a < M) : mgm M u m a k = u a k := if_pos h
theorem mgm_m {M : Int} {u m : QV} {a k : Int} (h : M ≤ a) : mgm M u m a k = m a k := if_neg (by omega)
def Gx (u m : QV) (T x P M B : Int) : Prop := PR (mgm M u m) P M B ∧ (m (M + 7) B = u (P + 3) 2 ∧ ∀ k, 0 ≤ k → k < u (P + 3) 2 → m (M + 24) (100 * B + k) = cC u (P + 3) k) ∧ (u (P + 3) 2 = ss (mEn m M B) (u (P + 3) 0).toNat) ∧ NR u m T x M ∧ (∀ k, u P 1 ≤ k → k < 4 → m (M + 18) (4 * B + k) = 0)
section GA
variable {S : QS} {u v w m m' : QV} {T x P M B i n : Int} {o : Int × Int}
theorem PRm.cg {p k : Int} (h : PRm v p M k) (hp : ∀ j, w p j = v p j) (hm : ∀ a, (M + 8 ≤ a ∧ a ≤ M + 13) ∨ (M + 18 ≤ a ∧ a ≤ M + 23) → w a k = v a k) : PRm w p M k := by
  unfold PRm at h ⊢
  simp only [hp, hm (M + 8) (by omega), hm (M + 9) (by omega), hm (M + 10) (by omega), hm (M + 11) (by omega), hm (M + 12) (by omega), hm (M + 13) (by omega), hm (M + 18) (by omega), hm (M + 19) (by omega), hm (M + 20) (by omega), hm (M + 21) (by omega), hm (M + 22) (by omega), hm (M + 23) (by omega)]
  exact h
theorem PRa.cg {p k : Int} (h : PRa v p M k) (hp : ∀ j, w p j = v p j) (hm : ∀ a, M + 14 ≤ a ∧ a ≤ M + 17 → w a k = v a k) : PRa w p M k := by
  unfold PRa at h ⊢
  simp only [hp, hm (M + 14) (by omega), hm (M + 15) (by omega), hm (M + 16) (by omega), hm (M + 17) (by omega)]
  exact h
theorem wc.nm {c : Int → Int} {nm nm' : Int} {s : Nat} {a : Int} {j : Nat} (h : wc c nm s a j) (hn : nm ≤ nm') : wc c nm' s a j := by
  unfold wc at h ⊢
  omega
theorem CC.cg {F nm nm' : Int} {ns : Nat} {c e : Int → Int} (h : CC v F c e nm ns) (h0 : w F 0 = v F 0) (h3 : ∀ k, w (F + 3) k = v (F + 3) k) (h1 : ∀ k, w (F + 1) k = v (F + 1) k ∧ w (F + 2) k = v (F + 2) k) (hn : nm ≤ nm' ∧ nm' ≤ 4) : CC w F c e nm' ns := by
  obtain ⟨g1, g2, g3, g4, g5, g6⟩ := h
  refine ⟨by rw [h0]; exact g1, g2, hn.2, fun s hs => ?_, fun s s0 s1 => by rw [h3]; exact g5 s s0 s1, fun k k0 k1 => by rw [(h1 k).1, (h1 k).2]; exact g6 k k0 k1⟩
  obtain ⟨q1, q2, q3⟩ := g4 s hs
  exact ⟨q1, fun j hj => (q2 j hj).nm hn.1, q3⟩
theorem mCo_e (h : ∀ k, m' (M + 24) k = m (M + 24) k) : mCo m' M B = mCo m M B := funext fun k => h _
theorem mEn_e (h : ∀ k, m' (M + 25) k = m (M + 25) k) : mEn m' M B = mEn m M B := funext fun k => h _
theorem mCo_g : mCo (mgm M u m) M B = mCo m M B := funext fun k => mgm_m (by omega)
theorem mEn_g : mEn (mgm M u m) M B = mEn m M B := funext fun k => mgm_m (by omega)
theorem NR.cg {u' : QV} (h : NR u m T x M) (e7 : u' x 7 = u x 7) (hT : ∀ a k, T ≤ a → a ≤ T + 4 → u' a k = u a k) (e1 : ∀ k, u' (x + 1) k = u (x + 1) k) (e2 : ∀ k, u' (x + 2) k = u (x + 2) k) (f0 : m' M 27 = m M 27) (f1 : ∀ k, m' (M + 26) k = m (M + 26) k) (f2 : ∀ k, m' (M + 27) k = m (M + 27) k) (f3 : ∀ k, m' (M + 30) k = m (M + 30) k) : NR u' m' T x M := by
  unfold NR at h ⊢
  simp only [e7, hT T _ (Int.le_refl _) (by omega), nt_q hT, st_q hT, sp_q hT, e1, e2, f0, f1, f2, f3]
  exact h
theorem arS_b (h : (arS v T i).1 = 0) : (1 ≤ nmT v T (i + 2) ∧ nmT v T (i + 2) ≤ 12) ∧ (1 ≤ nmT v T (i + 4) ∧ nmT v T (i + 4) ≤ 30) ∧ (0 ≤ nmT v T (i + 6) ∧ nmT v T (i + 6) ≤ 9) := by
  unfold arS at h
  obtain ⟨a1, a2, a3⟩ := stp_i h
  obtain ⟨b1, b2, b3⟩ := stp_i a1
  obtain ⟨c1, c2, c3⟩ := stp_i b1
  obtain ⟨d1, d2, d3⟩ := stp_i c1
  obtain ⟨e1, e2, e3⟩ := stp_i d1
  obtain ⟨f1, f2, f3⟩ := stp_i e1
  rw [f3] at e3
  rw [e3] at d3
  rw [d3] at c3
  have y2 := (fNu_0 f2).2
  rw [e3] at d2
  have y4 := (fNu_0 d2).2
  rw [c3] at b2
  have y6 := (fNu_0 b2).2
  dsimp only at y2 y4 y6
  rw [show i + 2 + 1 + 1 = i + 4 by omega] at y4
  rw [show i + 2 + 1 + 1 + 1 + 1 = i + 6 by omega] at y6
  exact ⟨y2, y4, y6⟩
theorem howK_b {k : Int} (h : ¬ howK k = -1) : 0 ≤ howK k ∧ howK k ≤ 3 := by
  unfold howK at h ⊢
  split
  · omega
  · split
    · omega
    · split
      · omega
      · split
        · omega
        · rename_i a b c d
          rw [if_neg a, if_neg b, if_neg c, if_neg d] at h
          exact absurd rfl h
theorem Gx_A (hG : Gx u m T x P M B) (hC : Cl S v T x P u i) (hB : B = 0 ∨ B = 1) (hPM : P + 16 < M) (hL : LsA v T x P u i w o) (h0 : o.1 = 0) (hf : amF m m' M B (u P 2)) (hv : m' (M + 4) B = u P 2 + 1 ∧ m' (M + 14) (4 * B + u P 2) = howK (kdT v T (i + 1)) ∧ m' (M + 15) (4 * B + u P 2) = nmT v T (i + 2) ∧ m' (M + 16) (4 * B + u P 2) = nmT v T (i + 4) ∧ m' (M + 17) (4 * B + u P 2) = nmT v T (i + 6)) : Gx w m' T x P M B := by
  obtain ⟨ho, hcf, hcv⟩ := hL
  obtain ⟨w2, wa0, wa1, wa2, wa3, hs, hh⟩ := hcv h0
  obtain ⟨v1, v2, v3, v4, v5⟩ := hv
  obtain ⟨⟨r1, r2, r3, r4, r5, r6, r7⟩, gl, gs, gN, gf⟩ := hG
  obtain ⟨hb, hN, ⟨c1, c2, c3⟩, -⟩ := hC
  obtain ⟨hp, -, -, hx⟩ := hb
  have h10 := hp.2.2.2.2.2.2.2.2.2
  have c4 : u P 2 < 4 := by
    have : ¬ 4 ≤ u P 2 := fun y => by rw [ho] at h0; unfold arO at h0; rw [if_pos y] at h0; exact absurd h0 (by simp)
    omega
  rw [ho, hs] at h0
  obtain ⟨b2, b4, b6⟩ := arS_b h0
  have hhb := howK_b hh
  have fx : ∀ k, k ≠ 2 → k ≠ 3 → k ≠ 4 → w x k = u x k := fun k q1 q2 q3 => hcf _ _ (fun _ => ⟨q1, q2, q3⟩) (by omega) (by omega)
  have fo : ∀ a k, a ≠ x → a ≠ P → a ≠ P + (13 + u P 2) → w a k = u a k := fun a k q1 q2 q3 => hcf _ _ (by omega) (by omega) q3
  have fP : ∀ k, k ≠ 2 → w P k = u P k := fun k q => hcf _ _ (by omega) (fun _ => q) (by omega)
  have gm : ∀ a k, a ≠ M → a ≠ M + 4 → ¬ (M + 14 ≤ a ∧ a ≤ M + 17) → m' a k = m a k := fun a k q1 q2 q3 => hf _ _ (by omega) (by omega) (by omega)
  have g27 : m' M 27 = m M 27 := hf _ _ (by omega) (by omega) (by omega)
  (repeat (first | rw [mgm_u (by omega)] at r1 | rw [mgm_m (by omega)] at r1)); (repeat (first | rw [mgm_u (by omega)] at r2 | rw [mgm_m (by omega)] at r2)); (repeat (first | rw [mgm_u (by omega)] at r3 | rw [mgm_m (by omega)] at r3))
  (repeat (first | rw [mgm_u (by omega)] at r4 | rw [mgm_m (by omega)] at r4))
  rw [mCo_g, mEn_g] at r7
  rw [mgm_u (show P < M by omega)] at r7
  rw [mgm_u (show P + 3 < M by omega)] at r7
  refine ⟨⟨?_, ?_, ?_, ?_, ?_, ?_, ?_⟩, ?_, ?_, ?_, ?_⟩
  · (repeat (first | rw [mgm_u (by omega)] | rw [mgm_m (by omega)])); rw [fP _ (by decide), gm _ _ (by omega) (by omega) (by omega)]; exact r1
  · (repeat (first | rw [mgm_u (by omega)] | rw [mgm_m (by omega)])); rw [fP _ (by decide), gm _ _ (by omega) (by omega) (by omega)]; exact r2
  · (repeat (first | rw [mgm_u (by omega)] | rw [mgm_m (by omega)])); rw [w2, v1]; omega
  · (repeat (first | rw [mgm_u (by omega)] | rw [mgm_m (by omega)])); rw [fo _ _ (by omega) (by omega) (by omega), fo _ _ (by omega) (by omega) (by omega), gm _ _ (by omega) (by omega) (by omega), gm _ _ (by omega) (by omega) (by omega)]; exact r4
  · intro k k0 k1
    rw [mgm_u (by omega), fP _ (by decide)] at k1
    refine (r5 k k0 (by rw [mgm_u (by omega)]; exact k1)).cg (fun j => ?_) (fun a a0 => ?_)
    · (repeat (first | rw [mgm_u (by omega)] | rw [mgm_m (by omega)])); rw [fo _ _ (by omega) (by omega) (by omega)]
    · (repeat (first | rw [mgm_u (by omega)] | rw [mgm_m (by omega)]))
      exact gm _ _ (by omega) (by omega) (by omega)
  · intro k k0 k1
    rw [mgm_u (by omega), w2] at k1
    by_cases e : k = u P 2
    · subst e
      unfold PRa
      (repeat (first | rw [mgm_u (by omega)] | rw [mgm_m (by omega)])); rw [wa0, wa1, wa2, wa3, v2, v3, v4, v5]
      exact ⟨⟨rfl, hhb⟩, ⟨rfl, b2⟩, ⟨rfl, b4⟩, rfl, b6⟩
    · refine (r6 k k0 (by rw [mgm_u (by omega)]; omega)).cg (fun j => ?_) (fun a a0 => ?_)
      · (repeat (first | rw [mgm_u (by omega)] | rw [mgm_m (by omega)])); rw [fo _ _ (by omega) (by omega) (by omega)]
      · (repeat (first | rw [mgm_u (by omega)] | rw [mgm_m (by omega)]))
        exact hf _ _ (by omega) (by omega) (by omega)
  · rw [mCo_g, mEn_g, mCo_e (fun k => gm _ _ (by omega) (by omega) (by omega)), mEn_e (fun k => gm _ _ (by omega) (by omega) (by omega)), mgm_u (show P < M by omega), mgm_u (show P + 3 < M by omega), fP _ (by decide), fo (P + 3) 0 (by omega) (by omega) (by omega)]
    refine r7.cg ?_ (fun k => ?_) (fun k => ⟨?_, ?_⟩) ⟨Int.le_refl _, c1.2⟩
    · (repeat (first | rw [mgm_u (by omega)] | rw [mgm_m (by omega)])); exact fo _ _ (by omega) (by omega) (by omega)
    · (repeat (first | rw [mgm_u (by omega)] | rw [mgm_m (by omega)])); exact fo _ _ (by omega) (by omega) (by omega)
    · (repeat (first | rw [mgm_u (by omega)] | rw [mgm_m (by omega)])); exact fo _ _ (by omega) (by omega) (by omega)
    · (repeat (first | rw [mgm_u (by omega)] | rw [mgm_m (by omega)])); exact fo _ _ (by omega) (by omega) (by omega)
  · rw [fo (P + 3) 2 (by omega) (by omega) (by omega), gm _ _ (by omega) (by omega) (by omega)]
    refine ⟨gl.1, fun k k0 k1 => ?_⟩
    rw [gm _ _ (by omega) (by omega) (by omega), gl.2 k k0 k1]
    unfold cC
    rw [fo (P + 3 + 1) k (by omega) (by omega) (by omega), fo (P + 3 + 2) k (by omega) (by omega) (by omega)]
  · rw [mEn_e (fun k => gm _ _ (by omega) (by omega) (by omega)), fo (P + 3) 2 (by omega) (by omega) (by omega), fo (P + 3) 0 (by omega) (by omega) (by omega)]; exact gs
  · exact gN.cg (fx _ (by decide) (by decide) (by decide)) (fun a k q1 q2 => fo _ _ (by omega) (by omega) (by omega)) (fun k => fo _ _ (by omega) (by omega) (by omega)) (fun k => fo _ _ (by omega) (by omega) (by omega)) g27 (fun k => gm _ _ (by omega) (by omega) (by omega)) (fun k => gm _ _ (by omega) (by omega) (by omega)) (fun k => gm _ _ (by omega) (by omega) (by omega))
  · intro k k0 k1
    rw [fP _ (by decide)] at k0
    rw [gm _ _ (by omega) (by omega) (by omega)]
    exact gf k k0 k1
end GA
