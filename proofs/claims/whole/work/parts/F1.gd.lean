/-! STORE: where a line ends -/
def Gd (v : QV) (T i : Int) (o : Int × Int) : Prop := o.1 = 0 → i ≤ o.2 ∧ o.2 < nTk v T
def nz1 (v : QV) (T : Int) (φ : Int → Int) : Prop := ∀ j, φ j = 0 → kdT v T j ≠ 1
section GD
variable {v : QV} {T i lo hi k : Int} {o : Int × Int} {φ : Int → Int}
theorem nz1_k (hk : k ≠ 1) : nz1 v T (fKd v T k) := fun j h => by
  unfold fKd at h
  by_cases c : kdT v T j = k
  · rw [c]; exact hk
  · rw [if_neg c] at h; exact absurd h (by decide)
theorem nz1_n : nz1 v T (fNu v T lo hi) := fun j h => by
  rw [(fNu_0 h).1]; decide
theorem Gd.st (hend : kdT v T (nTk v T - 1) = 1) (h : Gd v T i o) (hz : nz1 v T φ) : Gd v T (i + 1) (stp φ o) := fun z => by
  obtain ⟨a, b, c⟩ := stp_i z
  have h1 := h a
  have h2 := hz _ b
  rw [c]
  refine ⟨by omega, ?_⟩
  by_cases e : o.2 = nTk v T - 1
  · rw [e] at h2; exact absurd hend h2
  · omega
theorem Gd.le {i' : Int} (h : Gd v T i o) (hi : i' ≤ i) : Gd v T i' o := fun z => ⟨by have := (h z).1; omega, (h z).2⟩
theorem Gd.f {f : Int} (hf : ¬ f = 0) : Gd v T i (f, k) := fun z => absurd z hf
theorem gd_nx (hend : kdT v T (nTk v T - 1) = 1) (hi : i < nTk v T) (hk : kdT v T i ≠ 1) : i + 1 < nTk v T := by
  by_cases e : i = nTk v T - 1
  · rw [e] at hk; exact absurd hend hk
  · omega
theorem arO_g {cnt : Int} (hend : kdT v T (nTk v T - 1) = 1) (hi : i < nTk v T) (hk : kdT v T i ≠ 1) : Gd v T (i + 1) (arO v T i cnt) := by
  unfold arO
  split
  · exact Gd.f (by decide)
  · split
    · exact Gd.f (by decide)
    · rename_i a b
      have h1 := gd_nx hend hi hk
      have h2 := gd_nx hend h1 (fun e => by rw [e] at b; exact b rfl)
      have g0 : Gd v T i (0, i + 2) := fun _ => ⟨by show i ≤ i + 2; omega, by show i + 2 < nTk v T; omega⟩
      exact ((((((g0.st hend nz1_n).st hend (nz1_k (by decide))).st hend nz1_n).st hend (nz1_k (by decide))).st hend nz1_n).st hend (nz1_k (by decide))).le (by omega)
theorem foO_g {b sea : Int} (hend : kdT v T (nTk v T - 1) = 1) (hi : i < nTk v T) (hk : kdT v T i ≠ 1) : Gd v T (i + 1) (foO v T i b sea) := by
  unfold foO
  by_cases c : kdT v T (i + 1) = 4
  · rw [if_neg (fun z => z c)]
    split
    · exact Gd.f (by decide)
    · have h1 := gd_nx hend hi hk
      have h2 := gd_nx hend h1 (by rw [c]; decide)
      have g0 : Gd v T i (0, i + 2) := fun _ => ⟨by show i ≤ i + 2; omega, by show i + 2 < nTk v T; omega⟩
      unfold foN
      exact (((((((((g0.st hend (nz1_k (by decide))).st hend nz1_n).st hend (nz1_k (by decide))).st hend nz1_n).st hend nz1_n).st hend nz1_n).st hend (nz1_k (by decide))).st hend nz1_n).st hend (nz1_k (by decide))).le (by omega)
  · rw [if_pos c]
    exact Gd.f (by decide)
theorem meL_g (hend : kdT v T (nTk v T - 1) = 1) (h : Gd v T i o) : Gd v T i (meL v T o) := by
  unfold meL
  split
  · rename_i a
    have h1 := h a.1
    have h2 := gd_nx hend h1.2 (by rw [a.2]; decide)
    have g0 : Gd v T i (0, o.2 + 1) := fun _ => ⟨by show i ≤ o.2 + 1; omega, h2⟩
    exact (g0.st hend nz1_n).le (by omega)
  · exact h
theorem meM_g {lea : Int} (hend : kdT v T (nTk v T - 1) = 1) (h : Gd v T i o) : Gd v T i (meM v T lea o) := by
  unfold meM
  split
  · rename_i a
    have h1 := h a.1
    have h2 := gd_nx hend h1.2 (by rw [a.2]; decide)
    have g0 : Gd v T i (0, o.2 + 1) := fun _ => ⟨by show i ≤ o.2 + 1; omega, h2⟩
    exact (g0.st hend nz1_n).le (by omega)
  · exact h
theorem meB_g {srt : Int} (hend : kdT v T (nTk v T - 1) = 1) (hi : i < nTk v T) : Gd v T i (meB v T srt i) := by
  have g0 : Gd v T i (meW v T srt i) := by
    have z0 : Gd v T i (0, i) := fun _ => ⟨Int.le_refl _, hi⟩
    unfold meW
    split
    · exact ((z0.st hend nz1_n).st hend nz1_n).le (by omega)
    · exact z0
  unfold meB
  exact meM_g hend (meL_g hend (((g0.st hend (nz1_k (by decide))).st hend nz1_n).le (by omega)))
theorem meO_g {cnt b : Int} (hend : kdT v T (nTk v T - 1) = 1) (hi : i < nTk v T) (hk : kdT v T i ≠ 1) : Gd v T (i + 1) (meO v T i cnt b) := by
  unfold meO
  split
  · exact Gd.f (by decide)
  · by_cases c : kdT v T (i + 1) = 4
    · rw [if_neg (fun z => z c)]
      split
      · exact Gd.f (by decide)
      · split
        · exact Gd.f (by decide)
        · rename_i a b d
          have h1 := gd_nx hend hi hk
          have h2 := gd_nx hend h1 (by rw [c]; decide)
          have h3 := gd_nx hend h2 (fun e => by rw [show i + 1 + 1 = i + 2 by omega] at e; rw [e] at d; exact d rfl)
          exact ((meB_g hend (show i + 3 < nTk v T by omega)).st hend (nz1_k (by decide))).le (by omega)
    · rw [if_pos c]
      exact Gd.f (by decide)
theorem fmG_g {β : Int → Int} (hend : kdT v T (nTk v T - 1) = 1) : ∀ (k : Nat) (st : List Int) (c : Int → Int) (l op un : Int) (wt : Bool) (i : Int), i < nTk v T → Gd v T i (fmG v T β k st c l op un wt i).1
  | 0, st, c, l, op, un, wt, i, hi => Gd.f (by decide)
  | k + 1, st, c, l, op, un, true, i, hi => by
    simp only [fmG]
    by_cases c0 : fUn v T β op un i = 0
    · obtain ⟨g1, g2, g3⟩ := fUn_0 c0
      have h1 := gd_nx hend hi (by omega)
      rw [if_pos c0]
      by_cases c1 : kdT v T i = 40
      · rw [if_pos c1]
        exact (fmG_g hend k _ _ _ _ _ true (i + 1) h1).le (by omega)
      · rw [if_neg c1]
        exact (fmG_g hend k _ _ _ _ _ false (i + 1) h1).le (by omega)
    · rw [if_neg c0]
      exact Gd.f c0
  | k + 1, st, c, l, op, un, false, i, hi => by
    simp only [fmG]
    by_cases c0 : 0 < rkS (kdT v T i)
    · rw [if_pos c0]
      exact (fmG_g hend k _ _ _ _ _ true (i + 1) (gd_nx hend hi (rk_1 c0))).le (by omega)
    · rw [if_neg c0]
      by_cases c1 : kdT v T i = 41 ∧ 0 < op
      · rw [if_pos c1]
        exact (fmG_g hend k _ _ _ _ _ false (i + 1) (gd_nx hend hi (by omega))).le (by omega)
      · rw [if_neg c1]
        by_cases c2 : 0 < op
        · rw [if_pos c2]
          exact Gd.f (by decide)
        · rw [if_neg c2]
          exact fun _ => ⟨Int.le_refl _, hi⟩
theorem shM_g {sh b : Int} {f : Int × Int} (hend : kdT v T (nTk v T - 1) = 1) (hi : i < nTk v T) (hk : kdT v T i ≠ 1) (hf : i + 3 < nTk v T → Gd v T (i + 3) f) : Gd v T (i + 1) (stp (fKd v T 59) (shM v T i sh b f)) := by
  unfold shM
  split
  · rw [stp_ff (by decide)]; exact Gd.f (by decide)
  · by_cases c : kdT v T (i + 1) = 4
    · rw [if_neg (fun z => z c)]
      split
      · rw [stp_ff (by decide)]; exact Gd.f (by decide)
      · by_cases d : kdT v T (i + 2) = 61
        · rw [if_neg (fun z => z d)]
          have h1 := gd_nx hend hi hk
          have h2 := gd_nx hend h1 (by rw [c]; decide)
          have h3 := gd_nx hend h2 (show kdT v T (i + 1 + 1) ≠ 1 by rw [show i + 1 + 1 = i + 2 by omega, d]; decide)
          exact ((hf (by omega)).st hend (nz1_k (by decide))).le (by omega)
        · rw [if_pos d, stp_ff (by decide)]; exact Gd.f (by decide)
    · rw [if_pos c, stp_ff (by decide)]; exact Gd.f (by decide)
end GD
