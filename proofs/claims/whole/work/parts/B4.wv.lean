/-! WOULD: what a measure's value comes to -/
theorem valF_cong {v : QV} {M B m : Int} {f g : Int → Int} (h6 : g (3 + 12 * m + 6) = f (3 + 12 * m + 6)) (h7 : g (3 + 12 * m + 7) = f (3 + 12 * m + 7)) : valF v M B m g = valF v M B m f := by
  unfold valF
  rw [h6, h7]
theorem measI_m {v : QV} {M B m : Int} {f : Int → Int} (hP : PB v M B) (h0 : 0 ≤ m) : ∀ n : Nat, (n : Int) ≤ v (M + 3) B → m < (n : Int) → itF (fun m => measF v M B m) n f (3 + 12 * m + 5) = valF v M B m f ∧ itF (fun m => measF v M B m) n f (3 + 12 * m + 6) = 0 ∧ itF (fun m => measF v M B m) n f (3 + 12 * m + 7) = 0
  | 0, _, h => by omega
  | n + 1, hn, h => by
    obtain ⟨pst, pn, pna, pf, pa⟩ := id hP
    show measF v M B n _ _ = _ ∧ measF v M B n _ _ = _ ∧ measF v M B n _ _ = _
    by_cases e : m = n
    · subst e
      have fr : ∀ i, 0 ≤ i → i < 12 → itF (fun m => measF v M B m) n f (3 + 12 * (n : Int) + i) = f (3 + 12 * (n : Int) + i) := fun i i0 i1 => measI_fr pna n (fun m' q0 q1 => ⟨pf m' q0 (by omega), by omega, fun a _ _ => by omega, by omega⟩)
      obtain ⟨⟨q5, q6, q7⟩, -⟩ := measF_m (f := itF (fun m => measF v M B m) n f) (show 0 ≤ (n : Int) ∧ (n : Int) < 4 by omega) (pf n h0 (by omega)) pna
      exact ⟨by rw [q5]; exact valF_cong (fr 6 (by decide) (by decide)) (fr 7 (by decide) (by decide)), q6, q7⟩
    · have hp := pf n (by omega) (by omega)
      rw [measF_fr pna hp (by omega) (fun a _ _ => by omega) (by omega), measF_fr pna hp (by omega) (fun a _ _ => by omega) (by omega), measF_fr pna hp (by omega) (fun a _ _ => by omega) (by omega)]
      exact measI_m hP h0 n (by omega) (by omega)
theorem closeF_m {v : QV} {M B m : Int} {f : Int → Int} (hP : PB v M B) (hm : 0 ≤ m ∧ m < v (M + 3) B) : closeF v M B f (3 + 12 * m + 5) = valF v M B m f ∧ closeF v M B f (3 + 12 * m + 6) = 0 ∧ closeF v M B f (3 + 12 * m + 7) = 0 := by
  obtain ⟨pst, pn, pna, pf, pa⟩ := id hP
  have := measI_m (f := f) hP hm.1 (v (M + 3) B).toNat (by omega) (by omega)
  rw [closeF_eq, rwI_fr (by omega) _ (fun a a0 a1 => by omega), rwI_fr (by omega) _ (fun a a0 a1 => by omega), rwI_fr (by omega) _ (fun a a0 a1 => by omega), fu_ne (by omega), fu_ne (by omega), fu_ne (by omega)]
  exact this
theorem closeF_out {v : QV} {M B k : Int} {f : Int → Int} (hP : PB v M B) (hk : k < 0 ∨ 1095 ≤ k) : closeF v M B f k = f k := by
  obtain ⟨pst, pn, pna, pf, pa⟩ := hP
  rw [closeF_eq, rwI_fr (by omega) _ (fun a a0 a1 => by omega), fu_ne (by omega)]
  exact measI_fr pna _ (fun m m0 m1 => ⟨pf m m0 (by omega), by omega, fun a _ _ => by omega, by omega⟩)
theorem goF_out {v : QV} {M B later k : Int} {nm f : Int → Int} (hP : PB v M B) (hk : k < 0 ∨ 1095 ≤ k) : goF v M B later nm f k = f k := by
  have hn := hP.2.1
  have hs : ∀ j : Nat, ∀ g, itF (fun _ => stF v M B) j g k = g k := by
    intro j
    induction j with
    | zero => intro g; rfl
    | succ j ih =>
      intro g
      show stF v M B _ k = _
      have e := ih g
      generalize itF (fun _ => stF v M B) j g = G at *
      have ht : tkF v M B G k = G k := tkF_fr (by omega) (fun m _ _ => by omega) (by omega)
      unfold stF
      split
      · rw [closeF_out hP hk, ht, e]
      · rw [ht, e]
  unfold goF
  rw [hs, heF_fr (by omega) (by omega) (fun m _ _ => by omega)]
/-- value of a step by its sum and its known units -/
def vlV (stp sm kn : Int) : Int := if 2 * (stp - kn) < stp then sm / kn else -2147483648
/-- the numbers of a measure after d units -/
def wdQ (stp x : Int) (d : Int) : Int := (x + d) / stp - x / stp
theorem st_value {v : QV} {M B m : Int} {g : Int → Int} (hP : PB v M B) (hm : 0 ≤ m ∧ m < v (M + 3) B) {x rt : Int} (hx : g 0 = x) (hx0 : 0 ≤ x) (hrt : g (3 + 12 * m + 4) = rt) (htv : tv rt) : ∀ d : Nat, itF (fun _ => stF v M B) d g 0 = x + d ∧ itF (fun _ => stF v M B) d g (3 + 12 * m + 5) = (if wdQ (v (M + 2) B) x d = 0 then g (3 + 12 * m + 5) else if wdQ (v (M + 2) B) x d = 1 then (if rt = -2147483648 then vlV (v (M + 2) B) (g (3 + 12 * m + 6)) (g (3 + 12 * m + 7)) else vlV (v (M + 2) B) (g (3 + 12 * m + 6) + rt * (v (M + 2) B - x % v (M + 2) B)) (g (3 + 12 * m + 7) + (v (M + 2) B - x % v (M + 2) B))) else rt) ∧ itF (fun _ => stF v M B) d g (3 + 12 * m + 6) = (if wdQ (v (M + 2) B) x d = 0 then (if rt = -2147483648 then g (3 + 12 * m + 6) else g (3 + 12 * m + 6) + rt * d) else (if rt = -2147483648 then 0 else rt * ((x + d) % v (M + 2) B))) ∧ itF (fun _ => stF v M B) d g (3 + 12 * m + 7) = (if wdQ (v (M + 2) B) x d = 0 then (if rt = -2147483648 then g (3 + 12 * m + 7) else g (3 + 12 * m + 7) + d) else (if rt = -2147483648 then 0 else (x + d) % v (M + 2) B)) ∧ 0 ≤ wdQ (v (M + 2) B) x d ∧ (wdQ (v (M + 2) B) x d = 0 → (x + d) % v (M + 2) B = x % v (M + 2) B + d) := by
  obtain ⟨pst, pn, pna, pf, pa⟩ := id hP
  intro d
  induction d with
  | zero =>
    have e0 : wdQ (v (M + 2) B) x ((0 : Nat) : Int) = 0 := by unfold wdQ; rw [show x + ((0 : Nat) : Int) = x by omega]; omega
    simp only [itF, e0, if_true]
    refine ⟨by omega, trivial, ?_, ?_, Int.le_refl _, fun _ => by rw [show x + ((0 : Nat) : Int) = x by omega]; omega⟩
    · split
      · rfl
      · rw [show ((0 : Nat) : Int) = 0 from rfl, Int.mul_zero]; omega
    · split <;> omega
  | succ d ih =>
    obtain ⟨i0, i5, i6, i7, iq, ir⟩ := ih
    have hs : 0 < v (M + 2) B := by omega
    have hms := mod_s (x := x + d) hs
    have hds := div_s (x := x + d) hs
    have hb0 := Int.emod_nonneg (x + (d : Int)) (show v (M + 2) B ≠ 0 by omega)
    have hb1 := Int.emod_lt_of_pos (x + (d : Int)) hs
    have hx1 := Int.emod_nonneg x (show v (M + 2) B ≠ 0 by omega)
    have i4 : itF (fun _ => stF v M B) d g (3 + 12 * m + 4) = rt := by rw [stI_fr hP (Or.inr ⟨m, hm.1, by omega, by omega⟩) d]; exact hrt
    show stF v M B _ _ = _ ∧ stF v M B _ _ = _ ∧ stF v M B _ _ = _ ∧ stF v M B _ _ = _ ∧ _
    generalize itF (fun _ => stF v M B) d g = G at *
    obtain ⟨t6, t7⟩ := tkF_at (v := v) (M := M) (B := B) (f := G) hm
    have t0 := tkF_0 (v := v) (M := M) (B := B) (f := G)
    have t5 : tkF v M B G (3 + 12 * m + 5) = G (3 + 12 * m + 5) := tkF_fr (by omega) (fun m _ _ => by omega) (by omega)
    have ec : x + ((d + 1 : Nat) : Int) = x + d + 1 := by omega
    have eq1 : wdQ (v (M + 2) B) x ((d + 1 : Nat) : Int) = (x + d + 1) / v (M + 2) B - x / v (M + 2) B := by unfold wdQ; rw [ec]
    have eq0 : wdQ (v (M + 2) B) x (d : Int) = (x + d) / v (M + 2) B - x / v (M + 2) B := rfl
    have hcl := closeF_m (f := tkF v M B G) hP hm
    have hcl0 : closeF v M B (tkF v M B G) 0 = tkF v M B G 0 := closeF_0 hP (Or.inl rfl)
    unfold valF at hcl
    rw [i4] at t6 t7
    rw [i0] at t0
    unfold stF
    rw [t0, ec, eq1]
    generalize v (M + 2) B = p at *
    generalize wdQ p x (d : Int) = q at *
    generalize hy : (x + (d : Int)) % p = y at *
    by_cases c : y + 1 = p
    · rw [if_pos c] at hms hds
      rw [hms, if_pos rfl, hds]
      have q1 : ¬ (x + (d : Int)) / p + 1 - x / p = 0 := by omega
      rw [if_neg q1, if_neg q1, if_neg q1, hcl0, hcl.2.1, hcl.2.2, hcl.1, t0]
      refine ⟨by omega, ?_, ?_, ?_, by omega, fun z => absurd z q1⟩
      · by_cases hq : q = 0
        · rw [if_pos (show (x + (d : Int)) / p + 1 - x / p = 1 by omega)]
          rw [if_pos hq] at i6 i7
          have er := ir hq
          by_cases hu : rt = -2147483648
          · rw [if_pos hu] at t6 t7 i6 i7 ⊢
            rw [t6, t7, i6, i7]
            rfl
          · rw [if_neg hu] at t6 t7 i6 i7 ⊢
            have e1 : p - x % p = (d : Int) + 1 := by omega
            rw [t6, t7, i6, i7, e1, Int.mul_add, Int.mul_one, ← Int.add_assoc, ← Int.add_assoc]
            rfl
        · rw [if_neg (show ¬ (x + (d : Int)) / p + 1 - x / p = 1 by omega)]
          rw [if_neg hq] at i6 i7
          by_cases hu : rt = -2147483648
          · rw [if_pos hu] at t6 t7 i6 i7
            rw [t6, t7, i6, i7, if_neg (by omega), hu]
          · rw [if_neg hu] at t6 t7 i6 i7
            have e2 : rt * y + rt = rt * p := by rw [← c, Int.mul_add, Int.mul_one]
            rw [t6, t7, i6, i7, c, if_pos (by omega), e2, Int.mul_ediv_cancel _ (by omega)]
      · split
        · rfl
        · rw [Int.mul_zero]
      · split <;> rfl
    · rw [if_neg c] at hms hds
      rw [hms, if_neg (by omega), hds, ← eq0, t0, t5, t6, t7, i5, i6, i7]
      refine ⟨by omega, rfl, ?_, ?_, iq, fun z => by have := ir z; omega⟩
      · by_cases hq : q = 0
        · rw [if_pos hq, if_pos hq]
          by_cases hu : rt = -2147483648
          · rw [if_pos hu, if_pos hu, if_pos hu]
          · rw [if_neg hu, if_neg hu, if_neg hu, show ((d + 1 : Nat) : Int) = (d : Int) + 1 by omega, Int.mul_add, Int.mul_one]
            omega
        · rw [if_neg hq, if_neg hq]
          by_cases hu : rt = -2147483648
          · rw [if_pos hu, if_pos hu, if_pos hu]
          · rw [if_neg hu, if_neg hu, if_neg hu, Int.mul_add, Int.mul_one]
      · by_cases hq : q = 0
        · rw [if_pos hq, if_pos hq]
          by_cases hu : rt = -2147483648
          · rw [if_pos hu, if_pos hu, if_pos hu]
          · rw [if_neg hu, if_neg hu, if_neg hu]
            omega
        · rw [if_neg hq, if_neg hq]
          by_cases hu : rt = -2147483648
          · rw [if_pos hu, if_pos hu, if_pos hu]
          · rw [if_neg hu, if_neg hu, if_neg hu]
