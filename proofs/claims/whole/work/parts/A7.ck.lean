/-! A READING: many ticks without a step's end -/
theorem itF_add {g : (Int → Int) → (Int → Int)} {f : Int → Int} (a : Nat) : ∀ b : Nat, itF (fun _ => g) (a + b) f = itF (fun _ => g) b (itF (fun _ => g) a f)
  | 0 => rfl
  | b + 1 => by
    show g (itF (fun _ => g) (a + b) f) = g (itF (fun _ => g) b (itF (fun _ => g) a f))
    rw [itF_add a b]
theorem tkN_0 {v : QV} {M B : Int} {f : Int → Int} : ∀ u : Nat, itF (fun _ => tkF v M B) u f 0 = f 0 + u
  | 0 => by show f 0 = f 0 + ((0 : Nat) : Int); omega
  | u + 1 => by
    show tkF v M B _ 0 = _
    rw [tkF_0, tkN_0 u]
    omega
theorem tkN_fr {v : QV} {M B k : Int} {f : Int → Int} (h : k ≠ 0) (h2 : ∀ m, 0 ≤ m → m < 4 → k ≠ 3 + 12 * m + 6 ∧ k ≠ 3 + 12 * m + 7) (hn : v (M + 3) B ≤ 4) : ∀ u : Nat, itF (fun _ => tkF v M B) u f k = f k
  | 0 => rfl
  | u + 1 => by
    show tkF v M B _ k = _
    rw [tkF_fr h h2 hn, tkN_fr h h2 hn u]
theorem tkN_at {v : QV} {M B m : Int} {f : Int → Int} (hm : 0 ≤ m ∧ m < v (M + 3) B) (hn : v (M + 3) B ≤ 4) : ∀ u : Nat, itF (fun _ => tkF v M B) u f (3 + 12 * m + 6) = (if f (3 + 12 * m + 4) = -2147483648 then f (3 + 12 * m + 6) else f (3 + 12 * m + 6) + f (3 + 12 * m + 4) * u) ∧ itF (fun _ => tkF v M B) u f (3 + 12 * m + 7) = (if f (3 + 12 * m + 4) = -2147483648 then f (3 + 12 * m + 7) else f (3 + 12 * m + 7) + u)
  | 0 => by
    show f _ = _ ∧ f _ = _
    have e : ((0 : Nat) : Int) = 0 := rfl
    rw [e, Int.mul_zero]
    exact ⟨by split <;> omega, by split <;> omega⟩
  | u + 1 => by
    show tkF v M B _ _ = _ ∧ tkF v M B _ _ = _
    obtain ⟨a1, a2⟩ := tkF_at (v := v) (M := M) (B := B) (f := itF (fun _ => tkF v M B) u f) hm
    obtain ⟨b1, b2⟩ := tkN_at (f := f) hm hn u
    have b4 : itF (fun _ => tkF v M B) u f (3 + 12 * m + 4) = f (3 + 12 * m + 4) := tkN_fr (by omega) (fun m _ _ => by omega) hn u
    rw [a1, a2, b1, b2, b4]
    have em : f (3 + 12 * m + 4) * ((u + 1 : Nat) : Int) = f (3 + 12 * m + 4) * u + f (3 + 12 * m + 4) := by
      rw [show ((u + 1 : Nat) : Int) = (u : Int) + 1 by omega, Int.mul_add, Int.mul_one]
    rw [em]
    refine ⟨?_, ?_⟩ <;> split <;> omega
/-- ticks up to a step's end at most -/
theorem stN_tk {v : QV} {M B : Int} {f : Int → Int} (hs : 0 < v (M + 2) B) : ∀ u : Nat, f 0 % v (M + 2) B + u < v (M + 2) B → itF (fun _ => stF v M B) u f = itF (fun _ => tkF v M B) u f
  | 0, _ => rfl
  | u + 1, h => by
    show stF v M B _ = tkF v M B _
    rw [stN_tk hs u (by omega)]
    have h0 := Int.emod_nonneg (f 0) (show v (M + 2) B ≠ 0 by omega)
    have e : (f 0 + u + 1) % v (M + 2) B = f 0 % v (M + 2) B + u + 1 := by
      have h3 := Int.mul_ediv_add_emod (f 0) (v (M + 2) B)
      have e2 : f 0 + u + 1 = (f 0 % v (M + 2) B + u + 1) + v (M + 2) B * (f 0 / v (M + 2) B) := by omega
      rw [e2, Int.add_mul_emod_self_left]
      exact Int.emod_eq_of_lt (by omega) (by omega)
    unfold stF
    rw [tkF_0, tkN_0, e, if_neg (by omega)]
theorem stN_ck {v : QV} {M B u : Int} {f : Int → Int} (hs : 0 < v (M + 2) B) (hu : 1 ≤ u ∧ f 0 % v (M + 2) B + u ≤ v (M + 2) B) : itF (fun _ => stF v M B) u.toNat f = if f 0 % v (M + 2) B + u = v (M + 2) B then closeF v M B (itF (fun _ => tkF v M B) u.toNat f) else itF (fun _ => tkF v M B) u.toNat f := by
  by_cases c : f 0 % v (M + 2) B + u = v (M + 2) B
  · rw [if_pos c]
    obtain ⟨j, hj⟩ : ∃ j : Nat, u.toNat = j + 1 := ⟨u.toNat - 1, by omega⟩
    rw [hj]
    show stF v M B (itF (fun _ => stF v M B) j f) = closeF v M B (tkF v M B (itF (fun _ => tkF v M B) j f))
    rw [stN_tk hs j (by omega)]
    unfold stF
    have e : (f 0 + j + 1) % v (M + 2) B = 0 := by
      have h3 := Int.mul_ediv_add_emod (f 0) (v (M + 2) B)
      have e2 : f 0 + j + 1 = v (M + 2) B * (f 0 / v (M + 2) B + 1) := by rw [Int.mul_add, Int.mul_one]; omega
      rw [e2, Int.mul_emod_right]
    rw [tkF_0, tkN_0, e, if_pos rfl]
  · rw [if_neg c]
    exact stN_tk hs u.toNat (by omega)
