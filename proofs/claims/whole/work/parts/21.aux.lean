/-! small rows for the printed proofs -/
theorem irn {n : Int} (h1 : -2147483648 ≤ n) (h2 : n < 2147483648) : ir 0 n := ⟨h1, h2⟩
theorem irn4 {n : Int} (h1 : -128 ≤ n) (h2 : n < 128) : ir 4 n := ⟨h1, h2⟩
theorem t_0 : 0 = 0 ∨ 0 = 3 ∨ 0 = 4 ∨ 0 = 5 := Or.inl rfl
theorem t_3 : 3 = 0 ∨ 3 = 3 ∨ 3 = 4 ∨ 3 = 5 := Or.inr (Or.inl rfl)
theorem t_4 : 4 = 0 ∨ 4 = 3 ∨ 4 = 4 ∨ 4 = 5 := Or.inr (Or.inr (Or.inl rfl))
theorem t_5 : 5 = 0 ∨ 5 = 3 ∨ 5 = 4 ∨ 5 = 5 := Or.inr (Or.inr (Or.inr rfl))
theorem nq_eq (x y : Int) : qne x y = !qeq x y := rfl
theorem nq_ne (x y : Int) : qeq x y = !qne x y := by simp [qeq, qne]
theorem nq_lt (x y : Int) : qge x y = !qlt x y := rfl
theorem nq_ge (x y : Int) : qlt x y = !qge x y := by simp [qlt, qge]
theorem nq_gt (x y : Int) : qle x y = !qgt x y := rfl
theorem nq_le (x y : Int) : qgt x y = !qle x y := by simp [qgt, qle]
theorem ok_zconst {Y : YT} {Γ : List (Nat × Nat)} {d pc : Nat} {E : List Nat} {n : Int} (hd : decode Y.2.1 pc = .ok (.iconst n, 1)) (hE : pc + 1 ∈ E) (hn : 0 ≤ n ∧ n ≤ 1) : OkE Y Γ d 3 pc E (eI n) := by
  intro Z hC L S v r st hf hdd hk
  cases hf
  have hk := hk hn _ hE
  obtain ⟨p, l, e, R, s, m, args, below, meth, c, D, cy, A, H0, Q, cells, slots⟩ := Z
  obtain ⟨hx, hb, -⟩ := hC
  intro H locs ls h1 h2 h3
  exact lv_iconst hx hb hd rfl (hk H locs ls h1 h2 h3)
/-- the text of the words, by its signs -/
def wdL : List Int := [115, 116, 101, 112, 32, 109, 101, 97, 115, 117, 114, 101, 32, 103, 97, 117, 103, 101, 32, 97, 109, 111, 117, 110, 116, 32, 99, 111, 117, 110, 116, 101, 114, 32, 115, 105, 108, 101, 110, 99, 101, 32, 108, 101, 97, 115, 116, 32, 109, 111, 115, 116, 32, 97, 114, 99, 104, 105, 118, 101, 32, 109, 101, 97, 110, 32, 108, 97, 116, 101, 115, 116, 32, 98, 121, 32, 115, 104, 97, 114, 101, 32, 102, 111, 114, 101, 99, 97, 115, 116, 32, 115, 101, 97, 115, 111, 110, 32, 98, 97, 110, 100, 32, 115, 104, 111, 119, 32, 111, 114, 32]
def eSL : QE := fun _ _ v => some (111, v)
def eSA (i : QE) : QE := fun L S v => (i L S v).bind fun r => if 0 ≤ r.1 ∧ r.1 < 111 then some (wdL.getD r.1.toNat 0, r.2) else none
theorem okStrLen {Y : YT} {Γ : List (Nat × Nat)} {d pc idx : Nat} {E : List Nat} (hfr : 6 ≤ Y.2.2.2.1) (hlo : 160 ≤ Y.2.2.2.2.1) (hd : decode Y.2.1 pc = .ok (.ldc 57, 2)) (hd2 : decode Y.2.1 (pc + 2) = .ok (.invokevirtual idx, 3)) (hE : pc + 5 ∈ E) : OkE Y Γ d 0 pc E eSL := sorry
theorem okStrAt {Y : YT} {Γ : List (Nat × Nat)} {d pc p1 idx : Nat} {E : List Nat} {i : QE} (hi : OkE Y Γ (d + 1) 0 (pc + 2) [p1] i) (h8 : d ≤ 8) (hfr : 6 ≤ Y.2.2.2.1) (hlo : 160 ≤ Y.2.2.2.2.1) (hd : decode Y.2.1 pc = .ok (.ldc 57, 2)) (hd2 : decode Y.2.1 p1 = .ok (.invokevirtual idx, 3)) (hE : p1 + 3 ∈ E) : OkE Y Γ d 5 pc E (eSA i) := sorry
