/-! RULES: an expression's code does what its function says -/
theorem kL_idx {κ : Nat} (h : κ ∈ kL) (cy : Nat → ClassId) : ∃ i : Nat, (tysL cy)[i]? = some (cy κ, aT κ) := by
  have h1 : (cy κ, aT κ) ∈ tysL cy := List.mem_map.mpr ⟨κ, h, rfl⟩
  obtain ⟨i, hi⟩ := List.getElem?_of_mem h1
  exact ⟨i, hi⟩
theorem vo0 (z : Int) : vo 0 z = .int (Int32.ofInt z) := rfl
theorem vo1 (z : Int) : vo 1 z = .long (Int64.ofInt z) := rfl
theorem vo3 (z : Int) : vo 3 z = .int (Int32.ofInt z) := rfl
theorem vo_i {τ : Nat} (h : τ = 0 ∨ τ = 3 ∨ τ = 4 ∨ τ = 5) (z : Int) : vo τ z = .int (Int32.ofInt z) := by
  rcases h with rfl | rfl | rfl | rfl <;> rfl
theorem ir_i {τ : Nat} (h : τ = 0 ∨ τ = 3 ∨ τ = 4 ∨ τ = 5) {z : Int} (hz : ir τ z) : ir 0 z := by
  rcases h with rfl | rfl | rfl | rfl
  · exact hz
  · exact ir_30 hz
  · exact ir_40 hz
  · exact ir_50 hz
theorem vo2 {z : Int} (h : 0 ≤ z) : vo 2 z = .ref z.toNat := by
  show (if z < 0 then Value.null else Value.ref z.toNat) = _
  rw [if_neg (by omega)]
/-- one instruction, from a stack to a stack -/
def QSt (Y : YT) (pc : Nat) (E : List Nat) (i o : List Value) : Prop := ∀ Z, MC Y Z → ∀ (Γ : List (Nat × Nat)) (L : QL) (S : QS) (v : QV) (st : List Value), (∀ t ∈ E, WX Z Y.2.2.1 Γ L S v t (o ++ st)) → WX Z Y.2.2.1 Γ L S v pc (i ++ st)
/-- the type of an expression read more widely -/
theorem okI {Y : YT} {Γ : List (Nat × Nat)} {d pc τ : Nat} {E : List Nat} {f : QE} (h : OkE Y Γ d τ pc E f) (hτ : τ = 0 ∨ τ = 3 ∨ τ = 4 ∨ τ = 5) : OkE Y Γ d 0 pc E f := by
  intro Z hC L S v r st hf hd hk
  refine h Z hC L S v r st hf hd (fun hi t ht => ?_)
  have := hk (ir_i hτ hi) t ht
  rw [vo0] at this
  rw [vo_i hτ]
  exact this
theorem okE1 {Y : YT} {Γ : List (Nat × Nat)} {d pc p1 τa τ : Nat} {E : List Nat} {a : QE} {o : Int → Int} (ha : OkE Y Γ d τa pc [p1] a) (hs : ∀ x, ir τa x → ir τ (o x) ∧ QSt Y p1 E [vo τa x] [vo τ (o x)]) : OkE Y Γ d τ pc E (e1 o a) := by
  intro Z hC L S v r st hf hd hk
  obtain ⟨x, h1, h2⟩ := Option.bind_eq_some_iff.mp hf
  cases h2
  refine ha Z hC L S v x st h1 hd (fun hi t ht => ?_)
  rw [List.mem_singleton.mp ht]
  obtain ⟨g1, g2⟩ := hs x.1 hi
  exact g2 Z hC Γ L S x.2 st (hk g1)
theorem okE2 {Y : YT} {Γ : List (Nat × Nat)} {d pc p1 p2 τa τb τ : Nat} {E : List Nat} {a b : QE} {o : Int → Int → Int} (ha : OkE Y Γ d τa pc [p1] a) (hb : OkE Y Γ (d + ct τa) τb p1 [p2] b) (hs : ∀ x y, ir τa x → ir τb y → ir τ (o x y) ∧ QSt Y p2 E [vo τb y, vo τa x] [vo τ (o x y)]) : OkE Y Γ d τ pc E (e2 o a b) := by
  intro Z hC L S v r st hf hd hk
  obtain ⟨x, h1, h2⟩ := Option.bind_eq_some_iff.mp hf
  obtain ⟨y, h3, h4⟩ := Option.bind_eq_some_iff.mp h2
  cases h4
  refine ha Z hC L S v x st h1 hd (fun hi t ht => ?_)
  rw [List.mem_singleton.mp ht]
  refine hb Z hC L S x.2 y (vo τa x.1 :: st) h3 (by simp only [cat, List.map_cons, List.sum_cons, vo_ct] at hd ⊢; omega) (fun hj t ht => ?_)
  rw [List.mem_singleton.mp ht]
  obtain ⟨g1, g2⟩ := hs x.1 y.1 hi hj
  exact g2 Z hC Γ L S y.2 st (hk g1)
theorem okED {Y : YT} {Γ : List (Nat × Nat)} {d pc p1 p2 τa τb τ : Nat} {E : List Nat} {a b : QE} {o : Int → Int → Int} (ha : OkE Y Γ d τa pc [p1] a) (hb : OkE Y Γ (d + ct τa) τb p1 [p2] b) (hs : ∀ x y, ir τa x → ir τb y → y ≠ 0 → ir τ (o x y) ∧ QSt Y p2 E [vo τb y, vo τa x] [vo τ (o x y)]) : OkE Y Γ d τ pc E (eD o a b) := by
  intro Z hC L S v r st hf hd hk
  obtain ⟨x, h1, h2⟩ := Option.bind_eq_some_iff.mp hf
  obtain ⟨y, h3, h4⟩ := Option.bind_eq_some_iff.mp h2
  by_cases hy : y.1 = 0
  · rw [if_pos hy] at h4; cases h4
  rw [if_neg hy] at h4
  cases h4
  refine ha Z hC L S v x st h1 hd (fun hi t ht => ?_)
  rw [List.mem_singleton.mp ht]
  refine hb Z hC L S x.2 y (vo τa x.1 :: st) h3 (by simp only [cat, List.map_cons, List.sum_cons, vo_ct] at hd ⊢; omega) (fun hj t ht => ?_)
  rw [List.mem_singleton.mp ht]
  obtain ⟨g1, g2⟩ := hs x.1 y.1 hi hj hy
  exact g2 Z hC Γ L S y.2 st (hk g1)
section STEPS
variable {Y : YT} {pc : Nat} {E : List Nat}
theorem s_iadd (hd : decode Y.2.1 pc = .ok (.iadd, 1)) (hE : pc + 1 ∈ E) (x y : Int) (_ : ir 0 x) (_ : ir 0 y) : ir 0 (iA x y) ∧ QSt Y pc E [vo 0 y, vo 0 x] [vo 0 (iA x y)] := by
  refine ⟨w32_ir _, ?_⟩
  rintro ⟨p, l, e, R, s, m, args, below, meth, c, D, cy, A, H0, Q, cells, slots⟩ ⟨hx, hb, -⟩ Γ L S v st hk H locs ls h1 h2 h3
  refine lv_iadd hx hb hd ?_
  rw [i_add]
  exact hk _ hE H locs ls h1 h2 h3
theorem s_isub (hd : decode Y.2.1 pc = .ok (.isub, 1)) (hE : pc + 1 ∈ E) (x y : Int) (_ : ir 0 x) (_ : ir 0 y) : ir 0 (iS x y) ∧ QSt Y pc E [vo 0 y, vo 0 x] [vo 0 (iS x y)] := by
  refine ⟨w32_ir _, ?_⟩
  rintro ⟨p, l, e, R, s, m, args, below, meth, c, D, cy, A, H0, Q, cells, slots⟩ ⟨hx, hb, -⟩ Γ L S v st hk H locs ls h1 h2 h3
  refine lv_isub hx hb hd ?_
  rw [i_sub]
  exact hk _ hE H locs ls h1 h2 h3
theorem s_imul (hd : decode Y.2.1 pc = .ok (.imul, 1)) (hE : pc + 1 ∈ E) (x y : Int) (_ : ir 0 x) (_ : ir 0 y) : ir 0 (iM x y) ∧ QSt Y pc E [vo 0 y, vo 0 x] [vo 0 (iM x y)] := by
  refine ⟨w32_ir _, ?_⟩
  rintro ⟨p, l, e, R, s, m, args, below, meth, c, D, cy, A, H0, Q, cells, slots⟩ ⟨hx, hb, -⟩ Γ L S v st hk H locs ls h1 h2 h3
  refine lv_imul hx hb hd ?_
  rw [i_mul]
  exact hk _ hE H locs ls h1 h2 h3
theorem s_ladd (hd : decode Y.2.1 pc = .ok (.ladd, 1)) (hE : pc + 1 ∈ E) (x y : Int) (_ : ir 1 x) (_ : ir 1 y) : ir 1 (lA x y) ∧ QSt Y pc E [vo 1 y, vo 1 x] [vo 1 (lA x y)] := by
  refine ⟨w64_ir _, ?_⟩
  rintro ⟨p, l, e, R, s, m, args, below, meth, c, D, cy, A, H0, Q, cells, slots⟩ ⟨hx, hb, -⟩ Γ L S v st hk H locs ls h1 h2 h3
  refine lv_ladd hx hb hd ?_
  rw [l_add]
  exact hk _ hE H locs ls h1 h2 h3
theorem s_lsub (hd : decode Y.2.1 pc = .ok (.lsub, 1)) (hE : pc + 1 ∈ E) (x y : Int) (_ : ir 1 x) (_ : ir 1 y) : ir 1 (lS x y) ∧ QSt Y pc E [vo 1 y, vo 1 x] [vo 1 (lS x y)] := by
  refine ⟨w64_ir _, ?_⟩
  rintro ⟨p, l, e, R, s, m, args, below, meth, c, D, cy, A, H0, Q, cells, slots⟩ ⟨hx, hb, -⟩ Γ L S v st hk H locs ls h1 h2 h3
  refine lv_lsub hx hb hd ?_
  rw [l_sub]
  exact hk _ hE H locs ls h1 h2 h3
theorem s_lmul (hd : decode Y.2.1 pc = .ok (.lmul, 1)) (hE : pc + 1 ∈ E) (x y : Int) (_ : ir 1 x) (_ : ir 1 y) : ir 1 (lM x y) ∧ QSt Y pc E [vo 1 y, vo 1 x] [vo 1 (lM x y)] := by
  refine ⟨w64_ir _, ?_⟩
  rintro ⟨p, l, e, R, s, m, args, below, meth, c, D, cy, A, H0, Q, cells, slots⟩ ⟨hx, hb, -⟩ Γ L S v st hk H locs ls h1 h2 h3
  refine lv_lmul hx hb hd ?_
  rw [l_mul]
  exact hk _ hE H locs ls h1 h2 h3
theorem i_z {y : Int} (h : ir 0 y) (hy : y ≠ 0) : ¬ Int32.ofInt y = 0 := fun e => hy ((i_eqI h (show ir 0 0 from ⟨by omega, by omega⟩)).mp e)
theorem l_z {y : Int} (h : ir 1 y) (hy : y ≠ 0) : ¬ Int64.ofInt y = 0 := fun e => hy ((l_eqI h (show ir 1 0 from ⟨by omega, by omega⟩)).mp e)
theorem s_idiv (hd : decode Y.2.1 pc = .ok (.idiv, 1)) (hE : pc + 1 ∈ E) (x y : Int) (ix : ir 0 x) (iy : ir 0 y) (ny : y ≠ 0) : ir 0 (iD x y) ∧ QSt Y pc E [vo 0 y, vo 0 x] [vo 0 (iD x y)] := by
  refine ⟨w32_ir _, ?_⟩
  rintro ⟨p, l, e, R, s, m, args, below, meth, c, D, cy, A, H0, Q, cells, slots⟩ ⟨hx, hb, -⟩ Γ L S v st hk H locs ls h1 h2 h3
  refine lv_idiv hx hb hd (i_z iy ny) ?_
  rw [i_div ix iy, ← i_w]
  exact hk _ hE H locs ls h1 h2 h3
theorem s_irem (hd : decode Y.2.1 pc = .ok (.irem, 1)) (hE : pc + 1 ∈ E) (x y : Int) (ix : ir 0 x) (iy : ir 0 y) (ny : y ≠ 0) : ir 0 (iR x y) ∧ QSt Y pc E [vo 0 y, vo 0 x] [vo 0 (iR x y)] := by
  refine ⟨w32_ir _, ?_⟩
  rintro ⟨p, l, e, R, s, m, args, below, meth, c, D, cy, A, H0, Q, cells, slots⟩ ⟨hx, hb, -⟩ Γ L S v st hk H locs ls h1 h2 h3
  refine lv_irem hx hb hd (i_z iy ny) ?_
  rw [i_rem ix iy, ← i_w]
  exact hk _ hE H locs ls h1 h2 h3
theorem s_ldiv (hd : decode Y.2.1 pc = .ok (.ldiv, 1)) (hE : pc + 1 ∈ E) (x y : Int) (ix : ir 1 x) (iy : ir 1 y) (ny : y ≠ 0) : ir 1 (lD x y) ∧ QSt Y pc E [vo 1 y, vo 1 x] [vo 1 (lD x y)] := by
  refine ⟨w64_ir _, ?_⟩
  rintro ⟨p, l, e, R, s, m, args, below, meth, c, D, cy, A, H0, Q, cells, slots⟩ ⟨hx, hb, -⟩ Γ L S v st hk H locs ls h1 h2 h3
  refine lv_ldiv hx hb hd (l_z iy ny) ?_
  rw [l_div ix iy, ← l_w]
  exact hk _ hE H locs ls h1 h2 h3
theorem s_lrem (hd : decode Y.2.1 pc = .ok (.lrem, 1)) (hE : pc + 1 ∈ E) (x y : Int) (ix : ir 1 x) (iy : ir 1 y) (ny : y ≠ 0) : ir 1 (lR x y) ∧ QSt Y pc E [vo 1 y, vo 1 x] [vo 1 (lR x y)] := by
  refine ⟨w64_ir _, ?_⟩
  rintro ⟨p, l, e, R, s, m, args, below, meth, c, D, cy, A, H0, Q, cells, slots⟩ ⟨hx, hb, -⟩ Γ L S v st hk H locs ls h1 h2 h3
  refine lv_lrem hx hb hd (l_z iy ny) ?_
  rw [l_rem ix iy, ← l_w]
  exact hk _ hE H locs ls h1 h2 h3
theorem s_ineg (hd : decode Y.2.1 pc = .ok (.ineg, 1)) (hE : pc + 1 ∈ E) (x : Int) (_ : ir 0 x) : ir 0 (iN x) ∧ QSt Y pc E [vo 0 x] [vo 0 (iN x)] := by
  refine ⟨w32_ir _, ?_⟩
  rintro ⟨p, l, e, R, s, m, args, below, meth, c, D, cy, A, H0, Q, cells, slots⟩ ⟨hx, hb, -⟩ Γ L S v st hk H locs ls h1 h2 h3
  refine lv_ineg hx hb hd ?_
  rw [← Int32.ofInt_neg, ← i_w]
  exact hk _ hE H locs ls h1 h2 h3
theorem s_l2i (hd : decode Y.2.1 pc = .ok (.l2i, 1)) (hE : pc + 1 ∈ E) (x : Int) (ix : ir 1 x) : ir 0 (w32 x) ∧ QSt Y pc E [vo 1 x] [vo 0 (w32 x)] := by
  refine ⟨w32_ir _, ?_⟩
  rintro ⟨p, l, e, R, s, m, args, below, meth, c, D, cy, A, H0, Q, cells, slots⟩ ⟨hx, hb, -⟩ Γ L S v st hk H locs ls h1 h2 h3
  refine lv_l2i hx hb hd (l_i x ix) ?_
  rw [← i_w]
  exact hk _ hE H locs ls h1 h2 h3
end STEPS
/-- int to long: the same number -/
theorem okL {Y : YT} {Γ : List (Nat × Nat)} {d pc p1 : Nat} {E : List Nat} {a : QE} (ha : OkE Y Γ d 0 pc [p1] a) (hd : decode Y.2.1 p1 = .ok (.i2l, 1)) (hE : p1 + 1 ∈ E) : OkE Y Γ d 1 pc E a := by
  intro Z hC L S v r st hf hdd hk
  refine ha Z hC L S v r st hf hdd (fun hi t ht => ?_)
  rw [List.mem_singleton.mp ht]
  have hk := hk (ir_0l hi) _ hE
  obtain ⟨p, l, e, R, s, m, args, below, meth, c, D, cy, A, H0, Q, cells, slots⟩ := Z
  obtain ⟨hx, hb, -⟩ := hC
  intro H locs ls h1 h2 h3
  exact lv_i2l hx hb hd (i_l hi) (hk H locs ls h1 h2 h3)
/-- a number -/
theorem ok_iconst {Y : YT} {Γ : List (Nat × Nat)} {d pc : Nat} {E : List Nat} {n : Int} (hd : decode Y.2.1 pc = .ok (.iconst n, 1)) (hE : pc + 1 ∈ E) (hn : ir 0 n) : OkE Y Γ d 0 pc E (eI n) := by
  intro Z hC L S v r st hf hdd hk
  cases hf
  have hk := hk hn _ hE
  obtain ⟨p, l, e, R, s, m, args, below, meth, c, D, cy, A, H0, Q, cells, slots⟩ := Z
  obtain ⟨hx, hb, -⟩ := hC
  intro H locs ls h1 h2 h3
  exact lv_iconst hx hb hd rfl (hk H locs ls h1 h2 h3)
theorem ok_bipush {Y : YT} {Γ : List (Nat × Nat)} {d pc : Nat} {E : List Nat} {n : Int} (hd : decode Y.2.1 pc = .ok (.bipush n, 2)) (hE : pc + 2 ∈ E) (hn : ir 4 n) : OkE Y Γ d 0 pc E (eI n) := by
  intro Z hC L S v r st hf hdd hk
  cases hf
  have hk := hk (ir_40 hn) _ hE
  obtain ⟨p, l, e, R, s, m, args, below, meth, c, D, cy, A, H0, Q, cells, slots⟩ := Z
  obtain ⟨hx, hb, -⟩ := hC
  intro H locs ls h1 h2 h3
  refine lv_bipush hx hb hd ?_ (hk H locs ls h1 h2 h3)
  apply Int32.toInt_inj.mp
  have hn2 : _ ∧ _ := hn
  rw [i_toInt (ir_40 hn), Int8.toInt_toInt32, Int8.toInt_ofInt_of_le (by omega) (by omega)]
theorem ok_sipush {Y : YT} {Γ : List (Nat × Nat)} {d pc : Nat} {E : List Nat} {n : Int} (hd : decode Y.2.1 pc = .ok (.sipush n, 3)) (hE : pc + 3 ∈ E) (hn : -32768 ≤ n ∧ n < 32768) : OkE Y Γ d 0 pc E (eI n) := by
  intro Z hC L S v r st hf hdd hk
  cases hf
  have hn2 : ir 0 n := by show _ ∧ _; omega
  have hk := hk hn2 _ hE
  obtain ⟨p, l, e, R, s, m, args, below, meth, c, D, cy, A, H0, Q, cells, slots⟩ := Z
  obtain ⟨hx, hb, -⟩ := hC
  intro H locs ls h1 h2 h3
  refine lv_sipush hx hb hd ?_ (hk H locs ls h1 h2 h3)
  apply Int32.toInt_inj.mp
  rw [i_toInt hn2, Int16.toInt_toInt32, Int16.toInt_ofInt_of_le (by omega) (by omega)]
theorem ok_ldc {Y : YT} {Γ : List (Nat × Nat)} {d pc idx : Nat} {E : List Nat} {n : Int} {x : Int32} (hw : Cond.constant Y.1 idx x ∈ TW) (hx0 : x.toInt = n) (hd : decode Y.2.1 pc = .ok (.ldc idx, 2)) (hE : pc + 2 ∈ E) : OkE Y Γ d 0 pc E (eI n) := by
  intro Z hC L S v r st hf hdd hk
  cases hf
  subst hx0
  have hk := hk (i_of x) _ hE
  obtain ⟨own, cc, nL, fr, lo, τr⟩ := Y
  obtain ⟨p, l, e, R, s, m, args, below, meth, c, D, cy, A, H0, Q, cells, slots⟩ := Z
  obtain ⟨hx, hb, -, ho, hts, -⟩ := hC
  intro H locs ls h1 h2 h3
  refine lv_ldc hx hb ho (hts _ hw) hd ?_
  have hk := hk H locs ls h1 h2 h3
  rw [vo0, Int32.ofInt_toInt] at hk
  exact hk
theorem ok_ldcw {Y : YT} {Γ : List (Nat × Nat)} {d pc idx : Nat} {E : List Nat} {n : Int} {x : Int32} (hw : Cond.constant Y.1 idx x ∈ TW) (hx0 : x.toInt = n) (hd : decode Y.2.1 pc = .ok (.ldc_w idx, 3)) (hE : pc + 3 ∈ E) : OkE Y Γ d 0 pc E (eI n) := by
  intro Z hC L S v r st hf hdd hk
  cases hf
  subst hx0
  have hk := hk (i_of x) _ hE
  obtain ⟨own, cc, nL, fr, lo, τr⟩ := Y
  obtain ⟨p, l, e, R, s, m, args, below, meth, c, D, cy, A, H0, Q, cells, slots⟩ := Z
  obtain ⟨hx, hb, -, ho, hts, -⟩ := hC
  intro H locs ls h1 h2 h3
  refine lv_ldcw hx hb ho (hts _ hw) hd ?_
  have hk := hk H locs ls h1 h2 h3
  rw [vo0, Int32.ofInt_toInt] at hk
  exact hk
theorem ok_ldc2 {Y : YT} {Γ : List (Nat × Nat)} {d pc idx : Nat} {E : List Nat} {n : Int} {x : Int64} (hw : Cond.constantLong Y.1 idx x ∈ TW) (hx0 : x.toInt = n) (hd : decode Y.2.1 pc = .ok (.ldc2_w idx, 3)) (hE : pc + 3 ∈ E) : OkE Y Γ d 1 pc E (eI n) := by
  intro Z hC L S v r st hf hdd hk
  cases hf
  subst hx0
  have hk := hk (l_of x) _ hE
  obtain ⟨own, cc, nL, fr, lo, τr⟩ := Y
  obtain ⟨p, l, e, R, s, m, args, below, meth, c, D, cy, A, H0, Q, cells, slots⟩ := Z
  obtain ⟨hx, hb, -, ho, hts, -⟩ := hC
  intro H locs ls h1 h2 h3
  refine lv_ldc2 hx hb ho (hts _ hw) hd ?_
  have hk := hk H locs ls h1 h2 h3
  rw [vo1, Int64.ofInt_toInt] at hk
  exact hk
theorem ok_lconst0 {Y : YT} {Γ : List (Nat × Nat)} {d pc : Nat} {E : List Nat} (hd : decode Y.2.1 pc = .ok (.lconst 0, 1)) (hE : pc + 1 ∈ E) : OkE Y Γ d 1 pc E (eI 0) := by
  intro Z hC L S v r st hf hdd hk
  cases hf
  have hk := hk (by show _ ∧ _; omega) _ hE
  obtain ⟨p, l, e, R, s, m, args, below, meth, c, D, cy, A, H0, Q, cells, slots⟩ := Z
  obtain ⟨hx, hb, -⟩ := hC
  intro H locs ls h1 h2 h3
  exact lv_lconst hx hb hd rfl (hk H locs ls h1 h2 h3)
theorem ok_lconst1 {Y : YT} {Γ : List (Nat × Nat)} {d pc : Nat} {E : List Nat} (hd : decode Y.2.1 pc = .ok (.lconst 1, 1)) (hE : pc + 1 ∈ E) : OkE Y Γ d 1 pc E (eI 1) := by
  intro Z hC L S v r st hf hdd hk
  cases hf
  have hk := hk (by show _ ∧ _; omega) _ hE
  obtain ⟨p, l, e, R, s, m, args, below, meth, c, D, cy, A, H0, Q, cells, slots⟩ := Z
  obtain ⟨hx, hb, -⟩ := hC
  intro H locs ls h1 h2 h3
  exact lv_lconst hx hb hd rfl (hk H locs ls h1 h2 h3)
/-- a local -/
theorem ok_iload_n {Y : YT} {Γ : List (Nat × Nat)} {d pc k τ : Nat} {i : Fin 4} {E : List Nat} (hd : decode Y.2.1 pc = .ok (.iload_n i, 1)) (hE : pc + 1 ∈ E) (hk : (i : Nat) = k) (hm : (k, τ) ∈ Γ) (hτ : τ = 0 ∨ τ = 3 ∨ τ = 4 ∨ τ = 5) : OkE Y Γ d τ pc E (eV k) := by
  intro Z hC L S v r st hf hdd hkk
  cases hf
  obtain ⟨p, l, e, R, s, m, args, below, meth, c, D, cy, A, H0, Q, cells, slots⟩ := Z
  obtain ⟨hx, hb, -⟩ := hC
  intro H locs ls h1 h2 h3
  obtain ⟨g1, g2⟩ := h1.2.2 _ hm
  have hkk := hkk g1 _ hE H locs ls h1 h2 h3
  rw [vo_i hτ] at g2 hkk
  exact lv_iload_n hx hb hd hk g2 hkk
theorem ok_iload {Y : YT} {Γ : List (Nat × Nat)} {d pc k τ : Nat} {E : List Nat} (hd : decode Y.2.1 pc = .ok (.iload k, 2)) (hE : pc + 2 ∈ E) (hm : (k, τ) ∈ Γ) (hτ : τ = 0 ∨ τ = 3 ∨ τ = 4 ∨ τ = 5) : OkE Y Γ d τ pc E (eV k) := by
  intro Z hC L S v r st hf hdd hkk
  cases hf
  obtain ⟨p, l, e, R, s, m, args, below, meth, c, D, cy, A, H0, Q, cells, slots⟩ := Z
  obtain ⟨hx, hb, -⟩ := hC
  intro H locs ls h1 h2 h3
  obtain ⟨g1, g2⟩ := h1.2.2 _ hm
  have hkk := hkk g1 _ hE H locs ls h1 h2 h3
  rw [vo_i hτ] at g2 hkk
  exact lv_iload hx hb hd g2 hkk
theorem ok_lload_n {Y : YT} {Γ : List (Nat × Nat)} {d pc k : Nat} {i : Fin 4} {E : List Nat} (hd : decode Y.2.1 pc = .ok (.lload_n i, 1)) (hE : pc + 1 ∈ E) (hk : (i : Nat) = k) (hm : (k, 1) ∈ Γ) : OkE Y Γ d 1 pc E (eV k) := by
  intro Z hC L S v r st hf hdd hkk
  cases hf
  obtain ⟨p, l, e, R, s, m, args, below, meth, c, D, cy, A, H0, Q, cells, slots⟩ := Z
  obtain ⟨hx, hb, -⟩ := hC
  intro H locs ls h1 h2 h3
  obtain ⟨g1, g2⟩ := h1.2.2 _ hm
  exact lv_lload_n hx hb hd hk g2 (hkk g1 _ hE H locs ls h1 h2 h3)
theorem ok_lload {Y : YT} {Γ : List (Nat × Nat)} {d pc k : Nat} {E : List Nat} (hd : decode Y.2.1 pc = .ok (.lload k, 2)) (hE : pc + 2 ∈ E) (hm : (k, 1) ∈ Γ) : OkE Y Γ d 1 pc E (eV k) := by
  intro Z hC L S v r st hf hdd hkk
  cases hf
  obtain ⟨p, l, e, R, s, m, args, below, meth, c, D, cy, A, H0, Q, cells, slots⟩ := Z
  obtain ⟨hx, hb, -⟩ := hC
  intro H locs ls h1 h2 h3
  obtain ⟨g1, g2⟩ := h1.2.2 _ hm
  exact lv_lload hx hb hd g2 (hkk g1 _ hE H locs ls h1 h2 h3)
theorem ok_aload_n {Y : YT} {Γ : List (Nat × Nat)} {d pc k : Nat} {i : Fin 4} {E : List Nat} (hd : decode Y.2.1 pc = .ok (.aload_n i, 1)) (hE : pc + 1 ∈ E) (hk : (i : Nat) = k) (hm : (k, 2) ∈ Γ) : OkE Y Γ d 2 pc E (eV k) := by
  intro Z hC L S v r st hf hdd hkk
  cases hf
  obtain ⟨p, l, e, R, s, m, args, below, meth, c, D, cy, A, H0, Q, cells, slots⟩ := Z
  obtain ⟨hx, hb, -⟩ := hC
  intro H locs ls h1 h2 h3
  obtain ⟨g1, g2⟩ := h1.2.2 _ hm
  have hkk := hkk g1 _ hE H locs ls h1 h2 h3
  by_cases hz : L k < 0
  · have e1 : vo 2 (L k) = .null := if_pos hz
    rw [e1] at g2 hkk
    exact lv_aload_nN hx hb hd hk g2 hkk
  · have e1 : vo 2 (L k) = .ref (L k).toNat := if_neg hz
    rw [e1] at g2 hkk
    exact lv_aload_n hx hb hd hk g2 hkk
theorem ok_aload {Y : YT} {Γ : List (Nat × Nat)} {d pc k : Nat} {E : List Nat} (hd : decode Y.2.1 pc = .ok (.aload k, 2)) (hE : pc + 2 ∈ E) (hm : (k, 2) ∈ Γ) : OkE Y Γ d 2 pc E (eV k) := by
  intro Z hC L S v r st hf hdd hkk
  cases hf
  obtain ⟨p, l, e, R, s, m, args, below, meth, c, D, cy, A, H0, Q, cells, slots⟩ := Z
  obtain ⟨hx, hb, -⟩ := hC
  intro H locs ls h1 h2 h3
  obtain ⟨g1, g2⟩ := h1.2.2 _ hm
  have hkk := hkk g1 _ hE H locs ls h1 h2 h3
  by_cases hz : L k < 0
  · have e1 : vo 2 (L k) = .null := if_pos hz
    rw [e1] at g2 hkk
    exact lv_aloadN hx hb hd g2 hkk
  · have e1 : vo 2 (L k) = .ref (L k).toNat := if_neg hz
    rw [e1] at g2 hkk
    exact lv_aload hx hb hd g2 hkk
