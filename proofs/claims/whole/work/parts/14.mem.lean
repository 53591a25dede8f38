/-! RULES: fields, arrays, shifts, tests, choices -/
def CI (ci : Nat) (C : String) (T : u_T) (N : Nat) (ty : Nat → FieldType) : Prop := vwCl[ci]? = some (C, T, N) ∧ ci ≤ 12 ∧ (∀ w ∈ u_ws C T N, w ∈ TW) ∧ (∀ k, k < N → parseFieldDescriptor (T k).2.2.1 = some (ty k)) ∧ (∀ a, a < N → ∀ b, b < N → a ≠ b → (T a).2.1 ≠ (T b).2.1) ∧ tyA ci = ty
theorem ci_0 : CI 0 RX0 TX0 4 tyX0 := ⟨rfl, by decide, in_X0, tyX0_ok, nmX0, rfl⟩
theorem ci_1 : CI 1 RX1 TX1 9 tyX1 := ⟨rfl, by decide, in_X1, tyX1_ok, nmX1, rfl⟩
theorem ci_2 : CI 2 RX2 TX2 11 tyX2 := ⟨rfl, by decide, in_X2, tyX2_ok, nmX2, rfl⟩
theorem ci_3 : CI 3 RX3 TX3 10 tyX3 := ⟨rfl, by decide, in_X3, tyX3_ok, nmX3, rfl⟩
theorem ci_4 : CI 4 RX4 TX4 8 tyX4 := ⟨rfl, by decide, in_X4, tyX4_ok, nmX4, rfl⟩
theorem ci_5 : CI 5 RX5 TX5 10 tyX5 := ⟨rfl, by decide, in_X5, tyX5_ok, nmX5, rfl⟩
theorem ci_6 : CI 6 RX6 TX6 6 tyX6 := ⟨rfl, by decide, in_X6, tyX6_ok, nmX6, rfl⟩
theorem ci_7 : CI 7 RX7 TX7 2 tyX7 := ⟨rfl, by decide, in_X7, tyX7_ok, nmX7, rfl⟩
theorem ci_8 : CI 8 RX8 TX8 5 tyX8 := ⟨rfl, by decide, in_X8, tyX8_ok, nmX8, rfl⟩
theorem ci_9 : CI 9 RX9 TX9 6 tyX9 := ⟨rfl, by decide, in_X9, tyX9_ok, nmX9, rfl⟩
theorem ci_10 : CI 10 RX10 TX10 6 tyX10 := ⟨rfl, by decide, in_X10, tyX10_ok, nmX10, rfl⟩
theorem ci_11 : CI 11 RX11 TX11 14 tyX11 := ⟨rfl, by decide, in_X11, tyX11_ok, nmX11, rfl⟩
theorem ci_12 : CI 12 RX12 TX12 60 tyX12 := ⟨rfl, by decide, in_X12, tyX12_ok, nmX12, rfl⟩
/-- what the heap says of an object of a class -/
theorem cOk_obj {D : va_G} {cy : Nat → ClassId} {ci : Nat} {n : Int} {f : Int → Int} {a : Nat} {H : Heap} {C : String} {T : u_T} {N : Nat} {ty : Nat → FieldType} (hI : CI ci C T N ty) (h : cOk D cy (ci + 1) n f a H) : (∀ k : Nat, k < N → ir (cτ ci k) (f k)) ∧ t_OB a (D.1 ci) N (D.2 ci) H (fun k => vo (cτ ci k) (f k)) := by
  rcases h with ⟨-, q, h2, h3, h4⟩ | ⟨h1, -⟩ | ⟨h1, -⟩
  · rw [Nat.add_sub_cancel] at h2 h3 h4
    have e := h2.symm.trans hI.1
    cases e
    exact ⟨h3, h4⟩
  · have := hI.2.1
    omega
  · have := hI.2.1
    omega
theorem cOk_arr {D : va_G} {cy : Nat → ClassId} {κ : Nat} {n : Int} {f : Int → Int} {a : Nat} {H : Heap} (hκ : 20 ≤ κ) (h : cOk D cy κ n f a H) : κ ∈ kL ∧ 0 ≤ n ∧ n < 2147483648 ∧ (∀ k : Nat, (k : Int) < n → ir (eτ κ) (f k)) ∧ H[a]? = some (arrV (cy κ) n.toNat (fun k => vo (eτ κ) (f k))) := by
  rcases h with ⟨h1, -⟩ | ⟨-, h⟩ | ⟨h1, -⟩
  · omega
  · exact h
  · omega
theorem xx_in {i : Int} {n : Nat} (h : ir 0 i) (h0 : 0 ≤ i) (h1 : i < n) : ¬ (Int32.ofInt i < 0 ∨ n ≤ (Int32.ofInt i).toNatClampNeg) := by
  rw [i_nat h, show (0 : Int32) = Int32.ofInt 0 from rfl, i_ltI h (show ir 0 0 from ⟨by omega, by omega⟩)]
  omega
theorem okF {τ : Nat} {kk : Int} {Y : YT} {Γ : List (Nat × Nat)} {d pc p1 ci idx k N : Nat} {E : List Nat} {f : QE} {C : String} {T : u_T} {ty : Nat → FieldType} (he : OkE Y Γ d 2 pc [p1] f) (hI : CI ci C T N ty) (hk : k < N) (hw : Cond.fieldLink Y.1 idx (T k).1 (T k).2.1 (T k).2.2.1 ∈ TW) (hd : decode Y.2.1 p1 = .ok (.getfield idx, 3)) (hE : p1 + 3 ∈ E) (hτ : cτ ci k = τ) (hkk0 : (k : Int) = kk) : OkE Y Γ d τ pc E (eF ci kk f) := by
  subst hτ
  subst hkk0
  intro Z hC L S v r st hf hdd hkk
  obtain ⟨x, h1, h2⟩ := Option.bind_eq_some_iff.mp hf
  by_cases hx : S.1 x.1 = ci + 1
  · rw [if_pos hx] at h2
    cases h2
    refine he Z hC L S v x st h1 hdd (fun hi t ht => ?_)
    rw [List.mem_singleton.mp ht]
    obtain ⟨own, cc, nL, fr, lo, τr⟩ := Y
    obtain ⟨p, l, e, R, s, m, args, below, meth, c, D, cy, A, H0, Q, cells, slots⟩ := Z
    obtain ⟨hx0, hb, -, ho, hts, -, -, -, -, -, hW, -⟩ := hC
    intro H locs ls g1 g2 g3
    obtain ⟨q1, q2, q3⟩ := g2.2 x.1 (by rw [hx]; omega)
    rw [hx] at q3
    obtain ⟨q4, cell, q5, q6, q7, q8⟩ := cOk_obj hI q3
    have hkk := hkk (q4 k hk) _ hE H locs ls g1 g2 g3
    obtain ⟨hS, hfc, kC, hkC, hkind⟩ := hW.1.1 ci _ hI.1
    obtain ⟨cf, kf, fi, ff, hi2, hsl⟩ := hS k hk
    rw [vo2 q1]
    have hts2 : ∀ w ∈ u_ws C T N, w.before args s = true := fun w hw => hts w (hI.2.2.1 w hw)
    refine W.getf hx0 hb ho (hts _ hw) hi2 (u_facts hfc hkC (u_lays hts2 (fun w h => h) hk) hi2).1 q5 (by rw [q7]; exact fun h => by cases h) (v := vo (cτ ci k) (x.2 x.1 k)) ?_ rfl rfl hd hkk
    rw [hsl, q8 k hk]
  · rw [if_neg hx] at h2; cases h2
/-- the place that a pair of expressions names -/
theorem okA0 {Y : YT} {Γ : List (Nat × Nat)} {d pc p1 p2 κ : Nat} {E : List Nat} {a i : QE} (ha : OkE Y Γ d 2 pc [p1] a) (hi : OkE Y Γ (d + 1) 0 p1 [p2] i) {τ : Nat}
    (hst : ∀ Z, MC Y Z → ∀ (L : QL) (S : QS) (v : QV) (st : List Value) (x y : Int), ir 0 y → S.1 x = κ → 0 ≤ y → y < S.2.1 x → (ir τ (v x y) → ∀ t ∈ E, WX Z Y.2.2.1 Γ L S v t (vo τ (v x y) :: st)) → WX Z Y.2.2.1 Γ L S v p2 (vo 0 y :: vo 2 x :: st)) : OkE Y Γ d τ pc E (eA κ a i) := by
  intro Z hC L S v r st hf hd hk
  obtain ⟨x, h1, h2⟩ := Option.bind_eq_some_iff.mp hf
  obtain ⟨y, h3, h4⟩ := Option.bind_eq_some_iff.mp h2
  by_cases hx : S.1 x.1 = κ ∧ 0 ≤ y.1 ∧ y.1 < S.2.1 x.1
  · rw [if_pos hx] at h4
    cases h4
    refine ha Z hC L S v x st h1 hd (fun hii t ht => ?_)
    rw [List.mem_singleton.mp ht]
    refine hi Z hC L S x.2 y (vo 2 x.1 :: st) h3 (by simp only [cat, List.map_cons, List.sum_cons, vo_ct, ct] at hd ⊢; omega) (fun hj t ht => ?_)
    rw [List.mem_singleton.mp ht]
    exact hst Z hC L S y.2 st x.1 y.1 hj hx.1 hx.2.1 hx.2.2 hk
  · rw [if_neg hx] at h4; cases h4
section LOADS
variable {Y : YT} {Γ : List (Nat × Nat)} {d pc p1 p2 : Nat} {E : List Nat} {a i : QE}
theorem ok_iaload {κ : Nat} (hκ2 : κ = 20 ∨ κ = 40) (ha : OkE Y Γ d 2 pc [p1] a) (hi : OkE Y Γ (d + 1) 0 p1 [p2] i) (hd : decode Y.2.1 p2 = .ok (.iaload, 1)) (hE : p2 + 1 ∈ E) : OkE Y Γ d 0 pc E (eA κ a i) := by
  rcases hκ2 with rfl | rfl
  · refine okA0 ha hi ?_
    rintro ⟨p, l, e, R, s, m, args, below, meth, c, D, cy, A, H0, Q, cells, slots⟩ ⟨hx, hb, -, ho, hts, -, -, -, -, -, hW, -⟩ L S v st x y iy hκ y0 y1 hk H locs ls g1 g2 g3
    obtain ⟨q1, q2, q3⟩ := g2.2 x (by rw [hκ]; decide)
    rw [hκ] at q3
    obtain ⟨r1, r2, r3, r4, r5⟩ := cOk_arr (by decide) q3
    obtain ⟨t0, ht⟩ := kL_idx r1 cy
    have ey : ((y.toNat : Nat) : Int) = y := Int.toNat_of_nonneg y0
    have hr : ir 0 (v x y) := by have := r4 y.toNat (by rw [ey]; exact y1); rw [ey] at this; exact this
    have hk := hk hr _ hE H locs ls g1 g2 g3
    rw [vo2 q1]
    refine W.iald (v := vo 0 (v x y)) hx hb r5 ((hW.1.2 t0 _ ht).1 _ _) (fun q => by cases q) (by rw [arrV_size]; exact xx_in iy y0 (by omega)) ?_ rfl rfl hd hk
    rw [i_nat iy, arrV_read _ _ (by omega), ey]
    rfl
  · refine okA0 ha hi ?_
    rintro ⟨p, l, e, R, s, m, args, below, meth, c, D, cy, A, H0, Q, cells, slots⟩ ⟨hx, hb, -, ho, hts, -, -, -, -, -, hW, -⟩ L S v st x y iy hκ y0 y1 hk H locs ls g1 g2 g3
    obtain ⟨q1, q2, q3⟩ := g2.2 x (by rw [hκ]; decide)
    rw [hκ] at q3
    obtain ⟨r1, r2, r3, r4, r5⟩ := cOk_arr (by decide) q3
    obtain ⟨t0, ht⟩ := kL_idx r1 cy
    have ey : ((y.toNat : Nat) : Int) = y := Int.toNat_of_nonneg y0
    have hr : ir 0 (v x y) := by have := r4 y.toNat (by rw [ey]; exact y1); rw [ey] at this; exact this
    have hk := hk hr _ hE H locs ls g1 g2 g3
    rw [vo2 q1]
    refine W.iald (v := vo 0 (v x y)) hx hb r5 ((hW.1.2 t0 _ ht).1 _ _) (fun q => by cases q) (by rw [arrV_size]; exact xx_in iy y0 (by omega)) ?_ rfl rfl hd hk
    rw [i_nat iy, arrV_read _ _ (by omega), ey]
    rfl
theorem ok_laload (ha : OkE Y Γ d 2 pc [p1] a) (hi : OkE Y Γ (d + 1) 0 p1 [p2] i) (hd : decode Y.2.1 p2 = .ok (.laload, 1)) (hE : p2 + 1 ∈ E) : OkE Y Γ d 1 pc E (eA 41 a i) := by
  refine okA0 ha hi ?_
  rintro ⟨p, l, e, R, s, m, args, below, meth, c, D, cy, A, H0, Q, cells, slots⟩ ⟨hx, hb, -, ho, hts, -, -, -, -, -, hW, -⟩ L S v st x y iy hκ y0 y1 hk H locs ls g1 g2 g3
  obtain ⟨q1, q2, q3⟩ := g2.2 x (by rw [hκ]; decide)
  rw [hκ] at q3
  obtain ⟨r1, r2, r3, r4, r5⟩ := cOk_arr (by decide) q3
  obtain ⟨t0, ht⟩ := kL_idx r1 cy
  have ey : ((y.toNat : Nat) : Int) = y := Int.toNat_of_nonneg y0
  have hr : ir 1 (v x y) := by have := r4 y.toNat (by rw [ey]; exact y1); rw [ey] at this; exact this
  have hk := hk hr _ hE H locs ls g1 g2 g3
  rw [vo2 q1]
  refine W.lald (v := vo 1 (v x y)) hx hb r5 ((hW.1.2 t0 _ ht).1 _ _) (fun q => by cases q) (by rw [arrV_size]; exact xx_in iy y0 (by omega)) ?_ rfl rfl hd hk
  rw [i_nat iy, arrV_read _ _ (by omega), ey]
  rfl
theorem ok_baload (ha : OkE Y Γ d 2 pc [p1] a) (hi : OkE Y Γ (d + 1) 0 p1 [p2] i) (hd : decode Y.2.1 p2 = .ok (.baload, 1)) (hE : p2 + 1 ∈ E) : OkE Y Γ d 4 pc E (eA 42 a i) := by
  refine okA0 ha hi ?_
  rintro ⟨p, l, e, R, s, m, args, below, meth, c, D, cy, A, H0, Q, cells, slots⟩ ⟨hx, hb, -, ho, hts, -, -, -, -, -, hW, -⟩ L S v st x y iy hκ y0 y1 hk H locs ls g1 g2 g3
  obtain ⟨q1, q2, q3⟩ := g2.2 x (by rw [hκ]; decide)
  rw [hκ] at q3
  obtain ⟨r1, r2, r3, r4, r5⟩ := cOk_arr (by decide) q3
  obtain ⟨t0, ht⟩ := kL_idx r1 cy
  have ey : ((y.toNat : Nat) : Int) = y := Int.toNat_of_nonneg y0
  have hr : ir 4 (v x y) := by have := r4 y.toNat (by rw [ey]; exact y1); rw [ey] at this; exact this
  have hk := hk hr _ hE H locs ls g1 g2 g3
  rw [vo2 q1]
  refine W.bald (v := vo 4 (v x y)) hx hb r5 ((hW.1.2 t0 _ ht).1 _ _) (fun q => by cases q) (by rw [arrV_size]; exact xx_in iy y0 (by omega)) ?_ rfl rfl hd hk
  rw [i_nat iy, arrV_read _ _ (by omega), ey]
  rfl
theorem ok_caload (ha : OkE Y Γ d 2 pc [p1] a) (hi : OkE Y Γ (d + 1) 0 p1 [p2] i) (hd : decode Y.2.1 p2 = .ok (.caload, 1)) (hE : p2 + 1 ∈ E) : OkE Y Γ d 5 pc E (eA 23 a i) := by
  refine okA0 ha hi ?_
  rintro ⟨p, l, e, R, s, m, args, below, meth, c, D, cy, A, H0, Q, cells, slots⟩ ⟨hx, hb, -, ho, hts, -, -, -, -, -, hW, -⟩ L S v st x y iy hκ y0 y1 hk H locs ls g1 g2 g3
  obtain ⟨q1, q2, q3⟩ := g2.2 x (by rw [hκ]; decide)
  rw [hκ] at q3
  obtain ⟨r1, r2, r3, r4, r5⟩ := cOk_arr (by decide) q3
  obtain ⟨t0, ht⟩ := kL_idx r1 cy
  have ey : ((y.toNat : Nat) : Int) = y := Int.toNat_of_nonneg y0
  have hr : ir 5 (v x y) := by have := r4 y.toNat (by rw [ey]; exact y1); rw [ey] at this; exact this
  have hk := hk hr _ hE H locs ls g1 g2 g3
  rw [vo2 q1]
  refine W.cald (v := vo 5 (v x y)) hx hb r5 ((hW.1.2 t0 _ ht).1 _ _) (fun q => by cases q) (by rw [arrV_size]; exact xx_in iy y0 (by omega)) ?_ rfl rfl hd hk
  rw [i_nat iy, arrV_read _ _ (by omega), ey]
  rfl
theorem ok_zaload {κ : Nat} (hκ2 : κ = 24 ∨ κ = 44) (ha : OkE Y Γ d 2 pc [p1] a) (hi : OkE Y Γ (d + 1) 0 p1 [p2] i) (hd : decode Y.2.1 p2 = .ok (.baload, 1)) (hE : p2 + 1 ∈ E) : OkE Y Γ d 3 pc E (eA κ a i) := by
  rcases hκ2 with rfl | rfl
  · refine okA0 ha hi ?_
    rintro ⟨p, l, e, R, s, m, args, below, meth, c, D, cy, A, H0, Q, cells, slots⟩ ⟨hx, hb, -, ho, hts, -, -, -, -, -, hW, -⟩ L S v st x y iy hκ y0 y1 hk H locs ls g1 g2 g3
    obtain ⟨q1, q2, q3⟩ := g2.2 x (by rw [hκ]; decide)
    rw [hκ] at q3
    obtain ⟨r1, r2, r3, r4, r5⟩ := cOk_arr (by decide) q3
    obtain ⟨t0, ht⟩ := kL_idx r1 cy
    have ey : ((y.toNat : Nat) : Int) = y := Int.toNat_of_nonneg y0
    have hr : ir 3 (v x y) := by have := r4 y.toNat (by rw [ey]; exact y1); rw [ey] at this; exact this
    have hk := hk hr _ hE H locs ls g1 g2 g3
    rw [vo2 q1]
    refine W.zald (v := vo 3 (v x y)) hx hb r5 ((hW.1.2 t0 _ ht).1 _ _) (fun q => by cases q) (by rw [arrV_size]; exact xx_in iy y0 (by omega)) ?_ rfl rfl hd hk
    rw [i_nat iy, arrV_read _ _ (by omega), ey]
    rfl
  · refine okA0 ha hi ?_
    rintro ⟨p, l, e, R, s, m, args, below, meth, c, D, cy, A, H0, Q, cells, slots⟩ ⟨hx, hb, -, ho, hts, -, -, -, -, -, hW, -⟩ L S v st x y iy hκ y0 y1 hk H locs ls g1 g2 g3
    obtain ⟨q1, q2, q3⟩ := g2.2 x (by rw [hκ]; decide)
    rw [hκ] at q3
    obtain ⟨r1, r2, r3, r4, r5⟩ := cOk_arr (by decide) q3
    obtain ⟨t0, ht⟩ := kL_idx r1 cy
    have ey : ((y.toNat : Nat) : Int) = y := Int.toNat_of_nonneg y0
    have hr : ir 3 (v x y) := by have := r4 y.toNat (by rw [ey]; exact y1); rw [ey] at this; exact this
    have hk := hk hr _ hE H locs ls g1 g2 g3
    rw [vo2 q1]
    refine W.zald (v := vo 3 (v x y)) hx hb r5 ((hW.1.2 t0 _ ht).1 _ _) (fun q => by cases q) (by rw [arrV_size]; exact xx_in iy y0 (by omega)) ?_ rfl rfl hd hk
    rw [i_nat iy, arrV_read _ _ (by omega), ey]
    rfl
theorem ok_aaload {κ : Nat} {C : String} (hκ2 : 30 ≤ κ) (hC : aT κ = .object C) (he : eτ κ = 2) (ha : OkE Y Γ d 2 pc [p1] a) (hi : OkE Y Γ (d + 1) 0 p1 [p2] i) (hd : decode Y.2.1 p2 = .ok (.aaload, 1)) (hE : p2 + 1 ∈ E) : OkE Y Γ d 2 pc E (eA κ a i) := by
  refine okA0 ha hi ?_
  rintro ⟨p, l, e, R, s, m, args, below, meth, c, D, cy, A, H0, Q, cells, slots⟩ ⟨hx, hb, -, ho, hts, -, -, -, -, -, hW, -⟩ L S v st x y iy hκ y0 y1 hk H locs ls g1 g2 g3
  obtain ⟨q1, q2, q3⟩ := g2.2 x (by rw [hκ]; omega)
  rw [hκ] at q3
  obtain ⟨r1, r2, r3, r4, r5⟩ := cOk_arr (by omega) q3
  obtain ⟨t0, ht⟩ := kL_idx r1 cy
  have ey : ((y.toNat : Nat) : Int) = y := Int.toNat_of_nonneg y0
  have hr : ir 2 (v x y) := by have := r4 y.toNat (by rw [ey]; exact y1); rw [ey, he] at this; exact this
  have hk := hk hr _ hE H locs ls g1 g2 g3
  rw [vo2 q1]
  refine W.aald (v := vo 2 (v x y)) (ty := .object C) hx hb r5 (by rw [← hC]; exact (hW.1.2 t0 _ ht).1 _ _) rfl (fun q => by cases q) (by rw [arrV_size]; exact xx_in iy y0 (by omega)) ?_ rfl rfl hd hk
  rw [i_nat iy, arrV_read _ _ (by omega), ey, he]
theorem ok_alen (ha : OkE Y Γ d 2 pc [p1] a) (hd : decode Y.2.1 p1 = .ok (.arraylength, 1)) (hE : p1 + 1 ∈ E) : OkE Y Γ d 0 pc E (eN a) := by
  intro Z hC L S v r st hf hdd hk
  obtain ⟨x, h1, h2⟩ := Option.bind_eq_some_iff.mp hf
  by_cases hx : 20 ≤ S.1 x.1
  · rw [if_pos hx] at h2
    cases h2
    refine ha Z hC L S v x st h1 hdd (fun hi t ht => ?_)
    rw [List.mem_singleton.mp ht]
    obtain ⟨p, l, e, R, s, m, args, below, meth, c, D, cy, A, H0, Q, cells, slots⟩ := Z
    obtain ⟨hx0, hb, -, ho, hts, -, -, -, -, -, hW, -⟩ := hC
    intro H locs ls g1 g2 g3
    obtain ⟨q1, q2, q3⟩ := g2.2 x.1 (by omega)
    obtain ⟨r1, r2, r3, r4, r5⟩ := cOk_arr hx q3
    obtain ⟨t0, ht⟩ := kL_idx r1 cy
    have hk := hk (show _ ∧ _ by omega) _ hE H locs ls g1 g2 g3
    rw [vo2 q1]
    refine W.alen (n := Int32.ofInt (S.2.1 x.1)) hx0 hb r5 ((hW.1.2 t0 _ ht).1 _ _) ?_ rfl rfl hd hk
    rw [arrV_size]
    show Int32.ofNat _ = _
    rw [← Int32.ofInt_eq_ofNat, Int.toNat_of_nonneg r2]
  · rw [if_neg hx] at h2; cases h2
end LOADS
