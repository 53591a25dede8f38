/-! RULES: tests, choices, the JDK's small functions, calls -/
/-- one jump: from a stack, by a test -/
def QJ (Y : YT) (pc nx tg : Nat) (i : List Value) (b : Bool) : Prop := ∀ Z, MC Y Z → ∀ (Γ : List (Nat × Nat)) (L : QL) (S : QS) (v : QV) (st : List Value), (b = true → WX Z Y.2.2.1 Γ L S v tg st) → (b = false → WX Z Y.2.2.1 Γ L S v nx st) → WX Z Y.2.2.1 Γ L S v pc (i ++ st)
section JUMPS
variable {Y : YT} {pc tg : Nat} {off : Int}
theorem j_icmp_eq (hd : decode Y.2.1 pc = .ok (.if_icmp .eq off, 3)) (ht : (pc : Int) + off = (tg : Int)) (x y : Int) (ix : ir 0 x) (iy : ir 0 y) : QJ Y pc (pc + 3) tg [vo 0 y, vo 0 x] (qeq x y) := by
  rintro ⟨p, l, e, R, s, m, args, below, meth, c, D, cy, A, H0, Q, cells, slots⟩ ⟨hx, hb, -⟩ Γ L S v st h1 h2 H locs ls g1 g2 g3
  exact lv_icmp_eq hx hb hd ht (fun q => h1 (by simp only [qeq, decide_eq_true_eq]; exact (i_eqI ix iy).mp q) H locs ls g1 g2 g3) (fun q => h2 (by simp only [qeq, decide_eq_false_iff_not]; exact fun z => q ((i_eqI ix iy).mpr z)) H locs ls g1 g2 g3)
theorem j_icmp_ne (hd : decode Y.2.1 pc = .ok (.if_icmp .ne off, 3)) (ht : (pc : Int) + off = (tg : Int)) (x y : Int) (ix : ir 0 x) (iy : ir 0 y) : QJ Y pc (pc + 3) tg [vo 0 y, vo 0 x] (qne x y) := by
  rintro ⟨p, l, e, R, s, m, args, below, meth, c, D, cy, A, H0, Q, cells, slots⟩ ⟨hx, hb, -⟩ Γ L S v st h1 h2 H locs ls g1 g2 g3
  refine lv_icmp_ne hx hb hd ht (fun q => h1 ?_ H locs ls g1 g2 g3) (fun q => h2 ?_ H locs ls g1 g2 g3)
  · simp only [qne, Bool.not_eq_true', decide_eq_false_iff_not]
    intro z
    subst z
    simp at q
  · simp only [qne, Bool.not_eq_false', decide_eq_true_eq]
    exact (i_eqI ix iy).mp q
theorem j_icmp_lt (hd : decode Y.2.1 pc = .ok (.if_icmp .lt off, 3)) (ht : (pc : Int) + off = (tg : Int)) (x y : Int) (ix : ir 0 x) (iy : ir 0 y) : QJ Y pc (pc + 3) tg [vo 0 y, vo 0 x] (qlt x y) := by
  rintro ⟨p, l, e, R, s, m, args, below, meth, c, D, cy, A, H0, Q, cells, slots⟩ ⟨hx, hb, -⟩ Γ L S v st h1 h2 H locs ls g1 g2 g3
  exact lv_icmp_lt hx hb hd ht (fun q => h1 (by simp only [qlt, decide_eq_true_eq]; exact (i_ltI ix iy).mp q) H locs ls g1 g2 g3) (fun q => h2 (by simp only [qlt, decide_eq_false_iff_not]; exact fun z => q ((i_ltI ix iy).mpr z)) H locs ls g1 g2 g3)
theorem j_icmp_ge (hd : decode Y.2.1 pc = .ok (.if_icmp .ge off, 3)) (ht : (pc : Int) + off = (tg : Int)) (x y : Int) (ix : ir 0 x) (iy : ir 0 y) : QJ Y pc (pc + 3) tg [vo 0 y, vo 0 x] (qge x y) := by
  rintro ⟨p, l, e, R, s, m, args, below, meth, c, D, cy, A, H0, Q, cells, slots⟩ ⟨hx, hb, -⟩ Γ L S v st h1 h2 H locs ls g1 g2 g3
  refine lv_icmp_ge hx hb hd ht (fun q => h1 ?_ H locs ls g1 g2 g3) (fun q => h2 ?_ H locs ls g1 g2 g3)
  · have q2 : y ≤ x := (i_leI iy ix).mp q
    simp only [qge, Bool.not_eq_true', decide_eq_false_iff_not]; omega
  · have q2 : ¬ y ≤ x := fun z => q ((i_leI iy ix).mpr z)
    simp only [qge, Bool.not_eq_false', decide_eq_true_eq]; omega
theorem j_icmp_gt (hd : decode Y.2.1 pc = .ok (.if_icmp .gt off, 3)) (ht : (pc : Int) + off = (tg : Int)) (x y : Int) (ix : ir 0 x) (iy : ir 0 y) : QJ Y pc (pc + 3) tg [vo 0 y, vo 0 x] (qgt x y) := by
  rintro ⟨p, l, e, R, s, m, args, below, meth, c, D, cy, A, H0, Q, cells, slots⟩ ⟨hx, hb, -⟩ Γ L S v st h1 h2 H locs ls g1 g2 g3
  refine lv_icmp_gt hx hb hd ht (fun q => h1 ?_ H locs ls g1 g2 g3) (fun q => h2 ?_ H locs ls g1 g2 g3)
  · have q2 : y < x := (i_ltI iy ix).mp q
    simp only [qgt, decide_eq_true_eq]; omega
  · have q2 : ¬ y < x := fun z => q ((i_ltI iy ix).mpr z)
    simp only [qgt, decide_eq_false_iff_not]; omega
theorem j_icmp_le (hd : decode Y.2.1 pc = .ok (.if_icmp .le off, 3)) (ht : (pc : Int) + off = (tg : Int)) (x y : Int) (ix : ir 0 x) (iy : ir 0 y) : QJ Y pc (pc + 3) tg [vo 0 y, vo 0 x] (qle x y) := by
  rintro ⟨p, l, e, R, s, m, args, below, meth, c, D, cy, A, H0, Q, cells, slots⟩ ⟨hx, hb, -⟩ Γ L S v st h1 h2 H locs ls g1 g2 g3
  refine lv_icmp_le hx hb hd ht (fun q => h1 ?_ H locs ls g1 g2 g3) (fun q => h2 ?_ H locs ls g1 g2 g3)
  · have q2 : x ≤ y := (i_leI ix iy).mp q
    simp only [qle, Bool.not_eq_true', decide_eq_false_iff_not]; omega
  · have q2 : ¬ x ≤ y := fun z => q ((i_leI ix iy).mpr z)
    simp only [qle, Bool.not_eq_false', decide_eq_true_eq]; omega
theorem ir_z : ir 0 0 := by show _ ∧ _; omega
theorem j_if_eq (hd : decode Y.2.1 pc = .ok (.ifCond .eq off, 3)) (ht : (pc : Int) + off = (tg : Int)) (x : Int) (ix : ir 0 x) : QJ Y pc (pc + 3) tg [vo 0 x] (qeq x 0) := by
  rintro ⟨p, l, e, R, s, m, args, below, meth, c, D, cy, A, H0, Q, cells, slots⟩ ⟨hx, hb, -⟩ Γ L S v st h1 h2 H locs ls g1 g2 g3
  exact lv_if_eq hx hb hd ht (fun q => h1 (by simp only [qeq, decide_eq_true_eq]; exact (i_eqI ix ir_z).mp q) H locs ls g1 g2 g3) (fun q => h2 (by simp only [qeq, decide_eq_false_iff_not]; exact fun z => q ((i_eqI ix ir_z).mpr z)) H locs ls g1 g2 g3)
theorem j_if_ne (hd : decode Y.2.1 pc = .ok (.ifCond .ne off, 3)) (ht : (pc : Int) + off = (tg : Int)) (x : Int) (ix : ir 0 x) : QJ Y pc (pc + 3) tg [vo 0 x] (qne x 0) := by
  rintro ⟨p, l, e, R, s, m, args, below, meth, c, D, cy, A, H0, Q, cells, slots⟩ ⟨hx, hb, -⟩ Γ L S v st h1 h2 H locs ls g1 g2 g3
  refine lv_if_ne hx hb hd ht (fun q => h1 ?_ H locs ls g1 g2 g3) (fun q => h2 ?_ H locs ls g1 g2 g3)
  · simp only [qne, Bool.not_eq_true', decide_eq_false_iff_not]
    intro z
    subst z
    exact absurd rfl q
  · simp only [qne, Bool.not_eq_false', decide_eq_true_eq]
    exact (i_eqI ix ir_z).mp q
theorem j_if_lt (hd : decode Y.2.1 pc = .ok (.ifCond .lt off, 3)) (ht : (pc : Int) + off = (tg : Int)) (x : Int) (ix : ir 0 x) : QJ Y pc (pc + 3) tg [vo 0 x] (qlt x 0) := by
  rintro ⟨p, l, e, R, s, m, args, below, meth, c, D, cy, A, H0, Q, cells, slots⟩ ⟨hx, hb, -⟩ Γ L S v st h1 h2 H locs ls g1 g2 g3
  exact lv_if_lt hx hb hd ht (fun q => h1 (by simp only [qlt, decide_eq_true_eq]; exact (i_ltI ix ir_z).mp q) H locs ls g1 g2 g3) (fun q => h2 (by simp only [qlt, decide_eq_false_iff_not]; exact fun z => q ((i_ltI ix ir_z).mpr z)) H locs ls g1 g2 g3)
theorem j_if_ge (hd : decode Y.2.1 pc = .ok (.ifCond .ge off, 3)) (ht : (pc : Int) + off = (tg : Int)) (x : Int) (ix : ir 0 x) : QJ Y pc (pc + 3) tg [vo 0 x] (qge x 0) := by
  rintro ⟨p, l, e, R, s, m, args, below, meth, c, D, cy, A, H0, Q, cells, slots⟩ ⟨hx, hb, -⟩ Γ L S v st h1 h2 H locs ls g1 g2 g3
  refine lv_if_ge hx hb hd ht (fun q => h1 ?_ H locs ls g1 g2 g3) (fun q => h2 ?_ H locs ls g1 g2 g3)
  · have q2 : 0 ≤ x := (i_leI ir_z ix).mp q
    simp only [qge, Bool.not_eq_true', decide_eq_false_iff_not]; omega
  · have q2 : ¬ 0 ≤ x := fun z => q ((i_leI ir_z ix).mpr z)
    simp only [qge, Bool.not_eq_false', decide_eq_true_eq]; omega
theorem j_if_gt (hd : decode Y.2.1 pc = .ok (.ifCond .gt off, 3)) (ht : (pc : Int) + off = (tg : Int)) (x : Int) (ix : ir 0 x) : QJ Y pc (pc + 3) tg [vo 0 x] (qgt x 0) := by
  rintro ⟨p, l, e, R, s, m, args, below, meth, c, D, cy, A, H0, Q, cells, slots⟩ ⟨hx, hb, -⟩ Γ L S v st h1 h2 H locs ls g1 g2 g3
  refine lv_if_gt hx hb hd ht (fun q => h1 ?_ H locs ls g1 g2 g3) (fun q => h2 ?_ H locs ls g1 g2 g3)
  · have q2 : 0 < x := (i_ltI ir_z ix).mp q
    simp only [qgt, decide_eq_true_eq]; omega
  · have q2 : ¬ 0 < x := fun z => q ((i_ltI ir_z ix).mpr z)
    simp only [qgt, decide_eq_false_iff_not]; omega
theorem j_if_le (hd : decode Y.2.1 pc = .ok (.ifCond .le off, 3)) (ht : (pc : Int) + off = (tg : Int)) (x : Int) (ix : ir 0 x) : QJ Y pc (pc + 3) tg [vo 0 x] (qle x 0) := by
  rintro ⟨p, l, e, R, s, m, args, below, meth, c, D, cy, A, H0, Q, cells, slots⟩ ⟨hx, hb, -⟩ Γ L S v st h1 h2 H locs ls g1 g2 g3
  refine lv_if_le hx hb hd ht (fun q => h1 ?_ H locs ls g1 g2 g3) (fun q => h2 ?_ H locs ls g1 g2 g3)
  · have q2 : x ≤ 0 := (i_leI ix ir_z).mp q
    simp only [qle, Bool.not_eq_true', decide_eq_false_iff_not]; omega
  · have q2 : ¬ x ≤ 0 := fun z => q ((i_leI ix ir_z).mpr z)
    simp only [qle, Bool.not_eq_false', decide_eq_true_eq]; omega
theorem l_leI {a b : Int} (ha : ir 1 a) (hb : ir 1 b) : Int64.ofInt a ≤ Int64.ofInt b ↔ a ≤ b := by
  rw [Int64.le_iff_toInt_le, l_toInt ha, l_toInt hb]
theorem j_lcmp_eq (hd0 : decode Y.2.1 pc = .ok (.lcmp, 1)) (hd : decode Y.2.1 (pc + 1) = .ok (.ifCond .eq off, 3)) (ht : ((pc + 1 : Nat) : Int) + off = (tg : Int)) (x y : Int) (ix : ir 1 x) (iy : ir 1 y) : QJ Y pc (pc + 4) tg [vo 1 y, vo 1 x] (qeq x y) := by
  rintro ⟨p, l, e, R, s, m, args, below, meth, c, D, cy, A, H0, Q, cells, slots⟩ ⟨hx, hb, -⟩ Γ L S v st h1 h2 H locs ls g1 g2 g3
  refine W.lcmp hx hb hd0 ?_
  refine lv_if_eq hx hb hd ht (fun q => h1 ?_ H locs ls g1 g2 g3) (fun q => h2 ?_ H locs ls g1 g2 g3)
  · have q2 := (l_eqI ix iy).mp ((lg_cmp_eq _ _).mp q)
    simp only [qeq, decide_eq_true_eq]; omega
  · have q2 : ¬ x = y := fun z => q ((lg_cmp_eq _ _).mpr ((l_eqI ix iy).mpr z))
    simp only [qeq, decide_eq_false_iff_not]; omega
theorem j_lcmp_ne (hd0 : decode Y.2.1 pc = .ok (.lcmp, 1)) (hd : decode Y.2.1 (pc + 1) = .ok (.ifCond .ne off, 3)) (ht : ((pc + 1 : Nat) : Int) + off = (tg : Int)) (x y : Int) (ix : ir 1 x) (iy : ir 1 y) : QJ Y pc (pc + 4) tg [vo 1 y, vo 1 x] (qne x y) := by
  rintro ⟨p, l, e, R, s, m, args, below, meth, c, D, cy, A, H0, Q, cells, slots⟩ ⟨hx, hb, -⟩ Γ L S v st h1 h2 H locs ls g1 g2 g3
  refine W.lcmp hx hb hd0 ?_
  refine lv_if_ne hx hb hd ht (fun q => h1 ?_ H locs ls g1 g2 g3) (fun q => h2 ?_ H locs ls g1 g2 g3)
  · have q2 : ¬ x = y := fun z => absurd ((lg_cmp_eq _ _).mpr ((l_eqI ix iy).mpr z)) q
    simp only [qne, Bool.not_eq_true', decide_eq_false_iff_not]; omega
  · have q2 := (l_eqI ix iy).mp ((lg_cmp_eq _ _).mp q)
    simp only [qne, Bool.not_eq_false', decide_eq_true_eq]; omega
theorem j_lcmp_lt (hd0 : decode Y.2.1 pc = .ok (.lcmp, 1)) (hd : decode Y.2.1 (pc + 1) = .ok (.ifCond .lt off, 3)) (ht : ((pc + 1 : Nat) : Int) + off = (tg : Int)) (x y : Int) (ix : ir 1 x) (iy : ir 1 y) : QJ Y pc (pc + 4) tg [vo 1 y, vo 1 x] (qlt x y) := by
  rintro ⟨p, l, e, R, s, m, args, below, meth, c, D, cy, A, H0, Q, cells, slots⟩ ⟨hx, hb, -⟩ Γ L S v st h1 h2 H locs ls g1 g2 g3
  refine W.lcmp hx hb hd0 ?_
  refine lv_if_lt hx hb hd ht (fun q => h1 ?_ H locs ls g1 g2 g3) (fun q => h2 ?_ H locs ls g1 g2 g3)
  · have q2 := (l_ltI ix iy).mp ((lg_cmp_lt _ _).mp q)
    simp only [qlt, decide_eq_true_eq]; omega
  · have q2 : ¬ x < y := fun z => q ((lg_cmp_lt _ _).mpr ((l_ltI ix iy).mpr z))
    simp only [qlt, decide_eq_false_iff_not]; omega
theorem j_lcmp_ge (hd0 : decode Y.2.1 pc = .ok (.lcmp, 1)) (hd : decode Y.2.1 (pc + 1) = .ok (.ifCond .ge off, 3)) (ht : ((pc + 1 : Nat) : Int) + off = (tg : Int)) (x y : Int) (ix : ir 1 x) (iy : ir 1 y) : QJ Y pc (pc + 4) tg [vo 1 y, vo 1 x] (qge x y) := by
  rintro ⟨p, l, e, R, s, m, args, below, meth, c, D, cy, A, H0, Q, cells, slots⟩ ⟨hx, hb, -⟩ Γ L S v st h1 h2 H locs ls g1 g2 g3
  refine W.lcmp hx hb hd0 ?_
  refine lv_if_ge hx hb hd ht (fun q => h1 ?_ H locs ls g1 g2 g3) (fun q => h2 ?_ H locs ls g1 g2 g3)
  · have q2 := (l_leI iy ix).mp ((lg_cmp_ge _ _).mp q)
    simp only [qge, Bool.not_eq_true', decide_eq_false_iff_not]; omega
  · have q2 : ¬ y ≤ x := fun z => q ((lg_cmp_ge _ _).mpr ((l_leI iy ix).mpr z))
    simp only [qge, Bool.not_eq_false', decide_eq_true_eq]; omega
theorem j_lcmp_gt (hd0 : decode Y.2.1 pc = .ok (.lcmp, 1)) (hd : decode Y.2.1 (pc + 1) = .ok (.ifCond .gt off, 3)) (ht : ((pc + 1 : Nat) : Int) + off = (tg : Int)) (x y : Int) (ix : ir 1 x) (iy : ir 1 y) : QJ Y pc (pc + 4) tg [vo 1 y, vo 1 x] (qgt x y) := by
  rintro ⟨p, l, e, R, s, m, args, below, meth, c, D, cy, A, H0, Q, cells, slots⟩ ⟨hx, hb, -⟩ Γ L S v st h1 h2 H locs ls g1 g2 g3
  refine W.lcmp hx hb hd0 ?_
  refine lv_if_gt hx hb hd ht (fun q => h1 ?_ H locs ls g1 g2 g3) (fun q => h2 ?_ H locs ls g1 g2 g3)
  · have q2 := (l_ltI iy ix).mp ((lg_cmp_gt _ _).mp q)
    simp only [qgt, decide_eq_true_eq]; omega
  · have q2 : ¬ y < x := fun z => q ((lg_cmp_gt _ _).mpr ((l_ltI iy ix).mpr z))
    simp only [qgt, decide_eq_false_iff_not]; omega
theorem j_lcmp_le (hd0 : decode Y.2.1 pc = .ok (.lcmp, 1)) (hd : decode Y.2.1 (pc + 1) = .ok (.ifCond .le off, 3)) (ht : ((pc + 1 : Nat) : Int) + off = (tg : Int)) (x y : Int) (ix : ir 1 x) (iy : ir 1 y) : QJ Y pc (pc + 4) tg [vo 1 y, vo 1 x] (qle x y) := by
  rintro ⟨p, l, e, R, s, m, args, below, meth, c, D, cy, A, H0, Q, cells, slots⟩ ⟨hx, hb, -⟩ Γ L S v st h1 h2 H locs ls g1 g2 g3
  refine W.lcmp hx hb hd0 ?_
  refine lv_if_le hx hb hd ht (fun q => h1 ?_ H locs ls g1 g2 g3) (fun q => h2 ?_ H locs ls g1 g2 g3)
  · have q2 := (l_leI ix iy).mp ((lg_cmp_le _ _).mp q)
    simp only [qle, Bool.not_eq_true', decide_eq_false_iff_not]; omega
  · have q2 : ¬ x ≤ y := fun z => q ((lg_cmp_le _ _).mpr ((l_leI ix iy).mpr z))
    simp only [qle, Bool.not_eq_false', decide_eq_true_eq]; omega
end JUMPS
section TESTS
variable {Y : YT} {Γ : List (Nat × Nat)} {d pc p1 p2 nx tg τa τb : Nat} {T F : List Nat} {a b : QE} {o j : Int → Int → Bool}
/-- a jump taken where the test holds -/
theorem okCBt (ha : OkE Y Γ d τa pc [p1] a) (hb : OkE Y Γ (d + ct τa) τb p1 [p2] b) (hj : ∀ x y, ir τa x → ir τb y → QJ Y p2 nx tg [vo τb y, vo τa x] (o x y)) (hT : tg ∈ T) (hF : nx ∈ F) : OkC Y Γ d pc T F (cB o a b) := by
  intro Z hC L S v r st hf hd kt kf
  obtain ⟨x, h1, h2⟩ := Option.bind_eq_some_iff.mp hf
  obtain ⟨y, h3, h4⟩ := Option.bind_eq_some_iff.mp h2
  cases h4
  refine ha Z hC L S v x st h1 hd (fun hi t ht => ?_)
  rw [List.mem_singleton.mp ht]
  refine hb Z hC L S x.2 y (vo τa x.1 :: st) h3 (by simp only [cat, List.map_cons, List.sum_cons, vo_ct] at hd ⊢; omega) (fun hii t ht => ?_)
  rw [List.mem_singleton.mp ht]
  exact hj x.1 y.1 hi hii Z hC Γ L S y.2 st (fun q => kt q _ hT) (fun q => kf q _ hF)
/-- a jump taken where it doesn't -/
theorem okCBf (ha : OkE Y Γ d τa pc [p1] a) (hb : OkE Y Γ (d + ct τa) τb p1 [p2] b) (hj : ∀ x y, ir τa x → ir τb y → QJ Y p2 nx tg [vo τb y, vo τa x] (j x y)) (hn : ∀ x y, j x y = !o x y) (hT : nx ∈ T) (hF : tg ∈ F) : OkC Y Γ d pc T F (cB o a b) := by
  intro Z hC L S v r st hf hd kt kf
  obtain ⟨x, h1, h2⟩ := Option.bind_eq_some_iff.mp hf
  obtain ⟨y, h3, h4⟩ := Option.bind_eq_some_iff.mp h2
  cases h4
  refine ha Z hC L S v x st h1 hd (fun hi t ht => ?_)
  rw [List.mem_singleton.mp ht]
  refine hb Z hC L S x.2 y (vo τa x.1 :: st) h3 (by simp only [cat, List.map_cons, List.sum_cons, vo_ct] at hd ⊢; omega) (fun hii t ht => ?_)
  rw [List.mem_singleton.mp ht]
  refine hj x.1 y.1 hi hii Z hC Γ L S y.2 st (fun q => kf ?_ _ hF) (fun q => kt ?_ _ hT)
  · rw [hn] at q; simpa using q
  · rw [hn] at q; simpa using q
/-- held against 0 -/
theorem okCZt (ha : OkE Y Γ d τa pc [p1] a) (hj : ∀ x, ir τa x → QJ Y p1 nx tg [vo τa x] (o x 0)) (hT : tg ∈ T) (hF : nx ∈ F) : OkC Y Γ d pc T F (cB o a (eI 0)) := by
  intro Z hC L S v r st hf hd kt kf
  obtain ⟨x, h1, h2⟩ := Option.bind_eq_some_iff.mp hf
  cases h2
  refine ha Z hC L S v x st h1 hd (fun hi t ht => ?_)
  rw [List.mem_singleton.mp ht]
  exact hj x.1 hi Z hC Γ L S x.2 st (fun q => kt q _ hT) (fun q => kf q _ hF)
theorem okCZf (ha : OkE Y Γ d τa pc [p1] a) (hj : ∀ x, ir τa x → QJ Y p1 nx tg [vo τa x] (j x 0)) (hn : ∀ x y, j x y = !o x y) (hT : nx ∈ T) (hF : tg ∈ F) : OkC Y Γ d pc T F (cB o a (eI 0)) := by
  intro Z hC L S v r st hf hd kt kf
  obtain ⟨x, h1, h2⟩ := Option.bind_eq_some_iff.mp hf
  cases h2
  refine ha Z hC L S v x st h1 hd (fun hi t ht => ?_)
  rw [List.mem_singleton.mp ht]
  refine hj x.1 hi Z hC Γ L S x.2 st (fun q => kf ?_ _ hF) (fun q => kt ?_ _ hT)
  · rw [hn] at q; simpa using q
  · rw [hn] at q; simpa using q
/-- a boolean -/
theorem okCEt (ha : OkE Y Γ d 0 pc [p1] a) (hj : ∀ x, ir 0 x → QJ Y p1 nx tg [vo 0 x] (qne x 0)) (hT : tg ∈ T) (hF : nx ∈ F) : OkC Y Γ d pc T F (cE a) := by
  intro Z hC L S v r st hf hd kt kf
  obtain ⟨x, h1, h2⟩ := Option.bind_eq_some_iff.mp hf
  cases h2
  refine ha Z hC L S v x st h1 hd (fun hi t ht => ?_)
  rw [List.mem_singleton.mp ht]
  exact hj x.1 hi Z hC Γ L S x.2 st (fun q => kt q _ hT) (fun q => kf q _ hF)
theorem okCEf (ha : OkE Y Γ d 0 pc [p1] a) (hj : ∀ x, ir 0 x → QJ Y p1 nx tg [vo 0 x] (qeq x 0)) (hT : nx ∈ T) (hF : tg ∈ F) : OkC Y Γ d pc T F (cE a) := by
  intro Z hC L S v r st hf hd kt kf
  obtain ⟨x, h1, h2⟩ := Option.bind_eq_some_iff.mp hf
  cases h2
  refine ha Z hC L S v x st h1 hd (fun hi t ht => ?_)
  rw [List.mem_singleton.mp ht]
  refine hj x.1 hi Z hC Γ L S x.2 st (fun q => kf ?_ _ hF) (fun q => kt ?_ _ hT)
  · simp only [qeq] at q; simp [q]
  · simp only [qeq] at q; simp [q]
theorem okAnd {c1 c2 : QC} (h1 : OkC Y Γ d pc [p1] F c1) (h2 : OkC Y Γ d p1 T F c2) : OkC Y Γ d pc T F (cAnd c1 c2) := by
  intro Z hC L S v r st hf hd kt kf
  obtain ⟨x, g1, g2⟩ := Option.bind_eq_some_iff.mp hf
  refine h1 Z hC L S v x st g1 hd (fun q t ht => ?_) (fun q t ht => ?_)
  · rw [List.mem_singleton.mp ht]
    rw [if_pos q] at g2
    exact h2 Z hC L S x.2 r st g2 hd kt kf
  · rw [if_neg (by rw [q]; decide)] at g2
    cases g2
    exact kf rfl t ht
theorem okOr {c1 c2 : QC} (h1 : OkC Y Γ d pc T [p1] c1) (h2 : OkC Y Γ d p1 T F c2) : OkC Y Γ d pc T F (cOr c1 c2) := by
  intro Z hC L S v r st hf hd kt kf
  obtain ⟨x, g1, g2⟩ := Option.bind_eq_some_iff.mp hf
  refine h1 Z hC L S v x st g1 hd (fun q t ht => ?_) (fun q t ht => ?_)
  · rw [if_pos q] at g2
    cases g2
    exact kt rfl t ht
  · rw [List.mem_singleton.mp ht]
    rw [if_neg (by rw [q]; decide)] at g2
    exact h2 Z hC L S x.2 r st g2 hd kt kf
theorem okNot {c1 : QC} (h1 : OkC Y Γ d pc F T c1) : OkC Y Γ d pc T F (cNot c1) := by
  intro Z hC L S v r st hf hd kt kf
  obtain ⟨x, g1, g2⟩ := Option.bind_eq_some_iff.mp hf
  cases g2
  refine h1 Z hC L S v x st g1 hd (fun q t ht => ?_) (fun q t ht => ?_)
  · exact kf (by rw [q]; rfl) t ht
  · exact kt (by rw [q]; rfl) t ht
end TESTS
theorem wx_goto {Y : YT} {Z : ZT} (hC : MC Y Z) {Γ : List (Nat × Nat)} {L : QL} {S : QS} {v : QV} {pc tg : Nat} {off : Int} {st : List Value} (hd : decode Y.2.1 pc = .ok (.goto off, 3)) (ht : (pc : Int) + off = (tg : Int)) (h : WX Z Y.2.2.1 Γ L S v tg st) : WX Z Y.2.2.1 Γ L S v pc st := by
  obtain ⟨p, l, e, R, s, m, args, below, meth, c, D, cy, A, H0, Q, cells, slots⟩ := Z
  obtain ⟨hx, hb, -⟩ := hC
  exact fun H locs ls g1 g2 g3 => lv_goto hx hb hd ht (h H locs ls g1 g2 g3)
/-- a test as a number -/
theorem okBv {Y : YT} {Γ : List (Nat × Nat)} {d pc pt pf pe : Nat} {off : Int} {E : List Nat} {c : QC} (hc : OkC Y Γ d pc [pt] [pf] c) (d1 : decode Y.2.1 pt = .ok (.iconst 1, 1)) (dg : decode Y.2.1 (pt + 1) = .ok (.goto off, 3)) (hg : ((pt + 1 : Nat) : Int) + off = (pe : Int)) (d0 : decode Y.2.1 pf = .ok (.iconst 0, 1)) (hE : pe ∈ E) (hE0 : pf + 1 ∈ E) : OkE Y Γ d 3 pc E (eB c) := by
  intro Z hC L S v r st hf hd hk
  obtain ⟨x, g1, g2⟩ := Option.bind_eq_some_iff.mp hf
  cases g2
  refine hc Z hC L S v x st g1 hd (fun q t ht => ?_) (fun q t ht => ?_)
  · rw [List.mem_singleton.mp ht]
    rw [q] at hk
    have hk := wx_goto hC dg hg (hk (show (0 : Int) ≤ 1 ∧ (1 : Int) ≤ 1 from ⟨by decide, by decide⟩) _ hE)
    obtain ⟨p, l, e, R, s, m, args, below, meth, c, D, cy, A, H0, Q, cells, slots⟩ := Z
    obtain ⟨hx, hb, -⟩ := hC
    exact fun H locs ls g1 g2 g3 => lv_iconst hx hb d1 rfl (hk H locs ls g1 g2 g3)
  · rw [List.mem_singleton.mp ht]
    rw [q] at hk
    have hk := hk (show (0 : Int) ≤ 0 ∧ (0 : Int) ≤ 1 from ⟨by decide, by decide⟩) _ hE0
    obtain ⟨p, l, e, R, s, m, args, below, meth, c, D, cy, A, H0, Q, cells, slots⟩ := Z
    obtain ⟨hx, hb, -⟩ := hC
    exact fun H locs ls g1 g2 g3 => lv_iconst hx hb d0 rfl (hk H locs ls g1 g2 g3)
/-- one of two -/
theorem okIfE {Y : YT} {Γ : List (Nat × Nat)} {d pc pt pf p1 pe τ : Nat} {off : Int} {E : List Nat} {c : QC} {a b : QE} (hc : OkC Y Γ d pc [pt] [pf] c) (ha : OkE Y Γ d τ pt (p1 :: E) a) (dg : decode Y.2.1 p1 = .ok (.goto off, 3)) (hg : (p1 : Int) + off = (pe : Int)) (hE : pe ∈ E) (hb : OkE Y Γ d τ pf E b) : OkE Y Γ d τ pc E (eIf c a b) := by
  intro Z hC L S v r st hf hd hk
  obtain ⟨x, g1, g2⟩ := Option.bind_eq_some_iff.mp hf
  refine hc Z hC L S v x st g1 hd (fun q t ht => ?_) (fun q t ht => ?_)
  · rw [List.mem_singleton.mp ht]
    rw [if_pos q] at g2
    refine ha Z hC L S x.2 r st g2 hd (fun hi t ht => ?_)
    rcases List.mem_cons.mp ht with rfl | ht
    · exact wx_goto hC dg hg (hk hi _ hE)
    · exact hk hi t ht
  · rw [List.mem_singleton.mp ht]
    rw [if_neg (by rw [q]; decide)] at g2
    exact hb Z hC L S x.2 r st g2 hd hk
