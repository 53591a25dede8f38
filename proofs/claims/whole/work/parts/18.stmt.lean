/-! RULES: statements -/
/-- a call as an expression -/
theorem okCallS {τ : Nat} {Y Y2 : YT} {y : MethodName} {ret : Option FieldType} {τs : List Nat} {g : QM} {idx : Nat} {Γ : List (Nat × Nat)} {d pc p1 : Nat} {E : List Nat} {as : List QE} (ha : OkEs Y Γ d τs pc [p1] as) (hM : MetY Y2 y ret τs g) (hf : CF y τs.length) (hown : y.cls = Y.1) (kc : Cond.code y Y2.2.1 Y2.2.2.1 ret ∈ TW) (km : Cond.methodLink Y.1 idx y ∈ TW) (ks : Cond.static y ∈ TW) (kn : Cond.initialized Y.1 ∈ TW) (hfr : Y2.2.2.2.1 + 1 ≤ Y.2.2.2.1) (hlo : 8 + (Y2.2.2.1 + 11) + Y2.2.2.2.2.1 ≤ Y.2.2.2.2.1) (hd : decode Y.2.1 p1 = .ok (.invokestatic idx, 3)) (hE : p1 + 3 ∈ E) (h8 : d ≤ 8) (hτ : Y2.2.2.2.2.2 = τ) (h9 : τ ≠ 9) : OkE Y Γ d τ pc E (eCall g as) := by
  subst hτ
  intro Z hC L S v r st hF hdd hk
  obtain ⟨x, h1, h2⟩ := Option.bind_eq_some_iff.mp hF
  refine ha Z hC L S v x st h1 hdd (fun hi t ht => ?_)
  rw [List.mem_singleton.mp ht]
  refine wx_callS hM hf hown kc km ks kn hfr hlo hC h2 hi (Nat.le_trans hdd h8) hd (fun hir => ?_)
  have := hk hir _ hE
  rw [rst, if_neg h9]
  exact this
theorem okCallSN {τ : Nat} {Y Y2 : YT} {y : MethodName} {ret : Option FieldType} {τs : List Nat} {g : QM} {idx : Nat} {host : String} {Γ : List (Nat × Nat)} {d pc p1 : Nat} {E : List Nat} {as : List QE} (ha : OkEs Y Γ d τs pc [p1] as) (hM : MetY Y2 y ret τs g) (hf : CF y τs.length) (kc : Cond.code y Y2.2.1 Y2.2.2.1 ret ∈ TW) (km : (Y.1, idx, y, host) ∈ nestL) (ks : Cond.static y ∈ TW) (kn : Cond.initialized y.cls ∈ TW) (hfr : Y2.2.2.2.1 + 1 ≤ Y.2.2.2.1) (hlo : 8 + (Y2.2.2.1 + 11) + Y2.2.2.2.2.1 ≤ Y.2.2.2.2.1) (hd : decode Y.2.1 p1 = .ok (.invokestatic idx, 3)) (hE : p1 + 3 ∈ E) (h8 : d ≤ 8) (hτ : Y2.2.2.2.2.2 = τ) (h9 : τ ≠ 9) : OkE Y Γ d τ pc E (eCall g as) := by
  subst hτ
  intro Z hC L S v r st hF hdd hk
  obtain ⟨x, h1, h2⟩ := Option.bind_eq_some_iff.mp hF
  refine ha Z hC L S v x st h1 hdd (fun hi t ht => ?_)
  rw [List.mem_singleton.mp ht]
  refine wx_callSN hM hf kc km ks kn hfr hlo hC h2 hi (Nat.le_trans hdd h8) hd (fun hir => ?_)
  have := hk hir _ hE
  rw [rst, if_neg h9]
  exact this
theorem okCallV {τ : Nat} {Y Y2 : YT} {y : MethodName} {ret : Option FieldType} {τs : List Nat} {g : QM} {idx ci N : Nat} {C : String} {T : u_T} {ty : Nat → FieldType} {Γ : List (Nat × Nat)} {d pc p1 : Nat} {E : List Nat} {as : List QE} (ha : OkEs Y Γ d (2 :: τs) pc [p1] as) (hM : MetY Y2 y ret (2 :: τs) g) (hf : CF y τs.length) (hI : CI ci C T N ty) (hown : y.cls = C) (kc : Cond.code y Y2.2.1 Y2.2.2.1 ret ∈ TW) (km : Cond.methodLink Y.1 idx y ∈ TW) (ki : Cond.instanceMethod y ∈ TW) (kv : Cond.selects C y y ∈ TW) (kn : Cond.initialized C ∈ TW) (hfr : Y2.2.2.2.1 + 1 ≤ Y.2.2.2.1) (hlo : 8 + (Y2.2.2.1 + 11) + Y2.2.2.2.2.1 ≤ Y.2.2.2.2.1) (hd : decode Y.2.1 p1 = .ok (.invokevirtual idx, 3)) (hE : p1 + 3 ∈ E) (h8 : d ≤ 8) (hτ : Y2.2.2.2.2.2 = τ) (h9 : τ ≠ 9) : OkE Y Γ d τ pc E (eCallV ci g as) := by
  subst hτ
  intro Z hC L S v r st hF hdd hk
  obtain ⟨x, h1, h2⟩ := Option.bind_eq_some_iff.mp hF
  by_cases hka : S.1 (x.1.headD (-1)) = ci + 1
  · rw [if_pos hka] at h2
    refine ha Z hC L S v x st h1 hdd (fun hi t ht => ?_)
    rw [List.mem_singleton.mp ht]
    obtain ⟨xl, xv⟩ := x
    cases xl with
    | nil => exact hi.elim
    | cons a zs =>
      refine wx_callV hM hf hI hown kc km ki kv kn hfr hlo hC h2 hka hi (Nat.le_trans hdd h8) hd (fun hir => ?_)
      have := hk hir _ hE
      rw [rst, if_neg h9]
      exact this
  · rw [if_neg hka] at h2; cases h2
section STMT
variable {Y : YT} {Γ Γ' Γb Γk : List (Nat × Nat)} {pc p1 p2 p3 : Nat} {E B K : List Nat}
theorem okSkip (h : pc ∈ E) : OkS Y Γ Γ pc E Γb B Γk K sSkip := by
  intro Z hC L S v r hf h0 h1 h2 h3
  cases hf
  exact h0 rfl pc h
theorem okBrk0 (h : pc ∈ B) : OkS Y Γb Γ' pc E Γb B Γk K sBrk := by
  intro Z hC L S v r hf h0 h1 h2 h3
  cases hf
  exact h1 rfl pc h
theorem okCnt0 (h : pc ∈ K) : OkS Y Γk Γ' pc E Γb B Γk K sCnt := by
  intro Z hC L S v r hf h0 h1 h2 h3
  cases hf
  exact h2 rfl pc h
/-- a jump goes first -/
theorem okGo {s : QT} {tg : Nat} {off : Int} (hd : decode Y.2.1 pc = .ok (.goto off, 3)) (ht : (pc : Int) + off = (tg : Int)) (h : OkS Y Γ Γ' tg E Γb B Γk K s) : OkS Y Γ Γ' pc E Γb B Γk K s := by
  intro Z hC L S v r hf h0 h1 h2 h3
  exact wx_goto hC hd ht (h Z hC L S v r hf h0 h1 h2 h3)
/-- a jump comes last -/
theorem okEnd {s : QT} {tg : Nat} {off : Int} (h : OkS Y Γ Γ' pc (p1 :: E) Γb B Γk K s) (hd : decode Y.2.1 p1 = .ok (.goto off, 3)) (ht : (p1 : Int) + off = (tg : Int)) (hE : tg ∈ E) : OkS Y Γ Γ' pc E Γb B Γk K s := by
  intro Z hC L S v r hf h0 h1 h2 h3
  refine h Z hC L S v r hf (fun q t hm => ?_) h1 h2 h3
  rcases List.mem_cons.mp hm with rfl | hm
  · exact wx_goto hC hd ht (h0 q _ hE)
  · exact h0 q t hm
theorem okWeak {s : QT} {Γ1 : List (Nat × Nat)} (h : OkS Y Γ Γ1 pc E Γb B Γk K s) (hs : ∀ q ∈ Γ', q ∈ Γ1) : OkS Y Γ Γ' pc E Γb B Γk K s := by
  intro Z hC L S v r hf h0 h1 h2 h3
  exact h Z hC L S v r hf (fun q t hm => (h0 q t hm).sub hs) h1 h2 h3
theorem okPre {s : QT} {Γ1 : List (Nat × Nat)} (h : OkS Y Γ1 Γ' pc E Γb B Γk K s) (hs : ∀ q ∈ Γ1, q ∈ Γ) : OkS Y Γ Γ' pc E Γb B Γk K s := by
  intro Z hC L S v r hf h0 h1 h2 h3
  exact (h Z hC L S v r hf h0 h1 h2 h3).sub hs
theorem okSeq {a b : QT} {Γ1 : List (Nat × Nat)} (h1 : OkS Y Γ Γ1 pc [p1] Γb B Γk K a) (h2 : OkS Y Γ1 Γ' p1 E Γb B Γk K b) : OkS Y Γ Γ' pc E Γb B Γk K (sSeq a b) := by
  intro Z hC L S v r hf k0 k1 k2 k3
  obtain ⟨x, g1, g2⟩ := Option.bind_eq_some_iff.mp hf
  by_cases hx : x.1.1 = 0
  · rw [if_pos hx] at g2
    exact h1 Z hC L S v x g1 (fun _ t ht => by rw [List.mem_singleton.mp ht]; exact h2 Z hC x.2.1 S x.2.2 r g2 k0 k1 k2 k3) (fun q => absurd (hx.symm.trans q) (by decide)) (fun q => absurd (hx.symm.trans q) (by decide)) (fun q => absurd (hx.symm.trans q) (by decide))
  · rw [if_neg hx] at g2
    cases g2
    exact h1 Z hC L S v r g1 (fun q => absurd q hx) k1 k2 k3
/-- the first one may end at several places -/
theorem okSeqL {a b : QT} {Γ1 : List (Nat × Nat)} {E1 : List Nat} (h1 : OkS Y Γ Γ1 pc E1 Γb B Γk K a) (h2 : ∀ t ∈ E1, OkS Y Γ1 Γ' t E Γb B Γk K b) : OkS Y Γ Γ' pc E Γb B Γk K (sSeq a b) := by
  intro Z hC L S v r hf k0 k1 k2 k3
  obtain ⟨x, g1, g2⟩ := Option.bind_eq_some_iff.mp hf
  by_cases hx : x.1.1 = 0
  · rw [if_pos hx] at g2
    exact h1 Z hC L S v x g1 (fun _ t ht => h2 t ht Z hC x.2.1 S x.2.2 r g2 k0 k1 k2 k3) (fun q => absurd (hx.symm.trans q) (by decide)) (fun q => absurd (hx.symm.trans q) (by decide)) (fun q => absurd (hx.symm.trans q) (by decide))
  · rw [if_neg hx] at g2
    cases g2
    exact h1 Z hC L S v r g1 (fun q => absurd q hx) k1 k2 k3
theorem okIf {c : QC} {a b : QT} {T F : List Nat} (hc : OkC Y Γ 0 pc T F c) (ha : ∀ t ∈ T, OkS Y Γ Γ' t E Γb B Γk K a) (hb : ∀ t ∈ F, OkS Y Γ Γ' t E Γb B Γk K b) : OkS Y Γ Γ' pc E Γb B Γk K (sIf c a b) := by
  intro Z hC L S v r hf k0 k1 k2 k3
  obtain ⟨x, g1, g2⟩ := Option.bind_eq_some_iff.mp hf
  refine hc Z hC L S v x [] g1 (Nat.le_refl _) (fun q t ht => ?_) (fun q t ht => ?_)
  · rw [if_pos q] at g2
    exact ha t ht Z hC L S x.2 r g2 k0 k1 k2 k3
  · rw [if_neg (by rw [q]; decide)] at g2
    exact hb t ht Z hC L S x.2 r g2 k0 k1 k2 k3
theorem one {p : Nat → Prop} {t : Nat} (h : p t) : ∀ q ∈ [t], p q := fun q hq => by rw [List.mem_singleton.mp hq]; exact h
theorem okWh {c : QC} {b u : QT} {T F Eb : List Nat} (hc : OkC Y Γ 0 pc T F c) (hF : ∀ t ∈ F, t ∈ E) (hb : ∀ t ∈ T, OkS Y Γ Γ t Eb Γ E Γ Eb b) (hu : ∀ t ∈ Eb, OkS Y Γ Γ t [pc] [] [] [] [] u) : ∀ n : Nat, OkS Y Γ Γ pc E Γb B Γk K (sWh c b u n) := by
  intro n
  induction n with
  | zero => intro Z hC L S v r hf; cases hf
  | succ n ih =>
    intro Z hC L S v r hf k0 k1 k2 k3
    obtain ⟨x, g1, g2⟩ := Option.bind_eq_some_iff.mp hf
    refine hc Z hC L S v x [] g1 (Nat.le_refl _) (fun q t ht => ?_) (fun q t ht => ?_)
    · rw [if_pos q] at g2
      obtain ⟨y, g3, g4⟩ := Option.bind_eq_some_iff.mp g2
      have again : y.1.1 = 0 ∨ y.1.1 = 2 → ∀ t ∈ Eb, WX Z Y.2.2.1 Γ y.2.1 S y.2.2 t [] := by
        intro hy t ht
        rw [if_pos hy] at g4
        obtain ⟨z, g5, g6⟩ := Option.bind_eq_some_iff.mp g4
        by_cases hz : z.1.1 = 0
        · rw [if_pos hz] at g6
          exact hu t ht Z hC y.2.1 S y.2.2 z g5 (fun _ t ht => by rw [List.mem_singleton.mp ht]; exact ih Z hC z.2.1 S z.2.2 r g6 k0 k1 k2 k3) (fun q => absurd (hz.symm.trans q) (by decide)) (fun q => absurd (hz.symm.trans q) (by decide)) (fun q => absurd (hz.symm.trans q) (by decide))
        · rw [if_neg hz] at g6; cases g6
      refine hb t ht Z hC L S x.2 y g3 (fun q => again (Or.inl q)) (fun q t ht => ?_) (fun q => again (Or.inr q)) (fun q => ?_)
      · rw [if_neg (by rw [q]; decide), if_pos q] at g4
        cases g4
        exact k0 rfl t ht
      · rw [if_neg (by rw [q]; decide), if_neg (by rw [q]; decide)] at g4
        cases g4
        exact k3 q
    · rw [if_neg (by rw [q]; decide)] at g2
      cases g2
      exact k0 rfl t (hF t ht)
theorem okWhile {c : QC} {b u : QT} {T F Eb : List Nat} (hc : OkC Y Γ 0 pc T F c) (hF : ∀ t ∈ F, t ∈ E) (hb : ∀ t ∈ T, OkS Y Γ Γ t Eb Γ E Γ Eb b) (hu : ∀ t ∈ Eb, OkS Y Γ Γ t [pc] [] [] [] [] u) : OkS Y Γ Γ pc E Γb B Γk K (sWhile c b u) := okWh hc hF hb hu _
theorem okRet {e : QE} {τ : Nat} (he : OkE Y Γ 0 τ pc [p1] e) (hτ : Y.2.2.2.2.2 = τ) (h9 : τ ≠ 9) (hd : decode Y.2.1 p1 = .ok (rI τ, 1)) : OkS Y Γ Γ' pc E Γb B Γk K (sRet e) := by
  intro Z hC L S v r hf k0 k1 k2 k3
  obtain ⟨x, g1, g2⟩ := Option.bind_eq_some_iff.mp hf
  cases g2
  refine he Z hC L S v x [] g1 (Nat.le_refl _) (fun hi t ht => ?_)
  rw [List.mem_singleton.mp ht]
  have k3 := k3 rfl
  obtain ⟨own, cc, nL, fr, lo, τr⟩ := Y
  obtain ⟨p, l, ee, R, s, m, args, below, meth, c, D, cy, A, H0, Q, cells, slots⟩ := Z
  obtain rfl : τr = τ := hτ
  intro H locs ls q1 q2 q3
  have := k3 H locs ls p1 q2 q3 hd hi
  rw [rst, if_neg h9] at this
  exact this
theorem okRetV (hτ : Y.2.2.2.2.2 = 9) (hd : decode Y.2.1 pc = .ok (.return_, 1)) : OkS Y Γ Γ' pc E Γb B Γk K sRetV := by
  intro Z hC L S v r hf k0 k1 k2 k3
  cases hf
  have k3 := k3 rfl
  obtain ⟨own, cc, nL, fr, lo, τr⟩ := Y
  obtain ⟨p, l, ee, R, s, m, args, below, meth, c, D, cy, A, H0, Q, cells, slots⟩ := Z
  obtain rfl : τr = 9 := hτ
  intro H locs ls q1 q2 q3
  exact k3 H locs ls pc q2 q3 hd (show (-2147483648 : Int) ≤ 0 ∧ (0 : Int) < 2147483648 from ⟨by decide, by decide⟩)
/-- stores into locals -/
theorem ok_istore {e : QE} {k τ : Nat} (he : OkE Y Γ 0 τ pc [p1] e) (hτ : τ = 0 ∨ τ = 3 ∨ τ = 4 ∨ τ = 5) (hd : decode Y.2.1 p1 = .ok (.istore k, 2)) (hn : k < Y.2.2.1) (hE : p1 + 2 ∈ E) (hΓ : ∀ q ∈ Γ', q = (k, τ) ∨ (q ∈ Γ ∧ q.1 ≠ k ∧ ¬ (q.1 + 1 = k ∧ ct q.2 = 2))) : OkS Y Γ Γ' pc E Γb B Γk K (sSet k e) := by
  intro Z hC L S v r hf k0 k1 k2 k3
  obtain ⟨x, g1, g2⟩ := Option.bind_eq_some_iff.mp hf
  cases g2
  refine he Z hC L S v x [] g1 (Nat.le_refl _) (fun hi t ht => ?_)
  rw [List.mem_singleton.mp ht]
  have k0 := k0 rfl _ hE
  have hcτ : ct τ = 1 := by rcases hτ with rfl | rfl | rfl | rfl <;> rfl
  obtain ⟨p, l, ee, R, s, m, args, below, meth, c, D, cy, A, H0, Q, cells, slots⟩ := Z
  obtain ⟨hx, hb, -⟩ := hC
  intro H locs ls q1 q2 q3
  have e1 := vo_i hτ x.1
  rw [e1]
  exact lv_istore hx hb hd q1.has hn rfl (fun ls' h' => k0 H locs ls' (q1.set1 hi hcτ (by rw [e1]; exact h') hΓ) q2 q3)
theorem ok_istore_n {e : QE} {k τ : Nat} {i : Fin 4} (he : OkE Y Γ 0 τ pc [p1] e) (hτ : τ = 0 ∨ τ = 3 ∨ τ = 4 ∨ τ = 5) (hd : decode Y.2.1 p1 = .ok (.istore_n i, 1)) (hik : (i : Nat) = k) (hn : k < Y.2.2.1) (hE : p1 + 1 ∈ E) (hΓ : ∀ q ∈ Γ', q = (k, τ) ∨ (q ∈ Γ ∧ q.1 ≠ k ∧ ¬ (q.1 + 1 = k ∧ ct q.2 = 2))) : OkS Y Γ Γ' pc E Γb B Γk K (sSet k e) := by
  intro Z hC L S v r hf k0 k1 k2 k3
  obtain ⟨x, g1, g2⟩ := Option.bind_eq_some_iff.mp hf
  cases g2
  refine he Z hC L S v x [] g1 (Nat.le_refl _) (fun hi t ht => ?_)
  rw [List.mem_singleton.mp ht]
  have k0 := k0 rfl _ hE
  have hcτ : ct τ = 1 := by rcases hτ with rfl | rfl | rfl | rfl <;> rfl
  obtain ⟨p, l, ee, R, s, m, args, below, meth, c, D, cy, A, H0, Q, cells, slots⟩ := Z
  obtain ⟨hx, hb, -⟩ := hC
  intro H locs ls q1 q2 q3
  have e1 := vo_i hτ x.1
  rw [e1]
  exact lv_istore_n hx hb hd hik q1.has hn rfl (fun ls' h' => k0 H locs ls' (q1.set1 hi hcτ (by rw [e1]; exact h') hΓ) q2 q3)
theorem ok_lstore {e : QE} {k : Nat} (he : OkE Y Γ 0 1 pc [p1] e) (hd : decode Y.2.1 p1 = .ok (.lstore k, 2)) (hn : k + 1 < Y.2.2.1) (hE : p1 + 2 ∈ E) (hΓ : ∀ q ∈ Γ', q = (k, 1) ∨ (q ∈ Γ ∧ q.1 ≠ k ∧ q.1 ≠ k + 1 ∧ ¬ (q.1 + 1 = k ∧ ct q.2 = 2))) : OkS Y Γ Γ' pc E Γb B Γk K (sSet k e) := by
  intro Z hC L S v r hf k0 k1 k2 k3
  obtain ⟨x, g1, g2⟩ := Option.bind_eq_some_iff.mp hf
  cases g2
  refine he Z hC L S v x [] g1 (Nat.le_refl _) (fun hi t ht => ?_)
  rw [List.mem_singleton.mp ht]
  have k0 := k0 rfl _ hE
  obtain ⟨p, l, ee, R, s, m, args, below, meth, c, D, cy, A, H0, Q, cells, slots⟩ := Z
  obtain ⟨hx, hb, -⟩ := hC
  intro H locs ls q1 q2 q3
  exact lv_lstore hx hb hd q1.has hn rfl (fun ls' h' => k0 H locs ls' (q1.set2 hi h' hΓ) q2 q3)
theorem ok_lstore_n {e : QE} {k : Nat} {i : Fin 4} (he : OkE Y Γ 0 1 pc [p1] e) (hd : decode Y.2.1 p1 = .ok (.lstore_n i, 1)) (hik : (i : Nat) = k) (hn : k + 1 < Y.2.2.1) (hE : p1 + 1 ∈ E) (hΓ : ∀ q ∈ Γ', q = (k, 1) ∨ (q ∈ Γ ∧ q.1 ≠ k ∧ q.1 ≠ k + 1 ∧ ¬ (q.1 + 1 = k ∧ ct q.2 = 2))) : OkS Y Γ Γ' pc E Γb B Γk K (sSet k e) := by
  intro Z hC L S v r hf k0 k1 k2 k3
  obtain ⟨x, g1, g2⟩ := Option.bind_eq_some_iff.mp hf
  cases g2
  refine he Z hC L S v x [] g1 (Nat.le_refl _) (fun hi t ht => ?_)
  rw [List.mem_singleton.mp ht]
  have k0 := k0 rfl _ hE
  obtain ⟨p, l, ee, R, s, m, args, below, meth, c, D, cy, A, H0, Q, cells, slots⟩ := Z
  obtain ⟨hx, hb, -⟩ := hC
  intro H locs ls q1 q2 q3
  exact lv_lstore_n hx hb hd hik q1.has hn rfl (fun ls' h' => k0 H locs ls' (q1.set2 hi h' hΓ) q2 q3)
theorem ok_astore {e : QE} {k : Nat} (he : OkE Y Γ 0 2 pc [p1] e) (hd : decode Y.2.1 p1 = .ok (.astore k, 2)) (hn : k < Y.2.2.1) (hE : p1 + 2 ∈ E) (hΓ : ∀ q ∈ Γ', q = (k, 2) ∨ (q ∈ Γ ∧ q.1 ≠ k ∧ ¬ (q.1 + 1 = k ∧ ct q.2 = 2))) : OkS Y Γ Γ' pc E Γb B Γk K (sSet k e) := by
  intro Z hC L S v r hf k0 k1 k2 k3
  obtain ⟨x, g1, g2⟩ := Option.bind_eq_some_iff.mp hf
  cases g2
  refine he Z hC L S v x [] g1 (Nat.le_refl _) (fun hi t ht => ?_)
  rw [List.mem_singleton.mp ht]
  have k0 := k0 rfl _ hE
  obtain ⟨p, l, ee, R, s, m, args, below, meth, c, D, cy, A, H0, Q, cells, slots⟩ := Z
  obtain ⟨hx, hb, -⟩ := hC
  intro H locs ls q1 q2 q3
  by_cases hz : x.1 < 0
  · have e1 : vo 2 x.1 = .null := if_pos hz
    rw [e1]
    exact lv_astoreN hx hb hd q1.has hn rfl (fun ls' h' => k0 H locs ls' (q1.set1 hi rfl (by rw [e1]; exact h') hΓ) q2 q3)
  · have e1 : vo 2 x.1 = .ref x.1.toNat := if_neg hz
    rw [e1]
    exact lv_astore hx hb hd q1.has hn rfl (fun ls' h' => k0 H locs ls' (q1.set1 hi rfl (by rw [e1]; exact h') hΓ) q2 q3)
theorem ok_astore_n {e : QE} {k : Nat} {i : Fin 4} (he : OkE Y Γ 0 2 pc [p1] e) (hd : decode Y.2.1 p1 = .ok (.astore_n i, 1)) (hik : (i : Nat) = k) (hn : k < Y.2.2.1) (hE : p1 + 1 ∈ E) (hΓ : ∀ q ∈ Γ', q = (k, 2) ∨ (q ∈ Γ ∧ q.1 ≠ k ∧ ¬ (q.1 + 1 = k ∧ ct q.2 = 2))) : OkS Y Γ Γ' pc E Γb B Γk K (sSet k e) := by
  intro Z hC L S v r hf k0 k1 k2 k3
  obtain ⟨x, g1, g2⟩ := Option.bind_eq_some_iff.mp hf
  cases g2
  refine he Z hC L S v x [] g1 (Nat.le_refl _) (fun hi t ht => ?_)
  rw [List.mem_singleton.mp ht]
  have k0 := k0 rfl _ hE
  obtain ⟨p, l, ee, R, s, m, args, below, meth, c, D, cy, A, H0, Q, cells, slots⟩ := Z
  obtain ⟨hx, hb, -⟩ := hC
  intro H locs ls q1 q2 q3
  by_cases hz : x.1 < 0
  · have e1 : vo 2 x.1 = .null := if_pos hz
    rw [e1]
    exact lv_astore_nN hx hb hd hik q1.has hn rfl (fun ls' h' => k0 H locs ls' (q1.set1 hi rfl (by rw [e1]; exact h') hΓ) q2 q3)
  · have e1 : vo 2 x.1 = .ref x.1.toNat := if_neg hz
    rw [e1]
    exact lv_astore_n hx hb hd hik q1.has hn rfl (fun ls' h' => k0 H locs ls' (q1.set1 hi rfl (by rw [e1]; exact h') hΓ) q2 q3)
theorem okInc {k : Nat} {n : Int} (hm : (k, 0) ∈ Γ) (hd : decode Y.2.1 pc = .ok (.iinc k n, 3)) (hn : k < Y.2.2.1) (hE : pc + 3 ∈ E) (hΓ : ∀ q ∈ Γ', q = (k, 0) ∨ (q ∈ Γ ∧ q.1 ≠ k ∧ ¬ (q.1 + 1 = k ∧ ct q.2 = 2))) : OkS Y Γ Γ' pc E Γb B Γk K (sInc k n) := by
  intro Z hC L S v r hf k0 k1 k2 k3
  cases hf
  have k0 := k0 rfl _ hE
  obtain ⟨p, l, ee, R, s, m, args, below, meth, c, D, cy, A, H0, Q, cells, slots⟩ := Z
  obtain ⟨hx, hb, -⟩ := hC
  intro H locs ls q1 q2 q3
  have hmem : (k, Value.int (Int32.ofInt (L k))) ∈ (Γ.map fun q => (q.1, vo q.2 (L q.1))) := List.mem_map.mpr ⟨(k, 0), hm, rfl⟩
  obtain ⟨j, hj⟩ := List.getElem?_of_mem hmem
  refine lv_iinc hx hb hd q1.has hj (v := Int32.ofInt (w32 (L k + n))) ?_ hn rfl (fun ls' h' => k0 H locs ls' (q1.set1 (τ := 0) (w32_ir _) rfl h' hΓ) q2 q3)
  rw [i_w, Int32.ofInt_add]
/-- a call as a statement -/
theorem okDoP {e : QE} {τ : Nat} (he : OkE Y Γ 0 τ pc [p1] e) (hτ : ct τ = 1) (hd : decode Y.2.1 p1 = .ok (.pop, 1)) (hE : p1 + 1 ∈ E) : OkS Y Γ Γ pc E Γb B Γk K (sDo e) := by
  intro Z hC L S v r hf k0 k1 k2 k3
  obtain ⟨x, g1, g2⟩ := Option.bind_eq_some_iff.mp hf
  cases g2
  refine he Z hC L S v x [] g1 (Nat.le_refl _) (fun hi t ht => ?_)
  rw [List.mem_singleton.mp ht]
  have k0 := k0 rfl _ hE
  obtain ⟨p, l, ee, R, s, m, args, below, meth, c, D, cy, A, H0, Q, cells, slots⟩ := Z
  obtain ⟨hx, hb, -⟩ := hC
  intro H locs ls q1 q2 q3
  exact lv_pop hx hb hd (by rw [vo_ct]; exact hτ) (k0 H locs ls q1 q2 q3)
theorem okDoV {Y2 : YT} {y : MethodName} {ret : Option FieldType} {τs : List Nat} {g : QM} {idx ci N : Nat} {C : String} {T : u_T} {ty : Nat → FieldType} {as : List QE} (ha : OkEs Y Γ 0 (2 :: τs) pc [p1] as) (hM : MetY Y2 y ret (2 :: τs) g) (hf : CF y τs.length) (hI : CI ci C T N ty) (hown : y.cls = C) (kc : Cond.code y Y2.2.1 Y2.2.2.1 ret ∈ TW) (km : Cond.methodLink Y.1 idx y ∈ TW) (ki : Cond.instanceMethod y ∈ TW) (kv : Cond.selects C y y ∈ TW) (kn : Cond.initialized C ∈ TW) (hfr : Y2.2.2.2.1 + 1 ≤ Y.2.2.2.1) (hlo : 8 + (Y2.2.2.1 + 11) + Y2.2.2.2.2.1 ≤ Y.2.2.2.2.1) (hd : decode Y.2.1 p1 = .ok (.invokevirtual idx, 3)) (hE : p1 + 3 ∈ E) (h9 : Y2.2.2.2.2.2 = 9) : OkS Y Γ Γ pc E Γb B Γk K (sDo (eCallV ci g as)) := by
  intro Z hC L S v r hF k0 k1 k2 k3
  obtain ⟨w, g1, g2⟩ := Option.bind_eq_some_iff.mp hF
  cases g2
  obtain ⟨x, h1, h2⟩ := Option.bind_eq_some_iff.mp g1
  by_cases hka : S.1 (x.1.headD (-1)) = ci + 1
  · rw [if_pos hka] at h2
    refine ha Z hC L S v x [] h1 (Nat.le_refl _) (fun hi t ht => ?_)
    rw [List.mem_singleton.mp ht]
    obtain ⟨xl, xv⟩ := x
    cases xl with
    | nil => exact hi.elim
    | cons a zs =>
      refine wx_callV hM hf hI hown kc km ki kv kn hfr hlo hC h2 hka hi (by decide) hd (fun hir => ?_)
      have := k0 rfl _ hE
      rw [rst, if_pos h9]
      exact this
  · rw [if_neg hka] at h2; cases h2
end STMT
