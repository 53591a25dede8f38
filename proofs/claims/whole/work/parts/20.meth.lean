/-! RULES: a whole method; the JDK's max, min, abs; System.arraycopy -/
theorem gL_ge : ∀ (τs : List Nat) (i : Nat) (q : Nat × Nat), q ∈ gL i τs → i ≤ q.1
  | [], _, _, h => by cases h
  | τ :: τs, i, q, h => by
    rcases List.mem_cons.mp h with rfl | h
    · exact Nat.le_refl _
    · have := gL_ge τs (i + ct τ) q h
      omega
theorem ct_pos (τ : Nat) : 1 ≤ ct τ := by
  unfold ct
  split <;> decide
theorem ct_two (τ : Nat) : ct τ = 1 ∨ ct τ = 2 := by
  unfold ct
  split <;> simp
theorem entry_lv {nL : Nat} {ls : Array Slot} : ∀ (τs : List Nat) (zs : List Int) (i : Nat), irs τs zs → ls.size = nL → lv_wf ls → (∀ q ∈ lv_args i (vos τs zs), ls[q.1]? = some (.val q.2)) → LvOk nL (gL i τs) (aL i τs zs) ls
  | [], zs, i, _, h1, h2, _ => ⟨h1, h2, fun q hq => by cases hq⟩
  | τ :: τs, [], i, h, _, _, _ => h.elim
  | τ :: τs, z :: zs, i, h, h1, h2, h3 => by
    have e : lv_args i (vos (τ :: τs) (z :: zs)) = (i, vo τ z) :: lv_args (i + ct τ) (vos τs zs) := by
      show (i, vo τ z) :: lv_args (if (vo τ z).category = 2 then i + 2 else i + 1) (vos τs zs) = _
      rw [vo_ct]
      rcases ct_two τ with hc | hc
      · rw [hc]; rfl
      · rw [hc]; rfl
    rw [e] at h3
    have ih := entry_lv τs zs (i + ct τ) h.2 h1 h2 (fun q hq => h3 q (List.mem_cons_of_mem _ hq))
    refine ⟨h1, h2, fun q hq => ?_⟩
    rcases List.mem_cons.mp hq with rfl | hq
    · have e1 : aL i (τ :: τs) (z :: zs) i = z := if_pos rfl
      show ir τ (aL i (τ :: τs) (z :: zs) i) ∧ ls[i]? = some (.val (vo τ (aL i (τ :: τs) (z :: zs) i)))
      rw [e1]
      exact ⟨h.1, h3 _ List.mem_cons_self⟩
    · have hge := gL_ge τs _ q hq
      have hp := ct_pos τ
      have e1 : aL i (τ :: τs) (z :: zs) q.1 = aL (i + ct τ) τs zs q.1 := if_neg (by omega)
      rw [e1]
      exact ih.2.2 q hq
/-- an answer's type as the machine writes it -/
def RetTy (ret : Option FieldType) (τ : Nat) : Prop := (ret = some .int ∧ τ = 0) ∨ (ret = some .boolean ∧ τ = 3) ∨ (ret = some .long ∧ τ = 1) ∨ (ret = none ∧ τ = 9) ∨ ∃ n, ret = some (.object n) ∧ τ = 2
theorem metY_of {Y : YT} {y : MethodName} {ret : Option FieldType} {τs : List Nat} {s : QT} {Γ' : List (Nat × Nat)} (hcls : Y.1 = y.cls) (hplain : plainName y.cls = true) (hret : RetTy ret Y.2.2.2.2.2) (hlen : cts τs ≤ Y.2.2.1) (hS : OkS Y (gL 0 τs) Γ' 0 [] [] [] [] [] s) : MetY Y y ret τs (qM τs s) := by
  obtain ⟨own, cc, nL, fr, lo, τr⟩ := Y
  dsimp only at hcls hret hlen
  subst hcls
  refine ⟨rfl, fun l D cy A S v zs r hg hi => ?_⟩
  obtain ⟨r0, g1, g2⟩ := Option.bind_eq_some_iff.mp hg
  by_cases h3 : r0.1.1 = 3
  · rw [if_pos h3] at g2
    cases g2
    refine Met.ofW (cc := cc) (maxL := nL) (ret := ret) hplain rfl ?_
    intro p e s' m args below meth c s₁ B hml hv
    obtain ⟨rfl, hP, hW, hA⟩ := hv
    have hts := atoms_spec (ws := Cond.code y cc nL ret :: TW) B.pre
    have hlocks := B.notSynchronized
    have hx := B.exec
    have hb := B.bytes
    have hr := B.returns
    rw [lg_entry_eq]
    have hvl : (lg_sl (vos τs zs)).length ≤ nL := by
      have : ∀ (τs : List Nat) (zs : List Int), (lg_sl (vos τs zs)).length ≤ cts τs := by
        intro τs
        induction τs with
        | nil => intro zs; cases zs <;> exact Nat.le_refl _
        | cons τ τs ih =>
          intro zs
          cases zs with
          | nil => exact Nat.zero_le _
          | cons z zs =>
            have := ih zs
            show (lg_sl (vo τ z :: vos τs zs)).length ≤ ct τ + cts τs
            have e : lg_sl (vo τ z :: vos τs zs) = (if (vo τ z).category = 2 then [.val (vo τ z), .second] else [.val (vo τ z)]) ++ lg_sl (vos τs zs) := rfl
            rw [e, List.length_append, vo_ct]
            rcases ct_two τ with hc | hc
            · rw [hc]; simp only [Nat.reduceEqDiff, if_false, List.length_cons, List.length_nil]; omega
            · rw [hc]; simp only [if_true, List.length_cons, List.length_nil]; omega
      exact Nat.le_trans (this τs zs) hlen
    have hl := lv_entry (vos τs zs) (n := nL) hvl
    generalize (lg_sl (vos τs zs) ++ List.replicate (nL - (lg_sl (vos τs zs)).length) Slot.unset).toArray = ls at hl ⊢
    have hLv := entry_lv τs zs 0 hi hl.1 hl.2.1 hl.2.2
    have hC : MC (y.cls, cc, nL, fr, lo, τr) (p, l, e, (headSpec (Cond.code y cc nL ret :: TW) { frames := fr, cells := 0, slots := 0, locals := lo }).room, s', m, (vos τs zs).toArray, below, meth, c, D, cy, A, s'.heap, MQ below (QcB D cy A τr S (r0.1.2, r0.2.2)) (vos τs zs).toArray s' 0 0 A, 0, 0) :=
      ⟨hx, hb, hml, findClass_of_methodNamed B.named, fun w hw => hts w (List.mem_cons_of_mem _ hw), Nat.le_refl _, Nat.le_refl _, Nat.le_refl _, Nat.le_refl _, hA, hW, rfl⟩
    refine hS _ hC (aL 0 τs zs) S v r0 g1 (fun q => absurd (h3.symm.trans q) (by decide)) (fun q => absurd (h3.symm.trans q) (by decide)) (fun q => absurd (h3.symm.trans q) (by decide)) (fun _ => ?_) s'.heap [] ls hLv hP va_S.rf
    intro H locs ls' pc q1 q2 q3 q4
    rcases hret with ⟨rfl, rfl⟩ | ⟨rfl, rfl⟩ | ⟨rfl, rfl⟩ | ⟨rfl, rfl⟩ | ⟨n, rfl, rfl⟩
    · exact W.iret hx hb hr (fun t ht _ => ⟨rfl, q4, by rw [ht]; exact q1, q2.F ht⟩) q2.2.2 q3
    · refine W.zret hx hb hr ?_ (fun t ht _ => ⟨rfl, q4, by rw [ht]; exact q1, q2.F ht⟩) q2.2.2 q3
      exact (qfit_bool q4).1
    · exact W.lret hx hb hr (fun t ht _ => ⟨rfl, q4, by rw [ht]; exact q1, q2.F ht⟩) q2.2.2 q3
    · exact W.vret hx hb hr (fun t ht _ => ⟨rfl, q4, by rw [ht]; exact q1, q2.F ht⟩) q2.2.2 q3
    · refine W.aret hx hb hr (Or.inl ⟨n, rfl⟩) ?_ (fun t ht _ => ⟨rfl, q4, by rw [ht]; exact q1, q2.F ht⟩) q2.2.2 q3
      show vo 2 r0.1.2 = .null ∨ ∃ a, vo 2 r0.1.2 = .ref a
      by_cases hz : r0.1.2 < 0
      · exact Or.inl (if_pos hz)
      · exact Or.inr ⟨_, if_neg hz⟩
  · rw [if_neg h3] at g2; cases g2
section MATH
variable {Y : YT} {Γ : List (Nat × Nat)} {d pc p1 p2 idx : Nat} {E : List Nat} {a b : QE}
theorem okMax (ha : OkE Y Γ d 0 pc [p1] a) (hb : OkE Y Γ (d + 1) 0 p1 [p2] b) (h8 : d ≤ 8) (km : Cond.methodLink Y.1 idx yJ9_max_7cf53 ∈ TW) (hfr : 1 ≤ Y.2.2.2.1) (hlo : 21 ≤ Y.2.2.2.2.1) (hd : decode Y.2.1 p2 = .ok (.invokestatic idx, 3)) (hE : p2 + 3 ∈ E) : OkE Y Γ d 0 pc E (e2 iMax a b) := by
  intro Z hC L S v r st hf hdd hk
  obtain ⟨x, h1, h2⟩ := Option.bind_eq_some_iff.mp hf
  obtain ⟨y, h3, h4⟩ := Option.bind_eq_some_iff.mp h2
  cases h4
  refine ha Z hC L S v x st h1 hdd (fun ix t ht => ?_)
  rw [List.mem_singleton.mp ht]
  refine hb Z hC L S x.2 y (vo 0 x.1 :: st) h3 (by simp only [cat, List.map_cons, List.sum_cons, vo_ct, ct] at hdd ⊢; omega) (fun iy t ht => ?_)
  rw [List.mem_singleton.mp ht]
  have hi : ir 0 (iMax x.1 y.1) := by unfold iMax; split <;> assumption
  have hk := hk hi _ hE
  obtain ⟨own, cc, nL, fr, lo, τr⟩ := Y
  obtain ⟨p, l, e, R, s, m, args, below, meth, c, D, cy, A, H0, Q, cells, slots⟩ := Z
  obtain ⟨hx, hbb, hml, ho, hts, hfrR, hloR, hce, hsl, hA, hW, -⟩ := hC
  intro H locs ls g1 g2 g3
  refine va_mmax hx hbb (hml.trans g1.1.symm) ho (hts _ km) (hts _ ks_J9_max_7cf53) (hts _ kn_J9) (hts _ kc_J9_max_7cf53) (Nat.le_trans hfr hfrR) ?_ hce hsl hd ?_
  · have : cat st ≤ 8 := Nat.le_trans hdd h8
    have : lo ≤ R.locals := hloR
    have : 21 ≤ lo := hlo
    show cat st + 13 ≤ R.locals
    omega
  · have e1 : (if Int32.ofInt x.1 < Int32.ofInt y.1 then Int32.ofInt y.1 else Int32.ofInt x.1) = Int32.ofInt (iMax x.1 y.1) := by
      unfold iMax
      by_cases q : x.1 < y.1
      · rw [if_pos q, if_pos ((i_ltI ix iy).mpr q)]
      · rw [if_neg q, if_neg (fun z => q ((i_ltI ix iy).mp z))]
    rw [e1]
    exact hk H locs ls g1 g2 g3
theorem okMin (ha : OkE Y Γ d 0 pc [p1] a) (hb : OkE Y Γ (d + 1) 0 p1 [p2] b) (h8 : d ≤ 8) (km : Cond.methodLink Y.1 idx yJ9_min_7cf53 ∈ TW) (hfr : 1 ≤ Y.2.2.2.1) (hlo : 21 ≤ Y.2.2.2.2.1) (hd : decode Y.2.1 p2 = .ok (.invokestatic idx, 3)) (hE : p2 + 3 ∈ E) : OkE Y Γ d 0 pc E (e2 iMin a b) := by
  intro Z hC L S v r st hf hdd hk
  obtain ⟨x, h1, h2⟩ := Option.bind_eq_some_iff.mp hf
  obtain ⟨y, h3, h4⟩ := Option.bind_eq_some_iff.mp h2
  cases h4
  refine ha Z hC L S v x st h1 hdd (fun ix t ht => ?_)
  rw [List.mem_singleton.mp ht]
  refine hb Z hC L S x.2 y (vo 0 x.1 :: st) h3 (by simp only [cat, List.map_cons, List.sum_cons, vo_ct, ct] at hdd ⊢; omega) (fun iy t ht => ?_)
  rw [List.mem_singleton.mp ht]
  have hi : ir 0 (iMin x.1 y.1) := by unfold iMin; split <;> assumption
  have hk := hk hi _ hE
  obtain ⟨own, cc, nL, fr, lo, τr⟩ := Y
  obtain ⟨p, l, e, R, s, m, args, below, meth, c, D, cy, A, H0, Q, cells, slots⟩ := Z
  obtain ⟨hx, hbb, hml, ho, hts, hfrR, hloR, hce, hsl, hA, hW, -⟩ := hC
  intro H locs ls g1 g2 g3
  refine va_mmin hx hbb (hml.trans g1.1.symm) ho (hts _ km) (hts _ ks_J9_min_7cf53) (hts _ kn_J9) (hts _ kc_J9_min_7cf53) (Nat.le_trans hfr hfrR) ?_ hce hsl hd ?_
  · have : cat st ≤ 8 := Nat.le_trans hdd h8
    have : lo ≤ R.locals := hloR
    have : 21 ≤ lo := hlo
    show cat st + 13 ≤ R.locals
    omega
  · have e1 : (if Int32.ofInt y.1 < Int32.ofInt x.1 then Int32.ofInt y.1 else Int32.ofInt x.1) = Int32.ofInt (iMin x.1 y.1) := by
      unfold iMin
      by_cases q : y.1 < x.1
      · rw [if_pos q, if_pos ((i_ltI iy ix).mpr q)]
      · rw [if_neg q, if_neg (fun z => q ((i_ltI iy ix).mp z))]
    rw [e1]
    exact hk H locs ls g1 g2 g3
theorem okMaxL (ha : OkE Y Γ d 1 pc [p1] a) (hb : OkE Y Γ (d + 2) 1 p1 [p2] b) (h8 : d ≤ 8) (km : Cond.methodLink Y.1 idx yJ9_max_f86c9 ∈ TW) (hfr : 1 ≤ Y.2.2.2.1) (hlo : 23 ≤ Y.2.2.2.2.1) (hd : decode Y.2.1 p2 = .ok (.invokestatic idx, 3)) (hE : p2 + 3 ∈ E) : OkE Y Γ d 1 pc E (e2 iMax a b) := by
  intro Z hC L S v r st hf hdd hk
  obtain ⟨x, h1, h2⟩ := Option.bind_eq_some_iff.mp hf
  obtain ⟨y, h3, h4⟩ := Option.bind_eq_some_iff.mp h2
  cases h4
  refine ha Z hC L S v x st h1 hdd (fun ix t ht => ?_)
  rw [List.mem_singleton.mp ht]
  refine hb Z hC L S x.2 y (vo 1 x.1 :: st) h3 (by simp only [cat, List.map_cons, List.sum_cons, vo_ct, ct] at hdd ⊢; omega) (fun iy t ht => ?_)
  rw [List.mem_singleton.mp ht]
  have hi : ir 1 (iMax x.1 y.1) := by unfold iMax; split <;> assumption
  have hk := hk hi _ hE
  obtain ⟨own, cc, nL, fr, lo, τr⟩ := Y
  obtain ⟨p, l, e, R, s, m, args, below, meth, c, D, cy, A, H0, Q, cells, slots⟩ := Z
  obtain ⟨hx, hbb, hml, ho, hts, hfrR, hloR, hce, hsl, hA, hW, -⟩ := hC
  intro H locs ls g1 g2 g3
  refine va_mmax_long hx hbb (hml.trans g1.1.symm) ho (hts _ km) (hts _ ks_J9_max_f86c9) (hts _ kn_J9) (hts _ kc_J9_max_f86c9) (Nat.le_trans hfr hfrR) ?_ hce hsl hd ?_
  · have : cat st ≤ 8 := Nat.le_trans hdd h8
    have : lo ≤ R.locals := hloR
    have : 23 ≤ lo := hlo
    show cat st + 15 ≤ R.locals
    omega
  · have e1 : (if Int64.ofInt y.1 < Int64.ofInt x.1 then Int64.ofInt x.1 else Int64.ofInt y.1) = Int64.ofInt (iMax x.1 y.1) := by
      unfold iMax
      by_cases q : x.1 < y.1
      · rw [if_pos q, if_neg (fun z => by have := (l_ltI iy ix).mp z; omega)]
      · rw [if_neg q]
        by_cases q2 : y.1 < x.1
        · rw [if_pos ((l_ltI iy ix).mpr q2)]
        · have : x.1 = y.1 := by omega
          rw [this, if_neg (fun z => by have := (l_ltI iy iy).mp z; omega)]
    rw [e1]
    exact hk H locs ls g1 g2 g3
theorem okAbsL (ha : OkE Y Γ d 1 pc [p1] a) (h8 : d ≤ 8) (km : Cond.methodLink Y.1 idx yJ9_abs_067f4 ∈ TW) (hfr : 1 ≤ Y.2.2.2.1) (hlo : 21 ≤ Y.2.2.2.2.1) (hd : decode Y.2.1 p1 = .ok (.invokestatic idx, 3)) (hE : p1 + 3 ∈ E) : OkE Y Γ d 1 pc E (e1 lAbs a) := by
  intro Z hC L S v r st hf hdd hk
  obtain ⟨x, h1, h2⟩ := Option.bind_eq_some_iff.mp hf
  cases h2
  refine ha Z hC L S v x st h1 hdd (fun ix t ht => ?_)
  rw [List.mem_singleton.mp ht]
  have hi : ir 1 (lAbs x.1) := by
    unfold lAbs
    split
    · assumption
    · exact w64_ir _
  have hk := hk hi _ hE
  obtain ⟨own, cc, nL, fr, lo, τr⟩ := Y
  obtain ⟨p, l, e, R, s, m, args, below, meth, c, D, cy, A, H0, Q, cells, slots⟩ := Z
  obtain ⟨hx, hbb, hml, ho, hts, hfrR, hloR, hce, hsl, hA, hW, -⟩ := hC
  intro H locs ls g1 g2 g3
  refine va_mabs_long hx hbb (hml.trans g1.1.symm) ho (hts _ km) (hts _ ks_J9_abs_067f4) (hts _ kn_J9) (hts _ kc_J9_abs_067f4) (Nat.le_trans hfr hfrR) ?_ hce hsl hd ?_
  · have : cat st ≤ 8 := Nat.le_trans hdd h8
    have : lo ≤ R.locals := hloR
    have : 21 ≤ lo := hlo
    show cat st + 13 ≤ R.locals
    omega
  · have e1 : (if 0 < Int64.ofInt x.1 then Int64.ofInt x.1 else -Int64.ofInt x.1) = Int64.ofInt (lAbs x.1) := by
      have z0 : (0 : Int64) = Int64.ofInt 0 := rfl
      have i0 : ir 1 0 := by show _ ∧ _; omega
      unfold lAbs
      by_cases q : 0 < x.1
      · rw [if_pos q, if_pos (by rw [z0]; exact (l_ltI i0 ix).mpr q)]
      · rw [if_neg q, if_neg (fun z => q (by rw [z0] at z; exact (l_ltI i0 ix).mp z)), l_w, Int64.ofInt_neg]
    rw [e1]
    exact hk H locs ls g1 g2 g3
end MATH
/-- System.arraycopy of ints or booleans -/
theorem okCopy {Y : YT} {Γ Γb Γk : List (Nat × Nat)} {pc p1 p2 p3 p4 p5 idx κ : Nat} {E B K : List Nat} {a i b j n : QE} (hκ : κ = 20 ∨ κ = 24) (ha : OkE Y Γ 0 2 pc [p1] a) (hi : OkE Y Γ 1 0 p1 [p2] i) (hb : OkE Y Γ 2 2 p2 [p3] b) (hj : OkE Y Γ 3 0 p3 [p4] j) (hn : OkE Y Γ 4 0 p4 [p5] n) (km : Cond.methodLink Y.1 idx arraycopyName ∈ TW) (kN : Cond.native arraycopyName ∈ TW) (ks : Cond.static arraycopyName ∈ TW) (kn : Cond.initialized "java/lang/System" ∈ TW) (hfr : 1 ≤ Y.2.2.2.1) (hlo : nativeFrameWords "java/lang/System" "arraycopy" 5 + 11 ≤ Y.2.2.2.2.1) (hd : decode Y.2.1 p5 = .ok (.invokestatic idx, 3)) (hE : p5 + 3 ∈ E) : OkS Y Γ Γ pc E Γb B Γk K (sCopy κ a i b j n) := by
  intro Z hC L S v r hf k0 k1 k2 k3
  obtain ⟨ra, h1, h2⟩ := Option.bind_eq_some_iff.mp hf
  obtain ⟨ri, h3, h4⟩ := Option.bind_eq_some_iff.mp h2
  obtain ⟨rb, h5, h6⟩ := Option.bind_eq_some_iff.mp h4
  obtain ⟨rj, h7, h8⟩ := Option.bind_eq_some_iff.mp h6
  obtain ⟨rn, h9, h10⟩ := Option.bind_eq_some_iff.mp h8
  by_cases hx : S.1 ra.1 = κ ∧ S.1 rb.1 = κ ∧ 0 ≤ ri.1 ∧ 0 ≤ rj.1 ∧ 0 ≤ rn.1 ∧ ri.1 + rn.1 ≤ S.2.1 ra.1 ∧ rj.1 + rn.1 ≤ S.2.1 rb.1
  · rw [if_pos hx] at h10
    cases h10
    obtain ⟨x1, x2, x3, x4, x5, x6, x7⟩ := hx
    refine ha Z hC L S v ra [] h1 (Nat.le_refl _) (fun i1 t ht => ?_)
    rw [List.mem_singleton.mp ht]
    refine hi Z hC L S ra.2 ri [vo 2 ra.1] h3 (by simp only [cat, List.map_cons, List.map_nil, List.sum_cons, List.sum_nil, vo_ct, ct]; decide) (fun i2 t ht => ?_)
    rw [List.mem_singleton.mp ht]
    refine hb Z hC L S ri.2 rb [vo 0 ri.1, vo 2 ra.1] h5 (by simp only [cat, List.map_cons, List.map_nil, List.sum_cons, List.sum_nil, vo_ct, ct]; decide) (fun i3 t ht => ?_)
    rw [List.mem_singleton.mp ht]
    refine hj Z hC L S rb.2 rj [vo 2 rb.1, vo 0 ri.1, vo 2 ra.1] h7 (by simp only [cat, List.map_cons, List.map_nil, List.sum_cons, List.sum_nil, vo_ct, ct]; decide) (fun i4 t ht => ?_)
    rw [List.mem_singleton.mp ht]
    refine hn Z hC L S rj.2 rn [vo 0 rj.1, vo 2 rb.1, vo 0 ri.1, vo 2 ra.1] h9 (by simp only [cat, List.map_cons, List.map_nil, List.sum_cons, List.sum_nil, vo_ct, ct]; decide) (fun i5 t ht => ?_)
    rw [List.mem_singleton.mp ht]
    have k0 := k0 rfl _ hE
    obtain ⟨own, cc, nL, fr, lo, τr⟩ := Y
    obtain ⟨p, l, e, R, s, m, args, below, meth, c, D, cy, A, H0, Q, cells, slots⟩ := Z
    obtain ⟨hx0, hbb, hml, ho, hts, hfrR, hloR, hce, hsl, hA, hW, -⟩ := hC
    intro H locs ls g1 g2 g3
    have hκ20 : 20 ≤ κ := by omega
    have hτ : vo (eτ κ) = fun z => .int (Int32.ofInt z) := by
      funext z
      rcases hκ with rfl | rfl <;> rfl
    obtain ⟨q1, q2, q3⟩ := g2.2 ra.1 (by omega)
    obtain ⟨q4, q5, q6⟩ := g2.2 rb.1 (by omega)
    obtain ⟨r1, r2, r3, r4, r5⟩ := cOk_arr (by omega) q3
    obtain ⟨y1, y2, y3, y4, y5⟩ := cOk_arr (by omega) q6
    have q5 := q5.resolve_left (by omega)
    rw [x1] at r1 r4 r5
    rw [x2] at y1 y4 y5
    rw [hτ] at r5 y5
    obtain ⟨t0, ht0⟩ := kL_idx r1 cy
    have harr := (hW.1.2 t0 _ ht0).1
    rw [vo2 q1, vo2 q4, vo0, vo0, vo0]
    obtain ⟨-, ka, hka, cma, hkka⟩ := harr (S.2.1 ra.1).toNat (fun k => .int (Int32.ofInt (rn.2 ra.1 k)))
    obtain ⟨-, kb, hkb, cmb, hkkb⟩ := harr (S.2.1 rb.1).toNat (fun k => .int (Int32.ofInt (rn.2 rb.1 k)))
    have si : (arrV (cy κ) (S.2.1 ra.1).toNat (fun k => .int (Int32.ofInt (rn.2 ra.1 k)))).slots.size = (S.2.1 ra.1).toNat := arrV_size _ _ _
    have sj : (arrV (cy κ) (S.2.1 rb.1).toNat (fun k => .int (Int32.ofInt (rn.2 rb.1 k)))).slots.size = (S.2.1 rb.1).toNat := arrV_size _ _ _
    have nneg : ∀ z : Int, ir 0 z → 0 ≤ z → ¬ Int32.ofInt z < 0 := fun z hz h0 q => by
      have := (i_ltI hz ir_z).mp q
      omega
    have hprim : refKind (aT κ) = false := by rcases hκ with rfl | rfl <;> rfl
    intro T hT X
    obtain ⟨vm', X', step⟩ := X.arraycopy hx0 ho (hts _ km) (hts _ kN) (hts _ ks) (hts _ kn) (src := ra.1.toNat) (dst := rb.1.toNat) (cs := arrV (cy κ) (S.2.1 ra.1).toNat (fun k => .int (Int32.ofInt (rn.2 ra.1 k)))) (cd := arrV (cy κ) (S.2.1 rb.1).toNat (fun k => .int (Int32.ofInt (rn.2 rb.1 k)))) (srcPos := Int32.ofInt ri.1) (destPos := Int32.ofInt rj.1) (n := Int32.ofInt rn.1) (by rw [hT]; exact r5) (by rw [hT]; exact y5)
      (fun _ h => by cases h) (fun _ h => by cases h) (fun h => by cases h) (fun h => by cases h) hka hkb hkka hkkb (by simp [hprim]) (nneg _ i2 x3) (nneg _ i4 x4) (nneg _ i5 x5)
      (by rw [i_toInt i2, i_toInt i5, si]; omega)
      (by rw [i_toInt i4, i_toInt i5, sj]; omega)
      (fun vm₁ _ q hq => by
        rw [i_nat i5] at hq
        have e : (arrV (cy κ) (S.2.1 ra.1).toNat (fun k => Value.int (Int32.ofInt (rn.2 ra.1 k)))).slots.getD ((Int32.ofInt ri.1).toNatClampNeg + q) .null = .int (Int32.ofInt (rn.2 ra.1 ((ri.1.toNat + q : Nat) : Int))) := by
          rw [Array.getD_eq_getD_getElem?, i_nat i2, arrV_read _ _ (by omega)]
          rfl
        refine ⟨?_, ?_⟩
        · rw [e]
          have hr := r4 (ri.1.toNat + q) (by omega)
          rcases hκ with rfl | rfl
          · rfl
          · exact (qfit_bool hr).2
        · rw [e]
          exact trivial)
      (g := F0 m p5 ls (.int (Int32.ofInt rn.1) :: .int (Int32.ofInt rj.1) :: .ref rb.1.toNat :: .int (Int32.ofInt ri.1) :: .ref ra.1.toNat :: [])) rfl (by rw [hml]; exact g1.1) (rest := []) rfl (by rw [hbb]; exact hd) (Nat.le_trans hfr hfrR) (by
        have h1 : lo ≤ R.locals := hloR
        have h2 : nativeFrameWords "java/lang/System" "arraycopy" 5 + 11 ≤ lo := hlo
        show 2 * 0 + 0 + _ ≤ _
        omega)
    have e1 : copied (arrV (cy κ) (S.2.1 ra.1).toNat (fun k => .int (Int32.ofInt (rn.2 ra.1 k)))) (arrV (cy κ) (S.2.1 rb.1).toNat (fun k => .int (Int32.ofInt (rn.2 rb.1 k)))) (Int32.ofInt ri.1) (Int32.ofInt rj.1) (Int32.ofInt rn.1) = arrV (cy κ) (S.2.1 rb.1).toNat (fun q => .int (va_cpy (fun k : Nat => Int32.ofInt (rn.2 ra.1 k)) (fun k : Nat => Int32.ofInt (rn.2 rb.1 k)) (Int32.ofInt ri.1).toNatClampNeg (Int32.ofInt rj.1).toNatClampNeg (Int32.ofInt rn.1).toNatClampNeg q)) := va_copied (fun z => .int z) (cy κ) (cy κ) (fun k : Nat => Int32.ofInt (rn.2 ra.1 k)) (fun k : Nat => Int32.ofInt (rn.2 rb.1 k)) (by rw [i_nat i2, i_nat i5]; omega)
    rw [e1, i_nat i2, i_nat i4, i_nat i5] at X' step
    generalize hnew : arrV (cy κ) (S.2.1 rb.1).toNat (fun q => Value.int (va_cpy (fun k : Nat => Int32.ofInt (rn.2 ra.1 k)) (fun k : Nat => Int32.ofInt (rn.2 rb.1 k)) ri.1.toNat rj.1.toNat rn.1.toNat q)) = cell at X' step
    have hl : rb.1.toNat < H.size := (Array.getElem?_eq_some_iff.mp y5).1
    have hheap : ((T.setVm vm').setCell rb.1.toNat cell).heap = H.setIfInBounds rb.1.toNat cell := by rw [← hT]; rfl
    have hat : (H.setIfInBounds rb.1.toNat cell)[rb.1.toNat]? = some cell := by simp [Array.getElem?_setIfInBounds, hl]
    have oq : ∀ q : Nat, q ≠ rb.1.toNat → (H.setIfInBounds rb.1.toNat cell)[q]? = H[q]? := fun q hq => by simp [Array.getElem?_setIfInBounds, Ne.symm hq]
    have hz : (H.setIfInBounds rb.1.toNat cell).size = H.size := by simp
    obtain ⟨t, a1, b1⟩ := k0 _ _ ls g1 (by
      refine ⟨by rw [hz]; exact g2.1, fun a ha0 => ?_⟩
      obtain ⟨w1, w2, w3⟩ := g2.2 a ha0
      refine ⟨w1, w2, ?_⟩
      by_cases e : a = rb.1
      · subst e
        rw [x2]
        refine Or.inr (Or.inl ⟨hκ20, y1, y2, y3, fun k hk => ?_, ?_⟩)
        · by_cases hc : rj.1 ≤ (k : Int) ∧ (k : Int) < rj.1 + rn.1
          · simp only [true_and, if_pos hc]
            have := r4 (ri.1 + ((k : Int) - rj.1)).toNat (by omega)
            rw [Int.toNat_of_nonneg (by omega)] at this
            exact this
          · simp only [true_and, if_neg hc]
            exact y4 k hk
        · rw [hat, ← hnew, hτ]
          refine congrArg (fun f => some (arrV (cy κ) (S.2.1 rb.1).toNat f)) ?_
          funext k
          unfold va_cpy
          by_cases hc : rj.1 ≤ (k : Int) ∧ (k : Int) < rj.1 + rn.1
          · have hc2 : rj.1.toNat ≤ k ∧ k < rj.1.toNat + rn.1.toNat := by omega
            simp only [true_and, if_pos hc, if_pos hc2]
            have : ((ri.1.toNat + (k - rj.1.toNat) : Nat) : Int) = ri.1 + ((k : Int) - rj.1) := by omega
            rw [this]
          · have hc2 : ¬ (rj.1.toNat ≤ k ∧ k < rj.1.toNat + rn.1.toNat) := by omega
            simp only [true_and, if_neg hc, if_neg hc2]
      · have e1 : (fun k => if a = rb.1 ∧ rj.1 ≤ k ∧ k < rj.1 + rn.1 then rn.2 ra.1 (ri.1 + (k - rj.1)) else rn.2 a k) = rn.2 a := by
          funext k
          rw [if_neg (fun h => e h.1)]
        show cOk D cy (S.1 a) (S.2.1 a) (fun k => if a = rb.1 ∧ rj.1 ≤ k ∧ k < rj.1 + rn.1 then rn.2 ra.1 (ri.1 + (k - rj.1)) else rn.2 a k) a.toNat _
        rw [e1]
        exact w3.kept (oq _ (fun x => e (by omega)))) ⟨by rw [hz]; exact g3.1, fun q g4 g5 => by
        rw [oq q (fun e => g5 (by rw [e]; exact q5))]
        exact g3.2.1 q g4 g5, fun q hq => by
        rcases List.mem_append.mp hq with h | h
        · exact g3.2.2 q h
        · obtain ⟨z, -, hz⟩ := List.mem_map.mp h
          rw [← hz]
          exact q5⟩ _ hheap X'
    exact ⟨t, step t a1, b1⟩
  · rw [if_neg hx] at h10; cases h10
