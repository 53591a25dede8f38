/-! CALLS: what a method's contract says, and how it is used -/
def rv (τ : Nat) (z : Int) : Option Value := if τ = 9 then none else some (vo τ z)
theorem rv_rst (τ : Nat) (z : Int) : (rv τ z).toList = rst τ z := by
  unfold rv rst
  split <;> rfl
def PreB (D : va_G) (cy : Nat → ClassId) (A : Nat → Prop) (S : QS) (v : QV) : State → Prop := fun U => hpOk D cy A S v U.heap ∧ WK D cy A U ∧ ∀ q, U.heap.size ≤ q → A q
def QcB (D : va_G) (cy : Nat → ClassId) (A : Nat → Prop) (τ : Nat) (S : QS) (r : Int × QV) : Array Value → State → Outcome → State → Prop := fun _ st oc t => oc = .returned (rv τ r.1) ∧ ir τ r.1 ∧ hpOk D cy A S r.2 t.heap ∧ va_F A st t
def MetY (Y : YT) (y : MethodName) (ret : Option FieldType) (τs : List Nat) (g : QM) : Prop :=
  Y.1 = y.cls ∧ ∀ (l : Launch) (D : va_G) (cy : Nat → ClassId) (A : Nat → Prop) (S : QS) (v : QV) (zs : List Int) (r : Int × QV), g zs S v = some r → irs τs zs → Met l y (Cond.code y Y.2.1 Y.2.2.1 ret :: TW) { frames := Y.2.2.2.1, cells := 0, slots := 0, locals := Y.2.2.2.2.1 } (va_Pc (vos τs zs) (PreB D cy A S v)) (QcB D cy A Y.2.2.2.2.2 S r) 0 0 A
theorem xx_call {p : Program} {l : Launch} {e : Env} {R : Room} {s : State} {m : MethodId} {args : Array Value} {below : List Frame} {meth : Method} {c : Code} {H H0 : Heap} {locs : List Loc} {cells slots : Nat} {Q : State → Prop} {pc : Nat} {ls : Array Slot} {rest st0 : List Value} {a : Array Value} {A : Nat → Prop} {D : va_G} {cy : Nat → ClassId} {S : QS} {r : Int × QV} {τ : Nat}
    (hr : va_Run p l e R s m args below meth c H locs cells slots 0 0 (F0 m pc ls st0) rest (QcB D cy A τ S r a) A) (hS : va_S A H0 H locs)
    (kk : ∀ (H1 : Heap) (locs1 : List Loc), ir τ r.1 → hpOk D cy A S r.2 H1 → va_S A H0 H1 locs1 → W p l e R s m args below meth c H1 locs1 cells slots Q (F0 m (pc + 3) ls (rst τ r.1 ++ rest))) : W p l e R s m args below meth c H locs cells slots Q (F0 m pc ls st0) := by
  intro T hT X
  obtain ⟨v, st₀, t, T', L, h0, X', hL, e1, e2, ⟨hv, hi, hp, hz, hk⟩, st⟩ := hr T hT X
  have hv : v = rv τ r.1 := by injection hv
  subst hv
  rw [h0] at hz hk
  obtain ⟨t2, a1, b1⟩ := kk T'.heap (locs ++ L) hi (by rw [e1]; exact hp)
    ⟨Nat.le_trans hS.1 (by rw [e1]; exact hz), fun q h1 h2 => by rw [e1, hk q (Nat.lt_of_lt_of_le h1 hS.1) h2]; exact hS.2.1 q h1 h2, fun q hq => by
      rcases List.mem_append.mp hq with h | h
      · exact hS.2.2 q h
      · exact hL q h⟩ T' rfl X'
  rw [rv_rst] at st
  exact ⟨t2, st t2 a1, b1⟩
theorem tw_sub {ws : List Cond} (h : ∀ w ∈ ws, w ∈ TW) : GoodIn TW ws := fun w hw => tw_good w (h w hw)
theorem pre_blind {D : va_G} {cy : Nat → ClassId} {A : Nat → Prop} {S : QS} {v : QV} {av : List Value} : FrameBlind (va_Pc av (PreB D cy A S v)) := fun a U g mk q => ⟨q.1, q.2.1, q.2.2.1.same (s := U) (U := U.calling g mk a) rfl rfl, q.2.2.2⟩
theorem pre_at {D : va_G} {cy : Nat → ClassId} {A : Nat → Prop} {S : QS} {v : QV} {av : List Value} {s U : State} {H : Heap} {locs : List Loc} (hP : hpOk D cy A S v H) (hW : WK D cy A s) (hA : ∀ q, s.heap.size ≤ q → A q) (hS : va_S A s.heap H locs) (hU : U.heap = H) (hw : s.WarmedH U.vm) : va_Pc av (PreB D cy A S v) av.toArray U :=
  ⟨rfl, by rw [hU]; exact hP, hW.moved hw (fun a h1 h2 => by rw [hU]; exact hS.2.1 a h1 h2), fun q hq => hA q (Nat.le_trans hS.1 (by rw [← hU]; exact hq))⟩
theorem irs_len {τs : List Nat} : ∀ {zs : List Int}, irs τs zs → (vos τs zs).length = τs.length := by
  induction τs with
  | nil => intro zs h; cases zs with
    | nil => rfl
    | cons z zs => exact h.elim
  | cons τ τs ih => intro zs h; cases zs with
    | nil => exact h.elim
    | cons z zs => simp only [vos, List.length_cons, ih h.2]
/-- what must be known of a callee: parameters, no handle -/
def CF (y : MethodName) (n : Nat) : Prop := y.cls ≠ "java/lang/invoke/MethodHandle" ∧ y.cls ≠ "java/lang/invoke/VarHandle" ∧ (parseMethodDescriptor y.desc).map (fun d => d.parameters.length) = some n
theorem wx_callS {Y Y2 : YT} {y : MethodName} {ret : Option FieldType} {τs : List Nat} {g : QM} {idx : Nat} (hM : MetY Y2 y ret τs g) (hf : CF y τs.length) (hown : y.cls = Y.1) (kc : Cond.code y Y2.2.1 Y2.2.2.1 ret ∈ TW) (km : Cond.methodLink Y.1 idx y ∈ TW) (ks : Cond.static y ∈ TW) (kn : Cond.initialized Y.1 ∈ TW) (hfr : Y2.2.2.2.1 + 1 ≤ Y.2.2.2.1) (hlo : 8 + (Y2.2.2.1 + 11) + Y2.2.2.2.2.1 ≤ Y.2.2.2.2.1)
    {Z : ZT} (hC : MC Y Z) {Γ : List (Nat × Nat)} {L : QL} {S : QS} {v : QV} {pc : Nat} {zs : List Int} {r : Int × QV} {st : List Value} (hg : g zs S v = some r) (hi : irs τs zs) (hcat : cat st ≤ 8) (hd : decode Y.2.1 pc = .ok (.invokestatic idx, 3)) (hk : ir Y2.2.2.2.2.2 r.1 → WX Z Y.2.2.1 Γ L S r.2 (pc + 3) (rst Y2.2.2.2.2.2 r.1 ++ st)) : WX Z Y.2.2.1 Γ L S v pc ((vos τs zs).reverse ++ st) := by
  obtain ⟨own, cc, nL, fr, lo, τr⟩ := Y
  obtain ⟨p, l, e, R, s, m, args, below, meth, c, D, cy, A, H0, Q, cells, slots⟩ := Z
  obtain ⟨hx, hb, hml, ho, hts, hfrR, hloR, hce, hsl, hA, hW, rfl⟩ := hC
  intro H locs ls g1 g2 g3
  have hgood : GoodIn TW (wsS own idx y (Cond.code y Y2.2.1 Y2.2.2.1 ret :: TW)) := by
    apply tw_sub
    intro w hw
    simp only [wsS, List.cons_append, List.nil_append, List.mem_cons] at hw
    rcases hw with rfl | rfl | rfl | rfl | hw
    · exact km
    · exact ks
    · exact kn
    · exact kc
    · exact hw
  exact xx_call (va_runS (As := vos τs zs) (rest := st) ⟨hx, hb, hml, ho, hts⟩ (hM.2 l D cy A S v zs r hg hi) (cwS τs.length hts hgood rfl rfl rfl ⟨hown, hf⟩ ⟨Nat.le_trans hfr hfrR, Nat.le_trans hlo hloR⟩) ⟨pre_blind, fun U hU hw => pre_at g2 hW hA g3 hU hw⟩ rfl (irs_len hi) g1.1 rfl (lv_room hcat) hd ⟨hce, hsl⟩) g3 (fun H1 locs1 hir hp hs => hk hir H1 locs1 ls g1 hp hs)
theorem wx_callSN {Y Y2 : YT} {y : MethodName} {ret : Option FieldType} {τs : List Nat} {g : QM} {idx : Nat} {host : String} (hM : MetY Y2 y ret τs g) (hf : CF y τs.length) (kc : Cond.code y Y2.2.1 Y2.2.2.1 ret ∈ TW) (km : (Y.1, idx, y, host) ∈ nestL) (ks : Cond.static y ∈ TW) (kn : Cond.initialized y.cls ∈ TW) (hfr : Y2.2.2.2.1 + 1 ≤ Y.2.2.2.1) (hlo : 8 + (Y2.2.2.1 + 11) + Y2.2.2.2.2.1 ≤ Y.2.2.2.2.1)
    {Z : ZT} (hC : MC Y Z) {Γ : List (Nat × Nat)} {L : QL} {S : QS} {v : QV} {pc : Nat} {zs : List Int} {r : Int × QV} {st : List Value} (hg : g zs S v = some r) (hi : irs τs zs) (hcat : cat st ≤ 8) (hd : decode Y.2.1 pc = .ok (.invokestatic idx, 3)) (hk : ir Y2.2.2.2.2.2 r.1 → WX Z Y.2.2.1 Γ L S r.2 (pc + 3) (rst Y2.2.2.2.2.2 r.1 ++ st)) : WX Z Y.2.2.1 Γ L S v pc ((vos τs zs).reverse ++ st) := by
  obtain ⟨own, cc, nL, fr, lo, τr⟩ := Y
  obtain ⟨p, l, e, R, s, m, args, below, meth, c, D, cy, A, H0, Q, cells, slots⟩ := Z
  obtain ⟨hx, hb, hml, ho, hts, hfrR, hloR, hce, hsl, hA, hW, rfl⟩ := hC
  intro H locs ls g1 g2 g3
  have hgood : GoodIn TW (Cond.code y Y2.2.1 Y2.2.2.1 ret :: TW) := by
    apply tw_sub
    intro w hw
    rcases List.mem_cons.mp hw with rfl | hw
    · exact kc
    · exact hw
  exact xx_call (va_runSN (As := vos τs zs) (rest := st) ⟨hx, hb, hml, ho, hts⟩ (hM.2 l D cy A S v zs r hg hi) ⟨va_cnB τs.length hts hgood rfl rfl rfl (hW.2.1 _ km) (hts _ kn) hf ⟨Nat.le_trans hfr hfrR, Nat.le_trans hlo hloR⟩, hts _ ks, trivial⟩ ⟨pre_blind, fun U hU hw => pre_at g2 hW hA g3 hU hw⟩ rfl (irs_len hi) g1.1 rfl (lv_room hcat) hd ⟨hce, hsl⟩) g3 (fun H1 locs1 hir hp hs => hk hir H1 locs1 ls g1 hp hs)
/-- the class of an object that the heap holds -/
theorem qrecv {D : va_G} {cy : Nat → ClassId} {A : Nat → Prop} {S : QS} {v : QV} {H : Heap} {s : State} {a : Int} {ci N : Nat} {C : String} {T : u_T} {ty : Nat → FieldType} (hI : CI ci C T N ty) (hW : WK D cy A s) (hP : hpOk D cy A S v H) (hk : S.1 a = ci + 1) : 0 ≤ a ∧ ∃ cellB : Cell, H[a.toNat]? = some cellB ∧ cellB.vm.isStatics = false ∧ s.vm.findClass C = some cellB.cls := by
  obtain ⟨q1, q2, q3⟩ := hP.2 a (by rw [hk]; omega)
  rw [hk] at q3
  obtain ⟨-, cell, q5, q6, q7, -⟩ := cOk_obj hI q3
  obtain ⟨-, hfc, -⟩ := hW.1.1 ci _ hI.1
  exact ⟨q1, cell, q5, by rw [q7]; rfl, by rw [q6]; exact hfc⟩
theorem wx_callV {Y Y2 : YT} {y : MethodName} {ret : Option FieldType} {τs : List Nat} {g : QM} {idx ci N : Nat} {C : String} {T : u_T} {ty : Nat → FieldType} (hM : MetY Y2 y ret (2 :: τs) g) (hf : CF y τs.length) (hI : CI ci C T N ty) (hown : y.cls = C) (kc : Cond.code y Y2.2.1 Y2.2.2.1 ret ∈ TW) (km : Cond.methodLink Y.1 idx y ∈ TW) (ki : Cond.instanceMethod y ∈ TW) (kv : Cond.selects C y y ∈ TW) (kn : Cond.initialized C ∈ TW) (hfr : Y2.2.2.2.1 + 1 ≤ Y.2.2.2.1) (hlo : 8 + (Y2.2.2.1 + 11) + Y2.2.2.2.2.1 ≤ Y.2.2.2.2.1)
    {Z : ZT} (hC : MC Y Z) {Γ : List (Nat × Nat)} {L : QL} {S : QS} {v : QV} {pc : Nat} {a : Int} {zs : List Int} {r : Int × QV} {st : List Value} (hg : g (a :: zs) S v = some r) (hka : S.1 a = ci + 1) (hi : irs (2 :: τs) (a :: zs)) (hcat : cat st ≤ 8) (hd : decode Y.2.1 pc = .ok (.invokevirtual idx, 3)) (hk : ir Y2.2.2.2.2.2 r.1 → WX Z Y.2.2.1 Γ L S r.2 (pc + 3) (rst Y2.2.2.2.2.2 r.1 ++ st)) : WX Z Y.2.2.1 Γ L S v pc ((vos (2 :: τs) (a :: zs)).reverse ++ st) := by
  obtain ⟨own, cc, nL, fr, lo, τr⟩ := Y
  obtain ⟨p, l, e, R, s, m, args, below, meth, c, D, cy, A, H0, Q, cells, slots⟩ := Z
  obtain ⟨hx, hb, hml, ho, hts, hfrR, hloR, hce, hsl, hA, hW, rfl⟩ := hC
  intro H locs ls g1 g2 g3
  obtain ⟨a0, hrecv⟩ := qrecv hI hW g2 hka
  have hgood : GoodIn TW (wsV own idx C y (Cond.code y Y2.2.1 Y2.2.2.1 ret :: TW)) := by
    apply tw_sub
    intro w hw
    simp only [wsV, List.cons_append, List.nil_append, List.mem_cons] at hw
    rcases hw with rfl | rfl | rfl | rfl | rfl | hw
    · exact km
    · exact ki
    · exact kv
    · exact kn
    · exact kc
    · exact hw
  have e1 : vos (2 :: τs) (a :: zs) = .ref a.toNat :: vos τs zs := by
    show vo 2 a :: _ = _
    rw [vo2 a0]
  rw [e1, List.reverse_cons, List.append_assoc]
  have hMet := hM.2 l D cy A S v (a :: zs) r hg hi
  rw [e1] at hMet
  exact xx_call (va_runV (As := vos τs zs) (rest := st) ⟨hx, hb, hml, ho, hts⟩ hMet (cwV τs.length hts hgood rfl rfl rfl ⟨hown, hf⟩ ⟨Nat.le_trans hfr hfrR, Nat.le_trans hlo hloR⟩) ⟨pre_blind, hrecv, fun U hU hw => pre_at g2 hW hA g3 hU hw⟩ rfl (irs_len hi.2) g1.1 rfl (lv_room hcat) hd ⟨hce, hsl⟩) g3 (fun H1 locs1 hir hp hs => hk hir H1 locs1 ls g1 hp hs)
/-- arguments -/
theorem okNil {Y : YT} {Γ : List (Nat × Nat)} {d pc : Nat} : OkEs Y Γ d [] pc [pc] [] := by
  intro Z hC L S v r st hf hd hk
  cases hf
  exact hk trivial pc (List.mem_singleton.mpr rfl)
theorem okCons {Y : YT} {Γ : List (Nat × Nat)} {d pc p1 τ : Nat} {τs : List Nat} {E : List Nat} {f : QE} {fs : List QE} (h : OkE Y Γ d τ pc [p1] f) (hs : OkEs Y Γ (d + ct τ) τs p1 E fs) : OkEs Y Γ d (τ :: τs) pc E (f :: fs) := by
  intro Z hC L S v r st hf hd hk
  obtain ⟨x, h1, h2⟩ := Option.bind_eq_some_iff.mp hf
  obtain ⟨y, h3, h4⟩ := Option.bind_eq_some_iff.mp h2
  cases h4
  refine h Z hC L S v x st h1 hd (fun hi t ht => ?_)
  rw [List.mem_singleton.mp ht]
  refine hs Z hC L S x.2 y (vo τ x.1 :: st) h3 (by simp only [cat, List.map_cons, List.sum_cons, vo_ct] at hd ⊢; omega) (fun hi2 t ht => ?_)
  have hk := hk ⟨hi, hi2⟩ t ht
  rw [show vos (τ :: τs) (x.1 :: y.1) = vo τ x.1 :: vos τs y.1 from rfl, List.reverse_cons, List.append_assoc] at hk
  exact hk
