/-! RULES: a constructor's statements, and a whole constructor; the law's script -/
theorem qfit_arr (T : FieldType) (z : Int) : QFit (.array T) z := by
  unfold QFit
  show narrow (.array T) (vo 2 z) = vo 2 z ∧ fits (.array T) (vo 2 z) = true
  by_cases h : z < 0
  · have e1 : vo 2 z = .null := if_pos h
    rw [e1]; exact ⟨rfl, rfl⟩
  · have e1 : vo 2 z = .ref z.toNat := if_neg h
    rw [e1]; exact ⟨rfl, rfl⟩
theorem nAl_at {κ m : Nat} {n : Int} {d : Int → Int} {N M : QN} (h : nAl κ n m d N = some M) : M.1.1 (N.1.2.2 : Int) = κ := by
  unfold nAl at h
  split at h
  · cases h; exact if_pos rfl
  · cases h
theorem cat1 (z : Int) : cat [vo 2 z] ≤ 1 := by simp only [cat, List.map_cons, List.map_nil, List.sum_cons, List.sum_nil, vo_ct, ct]; omega
def nSuper : NT := fun L N => if 0 ≤ L 0 then some (L, N) else none
theorem okN_super {Y : YT} {Γ : List (Nat × Nat)} {pc p0 idx : Nat} {E : List Nat} (ha : OkE Y Γ 0 2 pc [p0] (eV 0)) (km : Cond.methodLink Y.1 idx Lib.objectInit ∈ TW) (hfr : 1 ≤ Y.2.2.2.1) (hlo : 12 ≤ Y.2.2.2.2.1) (hd : decode Y.2.1 p0 = .ok (.invokespecial idx, 3)) (hE : p0 + 3 ∈ E) : OkN Y Γ Γ pc E nSuper := by
  intro Z hC hI L N r hf hk k u hk1 hu1
  unfold nSuper at hf
  by_cases h0 : 0 ≤ L 0
  case neg => rw [if_neg h0] at hf; cases hf
  rw [if_pos h0] at hf
  cases hf
  refine ha (ZC Z k u) (hC.at (by omega) (by omega)) L N.1 N.2.1 (L 0, N.2.1) [] rfl (Nat.zero_le _) (fun _ t ht => ?_)
  rw [List.mem_singleton.mp ht]
  exact wn_super hC km hfr hlo h0 hd (hk _ hE) k u hk1 hu1
theorem okN_FA {Y : YT} {Γ : List (Nat × Nat)} {pc p0 p1 ci k N0 idx κ : Nat} {n : Int} {at_ : ArrayType} {E : List Nat} {C : String} {T : u_T} {ty : Nat → FieldType} (ha : OkE Y Γ 0 2 pc [p0] (eV 0)) (he : OkE Y Γ 1 0 p0 [p1] (eI n)) (hI : AK κ at_) (ka : Cond.arrayClass (aT κ) ∈ TW) (h0 : 0 ≤ n) (hn : n < 2147483648) (hby : n.toNat * componentBytes (aT κ) ≤ 536870912) (hd : decode Y.2.1 p1 = .ok (.newarray at_, 2)) (hCI : CI ci C T N0 ty) (hk0 : k < N0) (hw : Cond.fieldLink Y.1 idx (T k).1 (T k).2.1 (T k).2.2.1 ∈ TW) (hfin : (T k).2.2.2 = false ∨ (T k).1 = Y.1) (hτ2 : cτ ci k = 2) (hfit : ∀ z, QFit (ty k) z) (hd2 : decode Y.2.1 (p1 + 2) = .ok (.putfield idx, 3)) (hE : p1 + 2 + 3 ∈ E) : OkN Y Γ Γ pc E (nFA ci (k : Int) κ n) := by
  intro Z hC hI2 L N r hf hk kc uc hk1 hu1
  obtain ⟨M, h1, h2⟩ := Option.bind_eq_some_iff.mp hf
  by_cases hx : M.1.1 (L 0) = ci + 1
  case neg => rw [if_neg hx] at h2; cases h2
  rw [if_pos hx] at h2
  cases h2
  have hC1 := hC.at (k := kc) (u := uc) (by omega) (by omega)
  refine ha (ZC Z kc uc) hC1 L N.1 N.2.1 (L 0, N.2.1) [] rfl (Nat.zero_le _) (fun _ t ht => ?_)
  rw [List.mem_singleton.mp ht]
  refine he (ZC Z kc uc) hC1 L N.1 N.2.1 (n, N.2.1) _ rfl (cat1 _) (fun _ t ht => ?_)
  rw [List.mem_singleton.mp ht]
  exact wn_newa hC hI ka h0 hn hby hd h1 (wn_put hCI hk0 hw hfin hC hI2 hd2 hx hτ2 (by show (-1 : Int) ≤ _; omega) (hfit _) (hk _ hE)) kc uc hk1 hu1
theorem okN_FR {Y : YT} {Γ : List (Nat × Nat)} {pc p0 p1 ci k N0 idx idx2 κ : Nat} {n : Int} {E : List Nat} {C O : String} {T : u_T} {ty : Nat → FieldType} (ha : OkE Y Γ 0 2 pc [p0] (eV 0)) (he : OkE Y Γ 1 0 p0 [p1] (eI n)) (h30 : 30 ≤ κ) (hκ : κ ∈ kL) (hat : aT κ = .object O) (heτ : eτ κ = 2) (hobj : O ∈ objL) (kl : Cond.classLink Y.1 idx2 O ∈ TW) (h0 : 0 ≤ n) (hn : n < 1000) (hd : decode Y.2.1 p1 = .ok (.anewarray idx2, 3)) (hCI : CI ci C T N0 ty) (hk0 : k < N0) (hw : Cond.fieldLink Y.1 idx (T k).1 (T k).2.1 (T k).2.2.1 ∈ TW) (hfin : (T k).2.2.2 = false ∨ (T k).1 = Y.1) (hτ2 : cτ ci k = 2) (hfit : ∀ z, QFit (ty k) z) (hd2 : decode Y.2.1 (p1 + 3) = .ok (.putfield idx, 3)) (hE : p1 + 3 + 3 ∈ E) : OkN Y Γ Γ pc E (nFA ci (k : Int) κ n) := by
  intro Z hC hI2 L N r hf hk kc uc hk1 hu1
  obtain ⟨M, h1, h2⟩ := Option.bind_eq_some_iff.mp hf
  by_cases hx : M.1.1 (L 0) = ci + 1
  case neg => rw [if_neg hx] at h2; cases h2
  rw [if_pos hx] at h2
  cases h2
  have hC1 := hC.at (k := kc) (u := uc) (by omega) (by omega)
  refine ha (ZC Z kc uc) hC1 L N.1 N.2.1 (L 0, N.2.1) [] rfl (Nat.zero_le _) (fun _ t ht => ?_)
  rw [List.mem_singleton.mp ht]
  refine he (ZC Z kc uc) hC1 L N.1 N.2.1 (n, N.2.1) _ rfl (cat1 _) (fun _ t ht => ?_)
  rw [List.mem_singleton.mp ht]
  exact wn_anew hC h30 hκ hat heτ hobj kl h0 hn hd h1 (wn_put hCI hk0 hw hfin hC hI2 hd2 hx hτ2 (by show (-1 : Int) ≤ _; omega) (hfit _) (hk _ hE)) kc uc hk1 hu1
/-- what making an object of a class needs to know -/
def MkI (Y Y2 : YT) (y : MethodName) (cj n idx idx2 mc ms : Nat) (O : String) (g : NM) : Prop := (∃ (T : u_T) (ty : Nat → FieldType), CI cj O T n ty ∧ ∀ k, k < n → pT (ty k) = true) ∧ Cond.classLink Y.1 idx O ∈ TW ∧ Cond.instantiable O n ∈ TW ∧ Cond.initialized O ∈ TW ∧ MetN Y2 y mc ms g ∧ CF y 0 ∧ Cond.code y Y2.2.1 Y2.2.2.1 none ∈ TW ∧ LkI Y.1 idx2 y ∧ Cond.instanceMethod y ∈ TW ∧ y.cls = O ∧ Y2.2.2.2.1 + 1 ≤ Y.2.2.2.1 ∧ 8 + (Y2.2.2.1 + 11) + Y2.2.2.2.2.1 ≤ Y.2.2.2.2.1
/-- new, dup, constructor -/
theorem wn_make {Y Y2 : YT} {y : MethodName} {cj n idx idx2 mc ms : Nat} {O : String} {g : NM} (hM : MkI Y Y2 y cj n idx idx2 mc ms O g) {Z : ZT} (hC : MC Y Z) {Γ : List (Nat × Nat)} {L : QL} {N M K : QN} {pc : Nat} {st : List Value} (hd1 : decode Y.2.1 pc = .ok (.new idx, 3)) (hd2 : decode Y.2.1 (pc + 3) = .ok (.dup, 1)) (hd3 : decode Y.2.1 (pc + 3 + 1) = .ok (.invokespecial idx2, 3)) (h1 : nAl (cj + 1) 0 n (fun j => dz (cτ cj j.toNat)) N = some M) (h2 : nCall g mc ms (N.1.2.2 : Int) M = some K) (hcat : cat st ≤ 7) (hk : WXN Z Y.2.2.1 Γ L K (pc + 3 + 1 + 3) (vo 2 (N.1.2.2 : Int) :: st)) : WXN Z Y.2.2.1 Γ L N pc st := by
  obtain ⟨⟨T, ty, hI, hp⟩, kl, kz, kn, hMet, hf, kc, km, ki, hO, hfr, hlo⟩ := hM
  exact wn_new hC hI hp kl kz kn hd1 h1 (wn_dup hC hd2 (wn_ctor hMet hf kc km ki (by rw [hO]; exact kn) hfr hlo hC h2 (by omega) (by simp only [cat, List.map_cons, List.sum_cons, vo_ct, ct] at hcat ⊢; omega) hd3 hk))
theorem okN_FO {Y Y2 : YT} {y : MethodName} {Γ : List (Nat × Nat)} {pc p0 ci k N0 idx cj n i1 i2 mc ms : Nat} {O : String} {g : NM} {E : List Nat} {C : String} {T : u_T} {ty : Nat → FieldType} (ha : OkE Y Γ 0 2 pc [p0] (eV 0)) (hM : MkI Y Y2 y cj n i1 i2 mc ms O g) (hd1 : decode Y.2.1 p0 = .ok (.new i1, 3)) (hd2 : decode Y.2.1 (p0 + 3) = .ok (.dup, 1)) (hd3 : decode Y.2.1 (p0 + 3 + 1) = .ok (.invokespecial i2, 3)) (hCI : CI ci C T N0 ty) (hk0 : k < N0) (hw : Cond.fieldLink Y.1 idx (T k).1 (T k).2.1 (T k).2.2.1 ∈ TW) (hfin : (T k).2.2.2 = false ∨ (T k).1 = Y.1) (hτ2 : cτ ci k = 2) (hfit : ∀ z, QFit (ty k) z) (hd4 : decode Y.2.1 (p0 + 3 + 1 + 3) = .ok (.putfield idx, 3)) (hE : p0 + 3 + 1 + 3 + 3 ∈ E) : OkN Y Γ Γ pc E (nFO ci (k : Int) cj n g mc ms) := by
  intro Z hC hI2 L N r hf hk kc uc hk1 hu1
  obtain ⟨M, h1, h2⟩ := Option.bind_eq_some_iff.mp hf
  obtain ⟨K, h3, h4⟩ := Option.bind_eq_some_iff.mp h2
  by_cases hx : K.1.1 (L 0) = ci + 1
  case neg => rw [if_neg hx] at h4; cases h4
  rw [if_pos hx] at h4
  cases h4
  have hC1 := hC.at (k := kc) (u := uc) (by omega) (by omega)
  refine ha (ZC Z kc uc) hC1 L N.1 N.2.1 (L 0, N.2.1) [] rfl (Nat.zero_le _) (fun _ t ht => ?_)
  rw [List.mem_singleton.mp ht]
  exact wn_make hM hC hd1 hd2 hd3 h1 h3 (by simp only [cat, List.map_cons, List.map_nil, List.sum_cons, List.sum_nil, vo_ct, ct]; omega) (wn_put hCI hk0 hw hfin hC hI2 hd4 hx hτ2 (by show (-1 : Int) ≤ _; omega) (hfit _) (hk _ hE)) kc uc hk1 hu1
theorem okN_AO {Y Y2 : YT} {y : MethodName} {Γ : List (Nat × Nat)} {pc p0 p1 κ cj n i1 i2 mc ms : Nat} {O : String} {g : NM} {E : List Nat} {a i : QE} (ha : OkE Y Γ 0 2 pc [p0] a) (hi : OkE Y Γ 1 0 p0 [p1] i) (hM : MkI Y Y2 y cj n i1 i2 mc ms O g) (h30 : 30 ≤ κ) (hat : aT κ = .object O) (heτ : eτ κ = 2) (hd1 : decode Y.2.1 p1 = .ok (.new i1, 3)) (hd2 : decode Y.2.1 (p1 + 3) = .ok (.dup, 1)) (hd3 : decode Y.2.1 (p1 + 3 + 1) = .ok (.invokespecial i2, 3)) (hd4 : decode Y.2.1 (p1 + 3 + 1 + 3) = .ok (.aastore, 1)) (hE : p1 + 3 + 1 + 3 + 1 ∈ E) : OkN Y Γ Γ pc E (nAO κ a i cj n g mc ms) := by
  intro Z hC hI2 L N r hf hk kc uc hk1 hu1
  obtain ⟨ra, h1, h2⟩ := Option.bind_eq_some_iff.mp hf
  obtain ⟨ri, h3, h4⟩ := Option.bind_eq_some_iff.mp h2
  obtain ⟨M, h5, h6⟩ := Option.bind_eq_some_iff.mp h4
  obtain ⟨K, h7, h8⟩ := Option.bind_eq_some_iff.mp h6
  by_cases hx : K.1.1 ra.1 = κ ∧ 0 ≤ ri.1 ∧ ri.1 < K.1.2.1 ra.1 ∧ K.1.1 (N.1.2.2 : Int) = cj + 1
  case neg => rw [if_neg hx] at h8; cases h8
  rw [if_pos hx] at h8
  cases h8
  have hC1 := hC.at (k := kc) (u := uc) (by omega) (by omega)
  refine ha (ZC Z kc uc) hC1 L N.1 N.2.1 ra [] h1 (Nat.zero_le _) (fun _ t ht => ?_)
  rw [List.mem_singleton.mp ht]
  refine hi (ZC Z kc uc) hC1 L N.1 ra.2 ri _ h3 (cat1 _) (fun ii t ht => ?_)
  rw [List.mem_singleton.mp ht]
  obtain ⟨T, ty, hCI, -⟩ := hM.1
  exact wn_make hM hC (N := (N.1, ri.2, N.2.2)) hd1 hd2 hd3 h5 h7 (by simp only [cat, List.map_cons, List.map_nil, List.sum_cons, List.sum_nil, vo_ct, ct]; omega) (wn_aast hC h30 hat heτ hCI hd4 hx.1 hx.2.1 hx.2.2.1 ii hx.2.2.2 (hk _ hE)) kc uc hk1 hu1
/-- a local = new object -/
def nLO (k : Nat) (cj n : Nat) (g : NM) (mc ms : Nat) : NT := fun L N => (nAl (cj + 1) 0 n (fun j => dz (cτ cj j.toNat)) N).bind fun M => (nCall g mc ms (N.1.2.2 : Int) M).bind fun K => some (lu L k (N.1.2.2 : Int), K)
theorem wn_LO {Y Y2 : YT} {y : MethodName} {Γ Γ' : List (Nat × Nat)} {pc k cj n i1 i2 mc ms : Nat} {O : String} {g : NM} {fi : Fin 4} (hM : MkI Y Y2 y cj n i1 i2 mc ms O g) (hd1 : decode Y.2.1 pc = .ok (.new i1, 3)) (hd2 : decode Y.2.1 (pc + 3) = .ok (.dup, 1)) (hd3 : decode Y.2.1 (pc + 3 + 1) = .ok (.invokespecial i2, 3)) (hd4 : decode Y.2.1 (pc + 3 + 1 + 3) = .ok (.astore_n fi, 1)) (hfi : (fi : Nat) = k) (hn : k < Y.2.2.1) (hΓ : ∀ q ∈ Γ', q = (k, 2) ∨ (q ∈ Γ ∧ q.1 ≠ k ∧ ¬ (q.1 + 1 = k ∧ ct q.2 = 2))) {Z : ZT} (hC : MC Y Z) {L : QL} {N : QN} {r : QL × QN} (hf : nLO k cj n g mc ms L N = some r) (hk : WXN Z Y.2.2.1 Γ' r.1 r.2 (pc + 3 + 1 + 3 + 1) []) : WXN Z Y.2.2.1 Γ L N pc [] := by
  obtain ⟨M, h1, h2⟩ := Option.bind_eq_some_iff.mp hf
  obtain ⟨K, h3, h4⟩ := Option.bind_eq_some_iff.mp h2
  cases h4
  refine wn_make hM hC hd1 hd2 hd3 h1 h3 (Nat.zero_le _) ?_
  intro kc uc hk1 hu1
  have hk := hk kc uc hk1 hu1
  obtain ⟨p, l, ee, R, s, m, args, below, meth, c, D, cy, A, H0, Q, cells, slots⟩ := Z
  obtain ⟨hx, hb, -⟩ := hC
  intro H locs ls q1 q2 q3
  have e1 : vo 2 (N.1.2.2 : Int) = .ref N.1.2.2 := by rw [vo2 (by omega), Int.toNat_natCast]
  rw [e1]
  exact lv_astore_n hx hb hd4 hfi q1.has hn rfl (fun ls' h' => hk H locs ls' (q1.set1 (τ := 2) (z := (N.1.2.2 : Int)) (by show (-1 : Int) ≤ _; omega) rfl (by rw [e1]; exact h') hΓ) q2 q3)
/-- a row of bytes, one behind another -/
def nB (a : Int) : Int → List Int → QV → QV
  | _, [], v => v
  | i, c :: cs, v => nB a (i + 1) cs (vu v a i c)
theorem wn_bst {Y : YT} {Γ : List (Nat × Nat)} {pc p1 p2 : Nat} {i z : Int} (hd : decode Y.2.1 pc = .ok (.dup, 1)) (hi : OkE Y Γ 3 0 (pc + 1) [p1] (eI i)) (hz : OkE Y Γ 4 0 p1 [p2] (eI z)) (hd2 : decode Y.2.1 p2 = .ok (.bastore, 1)) (h0 : 0 ≤ i) (hi2 : ir 0 i) (hz2 : nr 42 z = z) (hz3 : ir 0 z) {Z : ZT} (hC : MC Y Z) {L : QL} {N : QN} {a b : Int} (hx : N.1.1 a = 42) (h1 : i < N.1.2.1 a) (hk : WXN Z Y.2.2.1 Γ L (N.1, vu N.2.1 a i z, N.2.2) (p2 + 1) [vo 2 a, vo 2 b]) : WXN Z Y.2.2.1 Γ L N pc [vo 2 a, vo 2 b] := by
  refine wn_dup hC hd ?_
  intro kc uc hk1 hu1
  have hC1 := hC.at (k := kc) (u := uc) (by omega) (by omega)
  refine hi (ZC Z kc uc) hC1 L N.1 N.2.1 (i, N.2.1) _ rfl (by simp only [cat, List.map_cons, List.map_nil, List.sum_cons, List.sum_nil, vo_ct, ct]; omega) (fun _ t ht => ?_)
  rw [List.mem_singleton.mp ht]
  refine hz (ZC Z kc uc) hC1 L N.1 N.2.1 (z, N.2.1) _ rfl (by simp only [cat, List.map_cons, List.map_nil, List.sum_cons, List.sum_nil, vo_ct, ct]; omega) (fun _ t ht => ?_)
  rw [List.mem_singleton.mp ht]
  refine wx_ast (κ := 42) (Or.inr (Or.inr (Or.inr (Or.inr (Or.inr (Or.inl rfl)))))) hC1 hd2 hx h0 h1 hi2 hz3 ?_
  rw [hz2]
  exact hk kc uc hk1 hu1
/-- a whole constructor -/
theorem metN_of {Y : YT} {y : MethodName} {s : NT} {Γ' : List (Nat × Nat)} {pe mc ms : Nat} (hcls : Y.1 = y.cls) (hname : y.name = "<init>") (hplain : plainName y.cls = true) (hlen : 1 ≤ Y.2.2.1) (hd : decode Y.2.1 pe = .ok (.return_, 1)) (hS : OkN Y (gL 0 [2]) Γ' 0 [pe] s) : MetN Y y mc ms (nM s) := by
  obtain ⟨own, cc, nL, fr, lo, τr⟩ := Y
  dsimp only at hcls hlen
  subst hcls
  refine ⟨rfl, hname, fun l D cy A S v a M hg ha => ?_⟩
  obtain ⟨r0, g1, rfl⟩ := Option.map_eq_some_iff.mp hg
  refine Met.ofW (cc := cc) (maxL := nL) (ret := none) hplain rfl ?_
  intro p e s' m args below meth c s₁ B hml hv
  obtain ⟨rfl, hP, hW, hA⟩ := hv
  have hts := atoms_spec (ws := Cond.code y cc nL none :: TW) B.pre
  have hlocks := B.notSynchronized
  have hx := B.exec
  have hb := B.bytes
  have hr := B.returns
  have hin : meth.name = "<init>" := (name_of_methodNamed B.named B.method).1.trans hname
  rw [lg_entry_eq]
  have hsl : lg_sl [vo 2 a] = [.val (vo 2 a)] := by
    show (if (vo 2 a).category = 2 then [Slot.val (vo 2 a), .second] else [.val (vo 2 a)]) ++ [] = _
    rw [vo_ct]
    rfl
  have hl := lv_entry [vo 2 a] (n := nL) (by rw [hsl]; exact hlen)
  generalize (lg_sl [vo 2 a] ++ List.replicate (nL - (lg_sl [vo 2 a]).length) Slot.unset).toArray = ls at hl ⊢
  have hir : irs [2] [a] := ⟨by show (-1 : Int) ≤ a; omega, trivial⟩
  have hLv := entry_lv [2] [a] 0 hir hl.1 hl.2.1 hl.2.2
  have hC : MC (y.cls, cc, nL, fr, lo, τr) (p, l, e, (headSpec (Cond.code y cc nL none :: TW) { frames := fr, cells := mc, slots := ms, locals := lo }).room, s', m, [vo 2 a].toArray, below, meth, c, D, cy, A, s'.heap, MQ below (QcN D cy A r0.2) [vo 2 a].toArray s' mc ms A, mc, ms) :=
    ⟨hx, hb, hml, findClass_of_methodNamed B.named, fun w hw => hts w (List.mem_cons_of_mem _ hw), Nat.le_refl _, Nat.le_refl _, Nat.le_refl _, Nat.le_refl _, hA, hW, rfl⟩
  refine hS _ hC hin (aL 0 [2] [a]) (S, v, mc, ms) r0 g1 (fun t ht => ?_) 0 0 (Nat.zero_add _) (Nat.zero_add _) s'.heap [] ls hLv hP va_S.rf
  rw [List.mem_singleton.mp ht]
  intro k u hk1 hu1 H locs ls' q1 q2 q3
  have e1 : k + r0.2.2.2.1 = mc := hk1
  have e2 : u + r0.2.2.2.2 = ms := hu1
  exact W.widen (by omega) (by omega) (W.vret hx hb hr (fun t ht _ => ⟨rfl, by rw [ht]; exact q2, q3.F ht⟩) q3.2.2 hd)
/-! the law's script: an array that nobody writes -/
def eXN (a : QE) : QE := fun L S v => (a L S v).bind fun r => if S.1 r.1 = 14 then some (S.2.1 r.1, r.2) else none
theorem ok_xaload {Y : YT} {Γ : List (Nat × Nat)} {d pc p1 p2 : Nat} {E : List Nat} {a i : QE} (ha : OkE Y Γ d 2 pc [p1] a) (hi : OkE Y Γ (d + 1) 0 p1 [p2] i) (hd : decode Y.2.1 p2 = .ok (.iaload, 1)) (hE : p2 + 1 ∈ E) : OkE Y Γ d 0 pc E (eA 14 a i) := by
  refine okA0 ha hi ?_
  rintro ⟨p, l, e, R, s, m, args, below, meth, c, D, cy, A, H0, Q, cells, slots⟩ ⟨hx, hb, -, ho, hts, -, -, -, -, -, hW, -⟩ L S v st x y iy hκ y0 y1 hk H locs ls g1 g2 g3
  obtain ⟨q1, q2, q3⟩ := g2.2 x (by rw [hκ]; decide)
  rw [hκ] at q3
  rcases q3 with ⟨-, q, h2, -⟩ | ⟨h1, -⟩ | ⟨-, r2, r3, r4, scr, c1, c2, c3, c4, c5, c6⟩
  · exact absurd h2 (by simp [vwCl])
  · omega
  have ey : ((y.toNat : Nat) : Int) = y := Int.toNat_of_nonneg y0
  have hr : ir 0 (v x y) := by have := r4 y.toNat (by rw [ey]; exact y1); rw [ey] at this; exact this
  have hk := hk hr _ hE H locs ls g1 g2 g3
  rw [vo2 q1]
  obtain ⟨-, ka, hka, cma, hkka⟩ := hW.2.2.2.1 0 (fun _ => .null)
  refine W.iald (v := vo 0 (v x y)) hx hb c1 ⟨c3, ka, by rw [c2]; exact hka, cma, hkka⟩ c4 (by rw [c5]; exact xx_in iy y0 (by omega)) ?_ rfl rfl hd hk
  rw [i_nat iy, c6 _ (by omega), ey]
theorem ok_xalen {Y : YT} {Γ : List (Nat × Nat)} {d pc p1 : Nat} {E : List Nat} {a : QE} (ha : OkE Y Γ d 2 pc [p1] a) (hd : decode Y.2.1 p1 = .ok (.arraylength, 1)) (hE : p1 + 1 ∈ E) : OkE Y Γ d 0 pc E (eXN a) := by
  intro Z hC L S v r st hf hdd hk
  obtain ⟨x, h1, h2⟩ := Option.bind_eq_some_iff.mp hf
  by_cases hκ : S.1 x.1 = 14
  case neg => rw [if_neg hκ] at h2; cases h2
  rw [if_pos hκ] at h2
  cases h2
  refine ha Z hC L S v x st h1 hdd (fun hi t ht => ?_)
  rw [List.mem_singleton.mp ht]
  obtain ⟨p, l, e, R, s, m, args, below, meth, c, D, cy, A, H0, Q, cells, slots⟩ := Z
  obtain ⟨hx0, hb, -, ho, hts, -, -, -, -, -, hW, -⟩ := hC
  intro H locs ls g1 g2 g3
  obtain ⟨q1, q2, q3⟩ := g2.2 x.1 (by rw [hκ]; decide)
  rw [hκ] at q3
  rcases q3 with ⟨-, q, h2, -⟩ | ⟨h1, -⟩ | ⟨-, r2, r3, r4, scr, c1, c2, c3, c4, c5, c6⟩
  · exact absurd h2 (by simp [vwCl])
  · omega
  have hk := hk (irn (by omega) (by omega)) _ hE H locs ls g1 g2 g3
  rw [vo2 q1]
  obtain ⟨-, ka, hka, cma, hkka⟩ := hW.2.2.2.1 0 (fun _ => .null)
  have e1 : Int32.ofNat (S.2.1 x.1).toNat = Int32.ofInt (S.2.1 x.1) := by
    rw [← Int32.ofInt_eq_ofNat, Int.toNat_of_nonneg r2]
  refine W.alen (n := Int32.ofInt (S.2.1 x.1)) hx0 hb c1 ⟨c3, ka, by rw [c2]; exact hka, cma, hkka⟩ (by rw [c5, ← e1] <;> rfl) rfl rfl hd hk
