/-! RULES: new, newarray, anewarray, dup, constructors, final fields, aastore -/
def pT : FieldType → Bool
  | .float => false
  | .double => false
  | _ => true
theorem pT_dv {ty : FieldType} (h : pT ty = true) : defaultValue ty = vo (τF ty) (dz (τF ty)) := by
  cases ty <;> first | rfl | cases h
theorem dz_ir {ty : FieldType} : ir (τF ty) (dz (τF ty)) := by
  cases ty <;> (first | exact irn (by decide) (by decide) | exact (⟨by decide, by decide⟩ : (-128 : Int) ≤ 0 ∧ (0 : Int) < 128) | exact (⟨by decide, by decide⟩ : (0 : Int) ≤ 0 ∧ (0 : Int) < 65536) | exact (⟨by decide, by decide⟩ : (-9223372036854775808 : Int) ≤ 0 ∧ (0 : Int) < 9223372036854775808) | exact (⟨by decide, by decide⟩ : (0 : Int) ≤ 0 ∧ (0 : Int) ≤ 1) | exact (by decide : (-1 : Int) ≤ -1))
theorem WXN.of {Z : ZT} {nL : Nat} {Γ : List (Nat × Nat)} {L : QL} {N : QN} {pc : Nat} {st : List Value} (h : ∀ k u : Nat, k + N.2.2.1 = zc Z → u + N.2.2.2 = zs Z → WX (ZC Z k u) nL Γ L N.1 N.2.1 pc st) : WXN Z nL Γ L N pc st := h
theorem wn_new {Y : YT} {Z : ZT} (hC : MC Y Z) {cj n idx : Nat} {C : String} {T : u_T} {ty : Nat → FieldType} (hI : CI cj C T n ty) (hp : ∀ k, k < n → pT (ty k) = true) (kl : Cond.classLink Y.1 idx C ∈ TW) (kz : Cond.instantiable C n ∈ TW) (kn : Cond.initialized C ∈ TW) {Γ : List (Nat × Nat)} {L : QL} {N M : QN} {pc : Nat} {st : List Value} (hd : decode Y.2.1 pc = .ok (.new idx, 3)) (hm : nAl (cj + 1) 0 n (fun j => dz (cτ cj j.toNat)) N = some M) (hk : WXN Z Y.2.2.1 Γ L M (pc + 3) (vo 2 (N.1.2.2 : Int) :: st)) : WXN Z Y.2.2.1 Γ L N pc st := by
  intro k u hk1 hu1
  have hC1 := hC.at (k := k) (u := u) (by omega) (by omega)
  unfold nAl at hm
  by_cases hg : 1 ≤ N.2.2.1 ∧ n ≤ N.2.2.2
  case neg => rw [if_neg hg] at hm; cases hm
  rw [if_pos hg] at hm
  cases hm
  have hk := hk (k + 1) (u + n) (by show k + 1 + (N.2.2.1 - 1) = _; omega) (by show u + n + (N.2.2.2 - n) = _; omega)
  obtain ⟨own, cc, nL, fr, lo, τr⟩ := Y
  obtain ⟨p, l, e, R, s, m, args, below, meth, c, D, cy, A, H0, Q, cells, slots⟩ := Z
  obtain ⟨hx, hb, hml, ho, hts, hfr, hlo, hce, hsl, hA, hW, h0⟩ := hC
  have e1 : k + N.2.2.1 = cells := hk1
  have e2 : u + N.2.2.2 = slots := hu1
  intro H locs ls g1 g2 g3
  have hKn := hW.1.1 cj _ hI.1
  refine W.newcK hx hb ho (hts _ kl) (hts _ kz) (hts _ kn) rfl hd (by omega) (by omega) hKn.2.1 rfl fun H1 kC hkC c1 z1 o1 => ?_
  have e3 : N.1.2.2 = H.size := g2.1
  have e4 : vo 2 (N.1.2.2 : Int) = .ref H.size := by rw [vo2 (by omega), Int.toNat_natCast, e3]
  rw [e4] at hk
  refine hk H1 locs ls g1 (g2.push z1 o1 (hA _ g3.1) ?_) ⟨Nat.le_trans g3.1 (by omega), fun x h1 h2 => (o1 x (Nat.lt_of_lt_of_le h1 g3.1)).trans (g3.2.1 x h1 h2), g3.2.2⟩
  have hts2 : ∀ w ∈ u_ws C T n, w.before args s = true := fun w hw => hts w (hI.2.2.1 w hw)
  have h12 := hI.2.1
  have hτ : ∀ j : Nat, cτ cj j = τF (ty j) := fun j => by unfold cτ; rw [hI.2.2.2.2.2]
  refine Or.inl ⟨by omega, (C, T, n), hI.1, fun j hj => ?_, (u_born ty hts2 (fun w h => h) hKn hkC c1 hI.2.2.2.1).to (fun j hj => ?_)⟩
  · show ir (cτ cj j) (dz (cτ cj (j : Int).toNat))
    rw [Int.toNat_natCast, hτ]
    exact dz_ir
  · show _ = vo (cτ cj j) (dz (cτ cj (j : Int).toNat))
    rw [Int.toNat_natCast, hτ]
    exact pT_dv (hp j hj)
/-- a kind of arrays of primitives: its element type -/
def AK (κ : Nat) (at_ : ArrayType) : Prop := newarray.typeOf at_ = aT κ ∧ κ ∈ kL ∧ 20 ≤ κ ∧ defaultValue (aT κ) = vo (eτ κ) (dz (eτ κ)) ∧ ir (eτ κ) (dz (eτ κ)) ∧ ∀ (U : State) (cA : ClassId), va_RA U cA (aT κ) → U.vm.findClass ("[" ++ (aT κ).toString) = some cA
theorem ak_20 : AK 20 .int := ⟨rfl, by decide, by decide, rfl, irn (by decide) (by decide), fun _ _ h => h⟩
theorem ak_23 : AK 23 .char := ⟨rfl, by decide, by decide, rfl, ⟨by decide, by decide⟩, fun _ _ h => h⟩
theorem ak_24 : AK 24 .boolean := ⟨rfl, by decide, by decide, rfl, ⟨by decide, by decide⟩, fun _ _ h => h⟩
theorem ak_40 : AK 40 .int := ⟨rfl, by decide, by decide, rfl, irn (by decide) (by decide), fun _ _ h => h⟩
theorem ak_41 : AK 41 .long := ⟨rfl, by decide, by decide, rfl, ⟨by decide, by decide⟩, fun _ _ h => h⟩
theorem ak_42 : AK 42 .byte := ⟨rfl, by decide, by decide, rfl, ⟨by decide, by decide⟩, fun _ _ h => h⟩
theorem ak_44 : AK 44 .boolean := ⟨rfl, by decide, by decide, rfl, ⟨by decide, by decide⟩, fun _ _ h => h⟩
theorem wn_newa {Y : YT} {Z : ZT} (hC : MC Y Z) {κ : Nat} {at_ : ArrayType} {n : Int} (hI : AK κ at_) (ka : Cond.arrayClass (aT κ) ∈ TW) (h0 : 0 ≤ n) (hn : n < 2147483648) (hby : n.toNat * componentBytes (aT κ) ≤ 536870912) {Γ : List (Nat × Nat)} {L : QL} {N M : QN} {pc : Nat} {st : List Value} (hd : decode Y.2.1 pc = .ok (.newarray at_, 2)) (hm : nAl κ n n.toNat (fun _ => dz (eτ κ)) N = some M) (hk : WXN Z Y.2.2.1 Γ L M (pc + 2) (vo 2 (N.1.2.2 : Int) :: st)) : WXN Z Y.2.2.1 Γ L N pc (vo 0 n :: st) := by
  intro k u hk1 hu1
  unfold nAl at hm
  by_cases hg : 1 ≤ N.2.2.1 ∧ n.toNat ≤ N.2.2.2
  case neg => rw [if_neg hg] at hm; cases hm
  rw [if_pos hg] at hm
  cases hm
  have hk := hk (k + 1) (u + n.toNat) (by show k + 1 + (N.2.2.1 - 1) = _; omega) (by show u + n.toNat + (N.2.2.2 - n.toNat) = _; omega)
  obtain ⟨own, cc, nL, fr, lo, τr⟩ := Y
  obtain ⟨p, l, e, R, s, m, args, below, meth, c, D, cy, A, H0, Q, cells, slots⟩ := Z
  obtain ⟨hx, hb, hml, ho, hts, hfr, hlo, hce, hsl, hA, hW, hH0⟩ := hC
  have e1 : k + N.2.2.1 = cells := hk1
  have e2 : u + N.2.2.2 = slots := hu1
  have ii : ir 0 n := irn (by omega) (by omega)
  obtain ⟨a1, a2, a3, a4, a5, a6⟩ := hI
  intro H locs ls g1 g2 g3
  refine va_newaK (N := n.toNat) hx hb (by rw [a1]; exact hts _ ka) rfl hd rfl (fun q => ?_) (i_nat ii) (by rw [a1]; exact hby) (by omega) (by omega) rfl fun H1 cA c1 z1 o1 f1 f2 => ?_
  · have := (i_ltI ii (irn (by decide) (by decide) : ir 0 0)).mp q
    omega
  rw [a1] at c1 f2
  obtain ⟨t0, ht⟩ := kL_idx a2 cy
  have ec : cA = cy κ := Option.some.inj (f2.symm.trans (a6 _ _ (hW.1.2 t0 _ ht).2))
  subst ec
  have e3 : N.1.2.2 = H.size := g2.1
  have e4 : vo 2 (N.1.2.2 : Int) = .ref H.size := by rw [vo2 (by omega), Int.toNat_natCast, e3]
  rw [e4] at hk
  refine hk H1 locs ls g1 (g2.push z1 o1 (hA _ g3.1) ?_) ⟨Nat.le_trans g3.1 (by omega), fun x h1 h2 => (o1 x (Nat.lt_of_lt_of_le h1 g3.1)).trans (g3.2.1 x h1 h2), g3.2.2⟩
  exact Or.inr (Or.inl ⟨a3, a2, h0, hn, fun _ _ => a5, by rw [c1, a4]⟩)
theorem wn_anew {Y : YT} {Z : ZT} (hC : MC Y Z) {κ idx : Nat} {C : String} {n : Int} (h30 : 30 ≤ κ) (hκ : κ ∈ kL) (hat : aT κ = .object C) (he : eτ κ = 2) (hobj : C ∈ objL) (kl : Cond.classLink Y.1 idx C ∈ TW) (h0 : 0 ≤ n) (hn : n < 1000) {Γ : List (Nat × Nat)} {L : QL} {N M : QN} {pc : Nat} {st : List Value} (hd : decode Y.2.1 pc = .ok (.anewarray idx, 3)) (hm : nAl κ n n.toNat (fun _ => dz (eτ κ)) N = some M) (hk : WXN Z Y.2.2.1 Γ L M (pc + 3) (vo 2 (N.1.2.2 : Int) :: st)) : WXN Z Y.2.2.1 Γ L N pc (vo 0 n :: st) := by
  intro k u hk1 hu1
  unfold nAl at hm
  by_cases hg : 1 ≤ N.2.2.1 ∧ n.toNat ≤ N.2.2.2
  case neg => rw [if_neg hg] at hm; cases hm
  rw [if_pos hg] at hm
  cases hm
  have hk := hk (k + 1) (u + n.toNat) (by show k + 1 + (N.2.2.1 - 1) = _; omega) (by show u + n.toNat + (N.2.2.2 - n.toNat) = _; omega)
  obtain ⟨own, cc, nL, fr, lo, τr⟩ := Y
  obtain ⟨p, l, e, R, s, m, args, below, meth, c, D, cy, A, H0, Q, cells, slots⟩ := Z
  obtain ⟨hx, hb, hml, ho, hts, hfr, hlo, hce, hsl, hA, hW, hH0⟩ := hC
  have e1 : k + N.2.2.1 = cells := hk1
  have e2 : u + N.2.2.2 = slots := hu1
  have ii : ir 0 n := irn (by omega) (by omega)
  have hnn := i_nat ii
  intro H locs ls g1 g2 g3
  refine W.anew hx hb ho (hts _ kl) (va_AO.use (hW.2.2.2.2 C hobj)) rfl hd rfl (fun q => ?_) (by rw [hnn]; omega) (by omega) (by rw [hnn]; omega) fun cA kA comp f1 f2 f3 f4 => ?_
  · have := (i_ltI ii (irn (by decide) (by decide) : ir 0 0)).mp q
    omega
  rw [hnn]
  generalize hH1 : H.push ({ cls := cA, slots := Array.replicate n.toNat .null, vm := .none } : Cell) = H1
  have z1 : H1.size = H.size + 1 := by rw [← hH1, Array.size_push]
  have c1 : H1[H.size]? = some (arrV cA n.toNat (fun _ => .null)) := by rw [← hH1, Array.getElem?_push_size, ← arrV_new]
  have o1 : ∀ q : Nat, q < H.size → H1[q]? = H[q]? := fun q hq => by rw [← hH1, Array.getElem?_push, if_neg (Nat.ne_of_lt hq)]
  obtain ⟨t0, ht⟩ := kL_idx hκ cy
  have hR := (hW.1.2 t0 _ ht).2
  rw [hat] at hR
  obtain ⟨kA', comp', -, -, -, f5⟩ := hR
  have ec : cA = cy κ := Option.some.inj (f1.symm.trans f5)
  subst ec
  have e3 : N.1.2.2 = H.size := g2.1
  have e4 : vo 2 (N.1.2.2 : Int) = .ref H.size := by rw [vo2 (by omega), Int.toNat_natCast, e3]
  rw [e4] at hk
  refine hk H1 locs ls g1 (g2.push z1 o1 (hA _ g3.1) ?_) ⟨Nat.le_trans g3.1 (by omega), fun x h1 h2 => (o1 x (Nat.lt_of_lt_of_le h1 g3.1)).trans (g3.2.1 x h1 h2), g3.2.2⟩
  rw [he]
  exact Or.inr (Or.inl ⟨by omega, hκ, h0, by omega, fun _ _ => by rw [he]; show (-1 : Int) ≤ -1; omega, by rw [c1, he]; rfl⟩)
theorem wn_dup {Y : YT} {Z : ZT} (hC : MC Y Z) {Γ : List (Nat × Nat)} {L : QL} {N : QN} {pc : Nat} {a : Int} {st : List Value} (hd : decode Y.2.1 pc = .ok (.dup, 1)) (hk : WXN Z Y.2.2.1 Γ L N (pc + 1) (vo 2 a :: vo 2 a :: st)) : WXN Z Y.2.2.1 Γ L N pc (vo 2 a :: st) := by
  intro k u hk1 hu1
  have hk := hk k u hk1 hu1
  obtain ⟨p, l, e, R, s, m, args, below, meth, c, D, cy, A, H0, Q, cells, slots⟩ := Z
  obtain ⟨hx, hb, -⟩ := hC
  intro H locs ls g1 g2 g3
  exact lv_dup hx hb hd (vo_ct 2 a) (hk H locs ls g1 g2 g3)
/-- a constructor's contract -/
def QcN (D : va_G) (cy : Nat → ClassId) (A : Nat → Prop) (M : QN) : Array Value → State → Outcome → State → Prop := fun _ st oc t => oc = .returned none ∧ hpOk D cy A M.1 M.2.1 t.heap ∧ va_F A st t
def MetN (Y : YT) (y : MethodName) (mc ms : Nat) (g : NM) : Prop :=
  Y.1 = y.cls ∧ y.name = "<init>" ∧ ∀ (l : Launch) (D : va_G) (cy : Nat → ClassId) (A : Nat → Prop) (S : QS) (v : QV) (a : Int) (M : QN), g a (S, v, mc, ms) = some M → 0 ≤ a → Met l y (Cond.code y Y.2.1 Y.2.2.1 none :: TW) { frames := Y.2.2.2.1, cells := mc, slots := ms, locals := Y.2.2.2.2.1 } (va_Pc [vo 2 a] (PreB D cy A S v)) (QcN D cy A M) mc ms A
theorem xx_callN {p : Program} {l : Launch} {e : Env} {R : Room} {s : State} {m : MethodId} {args : Array Value} {below : List Frame} {meth : Method} {c : Code} {H H0 : Heap} {locs : List Loc} {cells slots mc ms : Nat} {Q : State → Prop} {pc : Nat} {ls : Array Slot} {rest st0 : List Value} {a : Array Value} {A : Nat → Prop} {D : va_G} {cy : Nat → ClassId} {M : QN}
    (hr : va_Run p l e R s m args below meth c H locs cells slots mc ms (F0 m pc ls st0) rest (QcN D cy A M a) A) (hS : va_S A H0 H locs)
    (kk : ∀ (H1 : Heap) (locs1 : List Loc), hpOk D cy A M.1 M.2.1 H1 → va_S A H0 H1 locs1 → W p l e R s m args below meth c H1 locs1 (cells + mc) (slots + ms) Q (F0 m (pc + 3) ls rest)) : W p l e R s m args below meth c H locs cells slots Q (F0 m pc ls st0) := by
  intro T hT X
  obtain ⟨v, st₀, t, T', L, h0, X', hL, e1, e2, ⟨hv, hp, hz, hk⟩, st⟩ := hr T hT X
  have hv : v = none := by injection hv
  subst hv
  rw [h0] at hz hk
  obtain ⟨t2, a1, b1⟩ := kk T'.heap (locs ++ L) (by rw [e1]; exact hp)
    ⟨Nat.le_trans hS.1 (by rw [e1]; exact hz), fun q h1 h2 => by rw [e1, hk q (Nat.lt_of_lt_of_le h1 hS.1) h2]; exact hS.2.1 q h1 h2, fun q hq => by
      rcases List.mem_append.mp hq with h | h
      · exact hS.2.2 q h
      · exact hL q h⟩ T' rfl X'
  exact ⟨t2, st t2 a1, b1⟩
/-- how the link to a constructor is known -/
def LkI (own : String) (idx : Nat) (y : MethodName) : Prop := Cond.methodLink own idx y ∈ TW ∨ ∃ host, (own, idx, y, host) ∈ nestL
theorem wn_ctor {Y Y2 : YT} {y : MethodName} {mc ms idx : Nat} {g : NM} (hM : MetN Y2 y mc ms g) (hf : CF y 0) (kc : Cond.code y Y2.2.1 Y2.2.2.1 none ∈ TW) (km : LkI Y.1 idx y) (ki : Cond.instanceMethod y ∈ TW) (kn : Cond.initialized y.cls ∈ TW) (hfr : Y2.2.2.2.1 + 1 ≤ Y.2.2.2.1) (hlo : 8 + (Y2.2.2.1 + 11) + Y2.2.2.2.2.1 ≤ Y.2.2.2.2.1)
    {Z : ZT} (hC : MC Y Z) {Γ : List (Nat × Nat)} {L : QL} {N M : QN} {pc : Nat} {a : Int} {st : List Value} (hg : nCall g mc ms a N = some M) (ha : 0 ≤ a) (hcat : cat st ≤ 8) (hd : decode Y.2.1 pc = .ok (.invokespecial idx, 3)) (hk : WXN Z Y.2.2.1 Γ L M (pc + 3) st) : WXN Z Y.2.2.1 Γ L N pc (vo 2 a :: st) := by
  intro k u hk1 hu1
  unfold nCall at hg
  by_cases hgd : mc ≤ N.2.2.1 ∧ ms ≤ N.2.2.2
  case neg => rw [if_neg hgd] at hg; cases hg
  rw [if_pos hgd] at hg
  obtain ⟨M0, hg0, rfl⟩ := Option.map_eq_some_iff.mp hg
  have hk := hk (k + mc) (u + ms) (by show k + mc + (N.2.2.1 - mc) = _; omega) (by show u + ms + (N.2.2.2 - ms) = _; omega)
  obtain ⟨own, cc, nL, fr, lo, τr⟩ := Y
  obtain ⟨p, l, e, R, s, m, args, below, meth, c, D, cy, A, H0, Q, cells, slots⟩ := Z
  obtain ⟨hx, hb, hml, ho, hts, hfrR, hloR, hce, hsl, hA, hW, rfl⟩ := hC
  have e1 : k + N.2.2.1 = cells := hk1
  have e2 : u + N.2.2.2 = slots := hu1
  intro H locs ls g1 g2 g3
  have hMet := hM.2.2 l D cy A N.1 N.2.1 a M0 hg0 ha
  rw [vo2 ha] at hMet ⊢
  have hgood : GoodIn TW (Cond.code y Y2.2.1 Y2.2.2.1 none :: TW) := by
    apply tw_sub
    intro w hw
    rcases List.mem_cons.mp hw with rfl | hw
    · exact kc
    · exact hw
  have hroom : k + mc ≤ R.cells ∧ u + ms ≤ R.slots := ⟨by omega, by omega⟩
  rcases km with km | ⟨host, km⟩
  · exact xx_callN (va_runI (As := []) (rest := st) ⟨hx, hb, hml, ho, hts⟩ hMet (cwI 0 hts hgood rfl rfl rfl (hts _ kn) (hts _ km) (hts _ ki) hM.2.1 hf ⟨Nat.le_trans hfr hfrR, Nat.le_trans hlo hloR⟩) ⟨pre_blind, fun U hU hw => pre_at (av := [.ref a.toNat]) g2 hW hA g3 hU hw⟩ rfl rfl g1.1 rfl (lv_room hcat) hd hroom) g3 (fun H1 locs1 hp hs => hk H1 locs1 ls g1 hp hs)
  · exact xx_callN (va_runIN (As := []) (rest := st) ⟨hx, hb, hml, ho, hts⟩ hMet ⟨va_cnB 0 hts hgood rfl rfl rfl (hW.2.1 _ km) (hts _ kn) hf ⟨Nat.le_trans hfr hfrR, Nat.le_trans hlo hloR⟩, hM.2.1, hts _ ki⟩ ⟨pre_blind, fun U hU hw => pre_at (av := [.ref a.toNat]) g2 hW hA g3 hU hw⟩ rfl rfl g1.1 rfl (lv_room hcat) hd hroom) g3 (fun H1 locs1 hp hs => hk H1 locs1 ls g1 hp hs)
theorem wn_super {Y : YT} {Z : ZT} (hC : MC Y Z) {idx : Nat} (km : Cond.methodLink Y.1 idx Lib.objectInit ∈ TW) (hfr : 1 ≤ Y.2.2.2.1) (hlo : 12 ≤ Y.2.2.2.2.1) {Γ : List (Nat × Nat)} {L : QL} {N : QN} {pc : Nat} {a : Int} (ha : 0 ≤ a) (hd : decode Y.2.1 pc = .ok (.invokespecial idx, 3)) (hk : WXN Z Y.2.2.1 Γ L N (pc + 3) []) : WXN Z Y.2.2.1 Γ L N pc [vo 2 a] := by
  intro k u hk1 hu1
  have hk := hk k u hk1 hu1
  obtain ⟨own, cc, nL, fr, lo, τr⟩ := Y
  obtain ⟨p, l, e, R, s, m, args, below, meth, c, D, cy, A, H0, Q, cells, slots⟩ := Z
  obtain ⟨hx, hb, hml, ho, hts, hfrR, hloR, -⟩ := hC
  intro H locs ls g1 g2 g3
  rw [vo2 ha]
  exact W.objInit hx hb ho (hts _ km) (hts _ ki_o1_26) (hts _ kc_o1_27) rfl (g1.1.trans hml.symm) rfl hd (Nat.le_trans hfr hfrR) (Nat.le_trans hlo hloR) (hk H locs ls g1 g2 g3)
theorem wn_put {Y : YT} {ci idx k N0 : Nat} {C : String} {T : u_T} {ty : Nat → FieldType} (hI : CI ci C T N0 ty) (hk : k < N0) (hw : Cond.fieldLink Y.1 idx (T k).1 (T k).2.1 (T k).2.2.1 ∈ TW) (hfin : (T k).2.2.2 = false ∨ (T k).1 = Y.1) {Z : ZT} (hC : MC Y Z) (hz0 : zI Z) {Γ : List (Nat × Nat)} {L : QL} {N : QN} {pc : Nat} {a z : Int} {st : List Value} (hd : decode Y.2.1 pc = .ok (.putfield idx, 3)) (hx : N.1.1 a = ci + 1) (hτ2 : cτ ci k = 2) (hz : ir 2 z) (hfit : QFit (ty k) z) (hkk : WXN Z Y.2.2.1 Γ L (N.1, vu N.2.1 a (k : Int) z, N.2.2) (pc + 3) st) : WXN Z Y.2.2.1 Γ L N pc (vo 2 z :: vo 2 a :: st) := by
  intro kc uc hk1 hu1
  have hkk := hkk kc uc hk1 hu1
  obtain ⟨own, cc, nL, fr, lo, τr⟩ := Y
  obtain ⟨p, l, e, R, s, m, args, below, meth, c, D, cy, A, H0, Q, cells, slots⟩ := Z
  obtain ⟨hx0, hb, -, ho, hts, -, -, -, -, -, hW, -⟩ := hC
  intro H locs ls g1 g2 g3
  obtain ⟨q1, q2, q3⟩ := g2.2 a (by rw [hx]; omega)
  have q3' := q3
  rw [hx] at q3'
  obtain ⟨q4, cell, q5, q6, q7, q8⟩ := cOk_obj hI q3'
  obtain ⟨hS, hfc, kC, hkC, hkind⟩ := hW.1.1 ci _ hI.1
  obtain ⟨cf, kf, fi, ff, hi2, hsl⟩ := hS k hk
  rw [vo2 q1]
  have hts2 : ∀ w ∈ u_ws C T N0, w.before args s = true := fun w hw => hts w (hI.2.2.1 w hw)
  have hlay := hts2 _ (u_in_lay hk)
  have hst := (u_facts hfc hkC (u_lays hts2 (fun w h => h) hk) hi2).1
  have hap := va_apart (own := own) hts2 (fun w h => h) ty hI.2.2.2.1 hI.2.2.2.2.1 hW.1 hI.1
  have hτ : 2 = τF (ty k) := by rw [← hτ2]; unfold cτ; rw [hI.2.2.2.2.2]
  rw [hτ]
  have hcore : ∀ H' : Heap, H'[a.toNat]? = some (cell.setSlot ff.slot (vo (τF (ty k)) z)) → H'.size = H.size → (∀ q, q ≠ a.toNat → H'[q]? = H[q]?) → W p l e R s m args below meth c H' (locs ++ [⟨a.toNat, ff.slot⟩]) kc uc Q (F0 m (pc + 3) ls st) := by
    intro H' e1 e2 e3
    rw [hsl] at e1 ⊢
    refine hkk H' _ ls g1 (g2.put (by rw [hx]; omega) e2 e3 ?_) (g3.put e2 e3 (q2.resolve_left (by rw [hx]; have := hI.2.1; omega)))
    rw [hx]
    refine Or.inl ⟨by have := hI.2.1; omega, (C, T, N0), hI.1, fun j hj => ?_, ?_⟩
    · rw [Nat.add_sub_cancel]
      by_cases e : j = k
      · subst e; simp only [if_true]; rw [hτ2]; exact hz
      · have : ¬ (j : Int) = (k : Int) := by omega
        simp only [if_neg this]; exact q4 j hj
    · rw [Nat.add_sub_cancel]
      refine t_OB.to (V := updV (fun j => vo (cτ ci j) (N.2.1 a j)) k (vo (τF (ty k)) z)) ⟨_, e1, q6, q7, t_set q8 hap hk _⟩ (fun j hj => ?_)
      unfold updV
      by_cases e : j = k
      · subst e; simp only [if_true]; rw [← hτ, hτ2]
      · have : ¬ (j : Int) = (k : Int) := by omega
        simp only [if_neg e, if_neg this]
  by_cases hff : (T k).2.2.2 = false
  · unfold u_lay at hlay
    rw [if_neg (by rw [hff]; decide)] at hlay
    have h6 := u_store hfc hkC hkind hlay hi2 (hI.2.2.2.1 k hk) hfit.1 hfit.2
    exact W.putK hx0 hb (f := ff) ⟨ho, hts _ hw, ⟨_, _, _, hi2⟩, hst⟩ (by rw [q6]; exact h6) q5 q7 (by rw [hsl]; exact k2_hasslot (q8 k hk)) rfl rfl hd hcore
  · have hft : (T k).2.2.2 = true := by simpa using hff
    have hdecl := hfin.resolve_left hff
    unfold u_lay at hlay
    rw [if_pos hft] at hlay
    have hcf : m.cls = cf := by
      obtain ⟨_, _, c', _, _, _, -, -, hf', -, -, -, hown2, -⟩ := Cond.laysFinal_spec hlay
      have e1 : c' = cf := by have := hi2.symm.trans hf'; simp at this; exact this.1.symm
      rw [hdecl] at hown2
      rw [← e1]; exact Option.some.inj (ho.symm.trans hown2)
    have h6 := u_fits hfc hkC hkind (Or.inr hlay) hi2 (hI.2.2.2.1 k hk) hfit.1 hfit.2
    exact W.putFinK hx0 hb ho (hts _ hw) hi2 hst hcf hz0 (by rw [q6]; exact h6) q5 q7 (by rw [hsl]; exact k2_hasslot (q8 k hk)) rfl rfl hd hcore
theorem wn_aast {Y : YT} {Z : ZT} (hC : MC Y Z) {κ cj n : Nat} {C : String} {T : u_T} {ty : Nat → FieldType} (h30 : 30 ≤ κ) (hat : aT κ = .object C) (he : eτ κ = 2) (hI : CI cj C T n ty) {Γ : List (Nat × Nat)} {L : QL} {N : QN} {pc : Nat} {a i z : Int} {st : List Value} (hd : decode Y.2.1 pc = .ok (.aastore, 1)) (hx : N.1.1 a = κ) (h0 : 0 ≤ i) (h1 : i < N.1.2.1 a) (ii : ir 0 i) (hz : N.1.1 z = cj + 1) (hkk : WXN Z Y.2.2.1 Γ L (N.1, vu N.2.1 a i z, N.2.2) (pc + 1) st) : WXN Z Y.2.2.1 Γ L N pc (vo 2 z :: vo 0 i :: vo 2 a :: st) := by
  intro kc uc hk1 hu1
  have hkk := hkk kc uc hk1 hu1
  obtain ⟨own, cc, nL, fr, lo, τr⟩ := Y
  obtain ⟨p, l, e, R, s, m, args, below, meth, c, D, cy, A, H0, Q, cells, slots⟩ := Z
  obtain ⟨hx0, hb, -, ho, hts, -, -, -, -, -, hW, -⟩ := hC
  intro H locs ls g1 g2 g3
  obtain ⟨q1, q2, q3⟩ := g2.2 a (by omega)
  obtain ⟨y1, y2, y3⟩ := g2.2 z (by omega)
  have hκ20 : 20 ≤ N.1.1 a := by omega
  obtain ⟨r1, r2, r3, r4, r5⟩ := cOk_arr hκ20 q3
  rw [hz] at y3
  obtain ⟨-, cellV, v1, v2, v3, -⟩ := cOk_obj hI y3
  rw [hx] at r1
  obtain ⟨t0, ht⟩ := kL_idx r1 cy
  have hR := (hW.1.2 t0 _ ht).2
  rw [hat] at hR
  obtain ⟨kA, comp, k1, k2, k3, -⟩ := hR
  have hcls := (hW.1.1 cj _ hI.1).2
  have hcomp : comp = D.1 cj := Option.some.inj (k3.symm.trans hcls.1)
  subst hcomp
  obtain ⟨kC, hkC, -⟩ := hcls.2
  rw [vo2 q1, vo2 y1]
  have hnn := i_nat ii
  refine W.aast hx0 hb r5 (fun q h => by cases h) (fun h => by cases h) (by rw [hx]; exact k1) k2 rfl hkC ⟨fun q => ?_, by rw [arrV_size, hnn]; omega⟩ v1 (fun q h => by rw [v3] at h; cases h) (by rw [v2]; exact hkC) (by rw [v2]; exact va_assign hcls) rfl rfl hd fun H1 e1 e2 e3 => ?_
  · have := (i_ltI ii (irn (by decide) (by decide) : ir 0 0)).mp q
    omega
  refine hkk H1 _ ls g1 (hp_arr hκ20 g2 h0 h1 (by rw [hx, he]; show -1 ≤ z; omega) ?_ e2 e3) (g3.put e2 e3 (q2.resolve_left (by omega)))
  rw [e1, hnn, hx, he, vo2 y1]
