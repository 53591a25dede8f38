/-! RULES: stores into fields and arrays, System.arraycopy, switches -/
/-- what a field of a type takes -/
def QFit (ty : FieldType) (z : Int) : Prop := narrow ty (vo (τF ty) z) = vo (τF ty) z ∧ fits ty (vo (τF ty) z) = true
theorem qfit_int (z : Int) : QFit .int z := ⟨rfl, rfl⟩
theorem qfit_long (z : Int) : QFit .long z := ⟨rfl, rfl⟩
theorem qfit_bool {z : Int} (h : ir 3 z) : QFit .boolean z := by
  have h : _ ∧ _ := h
  obtain rfl | rfl : z = 0 ∨ z = 1 := by omega
  · exact ⟨rfl, rfl⟩
  · exact ⟨rfl, rfl⟩
theorem qfit_obj (C : String) (z : Int) : QFit (.object C) z := by
  unfold QFit
  show narrow (.object C) (vo 2 z) = vo 2 z ∧ fits (.object C) (vo 2 z) = true
  by_cases h : z < 0
  · have e1 : vo 2 z = .null := if_pos h
    rw [e1]; exact ⟨rfl, rfl⟩
  · have e1 : vo 2 z = .ref z.toNat := if_neg h
    rw [e1]; exact ⟨rfl, rfl⟩
/-- a field is written -/
theorem wx_put {Y : YT} {ci idx k N : Nat} {C : String} {T : u_T} {ty : Nat → FieldType} (hI : CI ci C T N ty) (hk : k < N) (hw : Cond.fieldLink Y.1 idx (T k).1 (T k).2.1 (T k).2.2.1 ∈ TW) (hfin : (T k).2.2.2 = false) {Z : ZT} (hC : MC Y Z) {Γ : List (Nat × Nat)} {L : QL} {S : QS} {v : QV} {pc : Nat} {a z : Int} {st : List Value} (hd : decode Y.2.1 pc = .ok (.putfield idx, 3)) (hx : S.1 a = ci + 1) (hz : ir (cτ ci k) z) (hfit : QFit (ty k) z) (hkk : WX Z Y.2.2.1 Γ L S (vu v a (k : Int) z) (pc + 3) st) : WX Z Y.2.2.1 Γ L S v pc (vo (cτ ci k) z :: vo 2 a :: st) := by
  obtain ⟨own, cc, nL, fr, lo, τr⟩ := Y
  obtain ⟨p, l, e, R, s, m, args, below, meth, c, D, cy, A, H0, Q, cells, slots⟩ := Z
  obtain ⟨hx0, hb, -, ho, hts, -, -, -, -, -, hW, -⟩ := hC
  intro H locs ls g1 g2 g3
  obtain ⟨q1, q2, q3⟩ := g2.2 a (by rw [hx]; omega)
  have q3' := q3
  rw [hx] at q3'
  obtain ⟨q4, cell, q5, q6, q7, q8⟩ := cOk_obj hI q3'
  obtain ⟨hS, hfc, kC, hkC, hkind⟩ := hW.1.1 ci _ hI.1
  obtain ⟨cf, kf, fi, ff, hi2, hsl⟩ := hS k hk
  rw [vo2 q1]
  have hts2 : ∀ w ∈ u_ws C T N, w.before args s = true := fun w hw => hts w (hI.2.2.1 w hw)
  have hlay := hts2 _ (u_in_lay hk)
  unfold u_lay at hlay
  rw [if_neg (by rw [hfin]; decide)] at hlay
  have hst := (u_facts hfc hkC (u_lays hts2 (fun w h => h) hk) hi2).1
  have hap := va_apart (own := own) hts2 (fun w h => h) ty hI.2.2.2.1 hI.2.2.2.2.1 hW.1 hI.1
  have hτ : cτ ci k = τF (ty k) := by unfold cτ; rw [hI.2.2.2.2.2]
  rw [hτ]
  have h6 := u_store hfc hkC hkind hlay hi2 (hI.2.2.2.1 k hk) hfit.1 hfit.2
  refine W.putK hx0 hb (f := ff) ⟨ho, hts _ hw, ⟨_, _, _, hi2⟩, hst⟩ (by rw [q6]; exact h6) q5 q7 (by rw [hsl]; exact k2_hasslot (q8 k hk)) rfl rfl hd fun H' e1 e2 e3 => ?_
  rw [hsl] at e1 ⊢
  refine hkk H' _ ls g1 (g2.put (by rw [hx]; omega) e2 e3 ?_) (g3.put e2 e3 (q2.resolve_left (by rw [hx]; have := hI.2.1; omega)))
  rw [hx]
  refine Or.inl ⟨by have := hI.2.1; omega, (C, T, N), hI.1, fun j hj => ?_, ?_⟩
  · rw [Nat.add_sub_cancel]
    by_cases hjk : (j : Int) = (k : Int)
    · have : j = k := by omega
      subst this
      simp only [if_true]
      exact hz
    · simp only [if_neg hjk]
      exact q4 j hj
  · rw [Nat.add_sub_cancel]
    refine t_OB.to (V := updV (fun j => vo (cτ ci j) (v a j)) k (vo (τF (ty k)) z)) ⟨_, e1, q6, q7, t_set q8 hap hk _⟩ (fun j hj => ?_)
    unfold updV
    by_cases hjk : j = k
    · subst hjk
      simp only [if_true, hτ]
    · have : ¬ ((j : Int) = (k : Int)) := by omega
      simp only [if_neg hjk, if_neg this]
section PUTS
variable {Y : YT} {Γ Γb Γk : List (Nat × Nat)} {pc p1 p2 p3 : Nat} {E B K : List Nat}
theorem okPut {kk : Int} {τ ci idx k N : Nat} {C : String} {T : u_T} {ty : Nat → FieldType} {a e : QE} (ha : OkE Y Γ 0 2 pc [p1] a) (he : OkE Y Γ 1 τ p1 [p2] e) (hτ : cτ ci k = τ) (hI : CI ci C T N ty) (hk : k < N) (hw : Cond.fieldLink Y.1 idx (T k).1 (T k).2.1 (T k).2.2.1 ∈ TW) (hfin : (T k).2.2.2 = false) (hfit : ∀ z, ir (cτ ci k) z → QFit (ty k) z) (hd : decode Y.2.1 p2 = .ok (.putfield idx, 3)) (hE : p2 + 3 ∈ E) (hkk0 : (k : Int) = kk) : OkS Y Γ Γ pc E Γb B Γk K (sPut ci kk a e) := by
  subst hkk0
  subst hτ
  intro Z hC L S v r hf k0 k1 k2 k3
  obtain ⟨x, h1, h2⟩ := Option.bind_eq_some_iff.mp hf
  obtain ⟨y, h3, h4⟩ := Option.bind_eq_some_iff.mp h2
  by_cases hx : S.1 x.1 = ci + 1
  · rw [if_pos hx] at h4
    cases h4
    refine ha Z hC L S v x [] h1 (Nat.le_refl _) (fun hi t ht => ?_)
    rw [List.mem_singleton.mp ht]
    refine he Z hC L S x.2 y [vo 2 x.1] h3 (by simp only [cat, List.map_cons, List.sum_cons, vo_ct, ct]; decide) (fun hii t ht => ?_)
    rw [List.mem_singleton.mp ht]
    exact wx_put hI hk hw hfin hC hd hx hii (hfit _ hii) (k0 rfl _ hE)
  · rw [if_neg hx] at h4; cases h4
/-- x.f op= e -/
theorem okPutC {kk : Int} {τ ci idx k N : Nat} {C : String} {T : u_T} {ty : Nat → FieldType} {a e : QE} {o : Int → Int → Int} {τb : Nat} (ha : OkE Y Γ 0 2 pc [p1] a) (hdup : decode Y.2.1 p1 = .ok (.dup, 1)) (hget : decode Y.2.1 (p1 + 1) = .ok (.getfield idx, 3)) (he : OkE Y Γ (1 + ct τ) τb (p1 + 4) [p2] e) (hs : ∀ x y, ir τ x → ir τb y → ir τ (o x y) ∧ QSt Y p2 [p3] [vo τb y, vo τ x] [vo τ (o x y)]) (hτ : cτ ci k = τ) (hI : CI ci C T N ty) (hk : k < N) (hw : Cond.fieldLink Y.1 idx (T k).1 (T k).2.1 (T k).2.2.1 ∈ TW) (hfin : (T k).2.2.2 = false) (hfit : ∀ z, ir (cτ ci k) z → QFit (ty k) z) (hd : decode Y.2.1 p3 = .ok (.putfield idx, 3)) (hE : p3 + 3 ∈ E) (hkk0 : (k : Int) = kk) : OkS Y Γ Γ pc E Γb B Γk K (sPutC ci kk a o e) := by
  subst hkk0
  subst hτ
  intro Z hC L S v r hf k0 k1 k2 k3
  obtain ⟨x, h1, h2⟩ := Option.bind_eq_some_iff.mp hf
  by_cases hx : S.1 x.1 = ci + 1
  · rw [if_pos hx] at h2
    obtain ⟨y, h3, h4⟩ := Option.bind_eq_some_iff.mp h2
    cases h4
    refine ha Z hC L S v x [] h1 (Nat.le_refl _) (fun hi t ht => ?_)
    rw [List.mem_singleton.mp ht]
    -- the old value
    have hold : ∀ (st : List Value), WX Z Y.2.2.1 Γ L S x.2 (p1 + 4) (vo (cτ ci k) (x.2 x.1 (k : Int)) :: st) → WX Z Y.2.2.1 Γ L S x.2 (p1 + 1) (vo 2 x.1 :: st) := by
      intro st hkk
      obtain ⟨own, cc, nL, fr, lo, τr⟩ := Y
      obtain ⟨p, l, ee, R, s, m, args, below, meth, c, D, cy, A, H0, Q, cells, slots⟩ := Z
      obtain ⟨hx0, hb, -, ho, hts, -, -, -, -, -, hW, -⟩ := hC
      intro H locs ls g1 g2 g3
      obtain ⟨q1, q2, q3⟩ := g2.2 x.1 (by rw [hx]; omega)
      rw [hx] at q3
      obtain ⟨q4, cell, q5, q6, q7, q8⟩ := cOk_obj hI q3
      obtain ⟨hS, hfc, kC, hkC, hkind⟩ := hW.1.1 ci _ hI.1
      obtain ⟨cf, kf, fi, ff, hi2, hsl⟩ := hS k hk
      rw [vo2 q1]
      have hts2 : ∀ w ∈ u_ws C T N, w.before args s = true := fun w hw => hts w (hI.2.2.1 w hw)
      refine W.getf hx0 hb ho (hts _ hw) hi2 (u_facts hfc hkC (u_lays hts2 (fun w h => h) hk) hi2).1 q5 (by rw [q7]; exact fun h => by cases h) (v := vo (cτ ci k) (x.2 x.1 k)) ?_ rfl rfl hget (hkk H locs ls g1 g2 g3)
      rw [hsl, q8 k hk]
    have hir : ∀ (st : List Value), (ir (cτ ci k) (x.2 x.1 (k : Int)) → WX Z Y.2.2.1 Γ L S x.2 (p1 + 1) (vo 2 x.1 :: st)) → WX Z Y.2.2.1 Γ L S x.2 (p1 + 1) (vo 2 x.1 :: st) := by
      intro st hkk
      obtain ⟨p, l, ee, R, s, m, args, below, meth, c, D, cy, A, H0, Q, cells, slots⟩ := Z
      intro H locs ls g1 g2 g3
      obtain ⟨q1, q2, q3⟩ := g2.2 x.1 (by rw [hx]; omega)
      rw [hx] at q3
      exact hkk ((cOk_obj hI q3).1 k hk) H locs ls g1 g2 g3
    have hdupW : WX Z Y.2.2.1 Γ L S x.2 (p1 + 1) (vo 2 x.1 :: vo 2 x.1 :: []) → WX Z Y.2.2.1 Γ L S x.2 p1 (vo 2 x.1 :: []) := by
      intro hkk
      obtain ⟨p, l, ee, R, s, m, args, below, meth, c, D, cy, A, H0, Q, cells, slots⟩ := Z
      obtain ⟨hx0, hb, -⟩ := hC
      intro H locs ls g1 g2 g3
      exact lv_dup hx0 hb hdup (by rw [vo_ct]; rfl) (hkk H locs ls g1 g2 g3)
    refine hdupW (hir _ (fun hio => hold _ ?_))
    refine he Z hC L S x.2 y [vo (cτ ci k) (x.2 x.1 k), vo 2 x.1] h3 (by simp only [cat, List.map_cons, List.map_nil, List.sum_cons, List.sum_nil, vo_ct, ct]; omega) (fun hii t ht => ?_)
    rw [List.mem_singleton.mp ht]
    obtain ⟨s1, s2⟩ := hs _ _ hio hii
    refine s2 Z hC Γ L S y.2 [vo 2 x.1] (fun t ht => ?_)
    rw [List.mem_singleton.mp ht]
    exact wx_put hI hk hw hfin hC hd hx s1 (hfit _ s1) (k0 rfl _ hE)
  · rw [if_neg hx] at h2; cases h2
end PUTS
/-- an array's place is written: what the heap is then -/
theorem hp_arr {D : va_G} {cy : Nat → ClassId} {A : Nat → Prop} {S : QS} {v : QV} {H H1 : Heap} {a i z : Int} (hκ : 20 ≤ S.1 a) (h : hpOk D cy A S v H) (h0 : 0 ≤ i) (h1 : i < S.2.1 a) (hz : ir (eτ (S.1 a)) z) (e1 : H1[a.toNat]? = some ((arrV (cy (S.1 a)) (S.2.1 a).toNat (fun k => vo (eτ (S.1 a)) (v a k))).setSlot i.toNat (vo (eτ (S.1 a)) z))) (e2 : H1.size = H.size) (e3 : ∀ q : Nat, q ≠ a.toNat → H1[q]? = H[q]?) : hpOk D cy A S (vu v a i z) H1 := by
  obtain ⟨q1, q2, q3⟩ := h.2 a (by omega)
  obtain ⟨r1, r2, r3, r4, r5⟩ := cOk_arr hκ q3
  refine h.put (by omega) e2 e3 (Or.inr (Or.inl ⟨hκ, r1, r2, r3, fun k hk => ?_, ?_⟩))
  · by_cases e : (k : Int) = i
    · simp only [if_pos e]; exact hz
    · simp only [if_neg e]; exact r4 k hk
  · rw [e1, arrV_store]
    refine congrArg (fun f => some (arrV (cy (S.1 a)) (S.2.1 a).toNat f)) ?_
    funext k
    unfold updV
    by_cases e : k = i.toNat
    · have : (k : Int) = i := by omega
      simp only [if_pos e, if_pos this]
    · have : ¬ (k : Int) = i := by omega
      simp only [if_neg e, if_neg this]
/-- the store instruction of a kind of array -/
def aSt : Nat → Instr
  | 20 => .iastore
  | 23 => .castore
  | 40 => .iastore
  | 41 => .lastore
  | _ => .bastore
def aX : Nat → Nat
  | 41 => 1
  | _ => 0
theorem char_ok (x : Int) : ((Int32.ofInt x).toUInt32.toUInt16.toUInt32.toInt32) = Int32.ofInt (x % 65536) := by
  have h := i2c_ok x
  have e : narrow .char (.int (Int32.ofInt x)) = .int (vp_nar .char (Int32.ofInt x)) := rfl
  rw [vp_nar_char] at e
  have e2 : narrow .char (.int (Int32.ofInt x)) = .int ((Int32.ofInt x).toUInt32.toUInt16.toUInt32.toInt32) := rfl
  apply bv_eq
  have e3 : ((Int32.ofInt x).toUInt32.toUInt16.toUInt32.toInt32).toBitVec.toNat = (Int32.ofInt x).toBitVec.toNat % 65536 := by
    show ((((Int32.ofInt x).toBitVec).setWidth 16).setWidth 32).toNat = _
    rw [BitVec.toNat_setWidth, BitVec.toNat_setWidth]
    omega
  rw [e3, bvn]
  omega
theorem bit_ok (x : Int) : Int32.ofInt x &&& 1 = Int32.ofInt (x % 2) := by
  have h := pk_and (Int32.ofInt x) (m := 1) 1 (by decide)
  rw [h, bvn, nI_of_int]
  congr 1
  omega
theorem nr42 (z : Int) : ir (eτ 42) (nr 42 z) := by
  show -128 ≤ w8 z ∧ w8 z < 128
  unfold w8
  omega
theorem nr23 (z : Int) : ir (eτ 23) (nr 23 z) := by
  show 0 ≤ z % 65536 ∧ z % 65536 < 65536
  omega
theorem nr24 (z : Int) : ir (eτ 24) (nr 24 z) := by
  show 0 ≤ z % 2 ∧ z % 2 ≤ 1
  omega
theorem nr44 (z : Int) : ir (eτ 44) (nr 44 z) := by
  show 0 ≤ z % 2 ∧ z % 2 ≤ 1
  omega
theorem wx_ast {Y : YT} {κ : Nat} (hκ : κ = 20 ∨ κ = 23 ∨ κ = 24 ∨ κ = 40 ∨ κ = 41 ∨ κ = 42 ∨ κ = 44) {Z : ZT} (hC : MC Y Z) {Γ : List (Nat × Nat)} {L : QL} {S : QS} {v : QV} {pc : Nat} {a i z : Int} {st : List Value} (hd : decode Y.2.1 pc = .ok (aSt κ, 1)) (hx : S.1 a = κ) (h0 : 0 ≤ i) (h1 : i < S.2.1 a) (hi : ir 0 i) (hz : ir (aX κ) z) (hkk : WX Z Y.2.2.1 Γ L S (vu v a i (nr κ z)) (pc + 1) st) : WX Z Y.2.2.1 Γ L S v pc (vo (aX κ) z :: vo 0 i :: vo 2 a :: st) := by
  obtain ⟨own, cc, nL, fr, lo, τr⟩ := Y
  obtain ⟨p, l, e, R, s, m, args, below, meth, c, D, cy, A, H0, Q, cells, slots⟩ := Z
  obtain ⟨hx0, hb, -, ho, hts, -, -, -, -, -, hW, -⟩ := hC
  intro H locs ls g1 g2 g3
  have hκ20 : 20 ≤ S.1 a := by omega
  obtain ⟨q1, q2, q3⟩ := g2.2 a (by omega)
  obtain ⟨r1, r2, r3, r4, r5⟩ := cOk_arr hκ20 q3
  obtain ⟨t0, ht⟩ := kL_idx r1 cy
  have hin : ¬ (Int32.ofInt i < 0 ∨ (arrV (cy (S.1 a)) (S.2.1 a).toNat (fun k => vo (eτ (S.1 a)) (v a k))).slots.size ≤ (Int32.ofInt i).toNatClampNeg) := by rw [arrV_size]; exact xx_in hi h0 (by omega)
  rw [vo2 q1]
  have harr := (hW.1.2 t0 _ ht).1 (S.2.1 a).toNat (fun k => vo (eτ (S.1 a)) (v a k))
  have hnat := i_nat hi
  rcases hκ with rfl | rfl | rfl | rfl | rfl | rfl | rfl
  · rw [hx] at harr
    refine W.iast hx0 hb r5 (by rw [hx]; exact harr) (fun q => by cases q) hin rfl rfl hd fun H1 e1 e2 e3 => ?_
    rw [hnat] at e1 ⊢
    exact hkk H1 _ ls g1 (hp_arr hκ20 g2 h0 h1 (by rw [hx]; exact hz) (by rw [e1, hx]; rfl) e2 e3) (g3.put e2 e3 (q2.resolve_left (by omega)))
  · rw [hx] at harr
    refine W.cast hx0 hb r5 (by rw [hx]; exact harr) (fun q => by cases q) hin rfl rfl hd fun H1 e1 e2 e3 => ?_
    rw [hnat] at e1 ⊢
    refine hkk H1 _ ls g1 (hp_arr hκ20 g2 h0 h1 (by rw [hx]; exact nr23 z) ?_ e2 e3) (g3.put e2 e3 (q2.resolve_left (by omega)))
    rw [e1, hx]
    have : narrow .char (.int (Int32.ofInt z)) = vo (eτ 23) (nr 23 z) := by
      show Value.int _ = Value.int _
      rw [char_ok]; rfl
    rw [this]
  · rw [hx] at harr
    refine W.zast hx0 hb r5 (by rw [hx]; exact harr) (fun q => by cases q) hin rfl rfl hd fun H1 e1 e2 e3 => ?_
    rw [hnat] at e1 ⊢
    refine hkk H1 _ ls g1 (hp_arr hκ20 g2 h0 h1 (by rw [hx]; exact nr24 z) ?_ e2 e3) (g3.put e2 e3 (q2.resolve_left (by omega)))
    rw [e1, hx]
    have : narrow .boolean (.int (Int32.ofInt z)) = vo (eτ 24) (nr 24 z) := by
      show Value.int _ = Value.int _
      rw [bit_ok]; rfl
    rw [this]
  · rw [hx] at harr
    refine W.iast hx0 hb r5 (by rw [hx]; exact harr) (fun q => by cases q) hin rfl rfl hd fun H1 e1 e2 e3 => ?_
    rw [hnat] at e1 ⊢
    exact hkk H1 _ ls g1 (hp_arr hκ20 g2 h0 h1 (by rw [hx]; exact hz) (by rw [e1, hx]; rfl) e2 e3) (g3.put e2 e3 (q2.resolve_left (by omega)))
  · rw [hx] at harr
    refine W.last hx0 hb r5 (by rw [hx]; exact harr) (fun q => by cases q) hin rfl rfl hd fun H1 e1 e2 e3 => ?_
    rw [hnat] at e1 ⊢
    exact hkk H1 _ ls g1 (hp_arr hκ20 g2 h0 h1 (by rw [hx]; exact hz) (by rw [e1, hx]; rfl) e2 e3) (g3.put e2 e3 (q2.resolve_left (by omega)))
  · rw [hx] at harr
    refine W.bast hx0 hb r5 (by rw [hx]; exact harr) (fun q => by cases q) hin rfl rfl hd fun H1 e1 e2 e3 => ?_
    rw [hnat] at e1 ⊢
    refine hkk H1 _ ls g1 (hp_arr hκ20 g2 h0 h1 (by rw [hx]; exact nr42 z) ?_ e2 e3) (g3.put e2 e3 (q2.resolve_left (by omega)))
    rw [e1, hx]
    have : narrow .byte (.int (Int32.ofInt z)) = vo (eτ 42) (nr 42 z) := by
      show Value.int _ = Value.int _
      rw [w8_ok]; rfl
    rw [this]
  · rw [hx] at harr
    refine W.zast hx0 hb r5 (by rw [hx]; exact harr) (fun q => by cases q) hin rfl rfl hd fun H1 e1 e2 e3 => ?_
    rw [hnat] at e1 ⊢
    refine hkk H1 _ ls g1 (hp_arr hκ20 g2 h0 h1 (by rw [hx]; exact nr44 z) ?_ e2 e3) (g3.put e2 e3 (q2.resolve_left (by omega)))
    rw [e1, hx]
    have : narrow .boolean (.int (Int32.ofInt z)) = vo (eτ 44) (nr 44 z) := by
      show Value.int _ = Value.int _
      rw [bit_ok]; rfl
    rw [this]
/-- the load instruction of ints and longs -/
def aLd : Nat → Instr
  | 41 => .laload
  | _ => .iaload
theorem wx_ald {Y : YT} {κ : Nat} (hκ : κ = 20 ∨ κ = 40 ∨ κ = 41) {Z : ZT} (hC : MC Y Z) {Γ : List (Nat × Nat)} {L : QL} {S : QS} {v : QV} {pc : Nat} {a i : Int} {st : List Value} (hd : decode Y.2.1 pc = .ok (aLd κ, 1)) (hx : S.1 a = κ) (h0 : 0 ≤ i) (h1 : i < S.2.1 a) (hi : ir 0 i) (hkk : ir (aX κ) (v a i) → WX Z Y.2.2.1 Γ L S v (pc + 1) (vo (aX κ) (v a i) :: st)) : WX Z Y.2.2.1 Γ L S v pc (vo 0 i :: vo 2 a :: st) := by
  obtain ⟨own, cc, nL, fr, lo, τr⟩ := Y
  obtain ⟨p, l, e, R, s, m, args, below, meth, c, D, cy, A, H0, Q, cells, slots⟩ := Z
  obtain ⟨hx0, hb, -, ho, hts, -, -, -, -, -, hW, -⟩ := hC
  intro H locs ls g1 g2 g3
  have hκ20 : 20 ≤ S.1 a := by omega
  obtain ⟨q1, q2, q3⟩ := g2.2 a (by omega)
  obtain ⟨r1, r2, r3, r4, r5⟩ := cOk_arr hκ20 q3
  obtain ⟨t0, ht⟩ := kL_idx r1 cy
  have hin : ¬ (Int32.ofInt i < 0 ∨ (arrV (cy (S.1 a)) (S.2.1 a).toNat (fun k => vo (eτ (S.1 a)) (v a k))).slots.size ≤ (Int32.ofInt i).toNatClampNeg) := by rw [arrV_size]; exact xx_in hi h0 (by omega)
  rw [vo2 q1]
  have harr := (hW.1.2 t0 _ ht).1 (S.2.1 a).toNat (fun k => vo (eτ (S.1 a)) (v a k))
  have ei : ((i.toNat : Nat) : Int) = i := Int.toNat_of_nonneg h0
  have hr := r4 i.toNat (by rw [ei]; exact h1)
  rw [ei] at hr
  rcases hκ with rfl | rfl | rfl
  · rw [hx] at harr hr
    refine W.iald (v := vo 0 (v a i)) hx0 hb r5 (by rw [hx]; exact harr) (fun q => by cases q) hin ?_ rfl rfl hd (hkk hr H locs ls g1 g2 g3)
    rw [i_nat hi, arrV_read _ _ (by omega), ei, hx]
    rfl
  · rw [hx] at harr hr
    refine W.iald (v := vo 0 (v a i)) hx0 hb r5 (by rw [hx]; exact harr) (fun q => by cases q) hin ?_ rfl rfl hd (hkk hr H locs ls g1 g2 g3)
    rw [i_nat hi, arrV_read _ _ (by omega), ei, hx]
    rfl
  · rw [hx] at harr hr
    refine W.lald (v := vo 1 (v a i)) hx0 hb r5 (by rw [hx]; exact harr) (fun q => by cases q) hin ?_ rfl rfl hd (hkk hr H locs ls g1 g2 g3)
    rw [i_nat hi, arrV_read _ _ (by omega), ei, hx]
    rfl
section ARRS
variable {Y : YT} {Γ Γb Γk : List (Nat × Nat)} {pc p1 p2 p3 p4 : Nat} {E B K : List Nat}
theorem okArr {κ : Nat} {a i e : QE} (hκ : κ = 20 ∨ κ = 23 ∨ κ = 24 ∨ κ = 40 ∨ κ = 41 ∨ κ = 42 ∨ κ = 44) (ha : OkE Y Γ 0 2 pc [p1] a) (hi : OkE Y Γ 1 0 p1 [p2] i) (he : OkE Y Γ 2 (aX κ) p2 [p3] e) (hd : decode Y.2.1 p3 = .ok (aSt κ, 1)) (hE : p3 + 1 ∈ E) : OkS Y Γ Γ pc E Γb B Γk K (sArr κ a i e) := by
  intro Z hC L S v r hf k0 k1 k2 k3
  obtain ⟨x, h1, h2⟩ := Option.bind_eq_some_iff.mp hf
  obtain ⟨j, h3, h4⟩ := Option.bind_eq_some_iff.mp h2
  obtain ⟨y, h5, h6⟩ := Option.bind_eq_some_iff.mp h4
  by_cases hx : S.1 x.1 = κ ∧ 0 ≤ j.1 ∧ j.1 < S.2.1 x.1
  · rw [if_pos hx] at h6
    cases h6
    refine ha Z hC L S v x [] h1 (Nat.le_refl _) (fun i1 t ht => ?_)
    rw [List.mem_singleton.mp ht]
    refine hi Z hC L S x.2 j [vo 2 x.1] h3 (by simp only [cat, List.map_cons, List.map_nil, List.sum_cons, List.sum_nil, vo_ct, ct]; decide) (fun i2 t ht => ?_)
    rw [List.mem_singleton.mp ht]
    refine he Z hC L S j.2 y [vo 0 j.1, vo 2 x.1] h5 (by simp only [cat, List.map_cons, List.map_nil, List.sum_cons, List.sum_nil, vo_ct, ct]; decide) (fun i3 t ht => ?_)
    rw [List.mem_singleton.mp ht]
    exact wx_ast hκ hC hd hx.1 hx.2.1 hx.2.2 i2 i3 (k0 rfl _ hE)
  · rw [if_neg hx] at h6; cases h6
theorem okArrC {κ τb : Nat} {a i e : QE} {o : Int → Int → Int} (hκ : κ = 20 ∨ κ = 40 ∨ κ = 41) (ha : OkE Y Γ 0 2 pc [p1] a) (hi : OkE Y Γ 1 0 p1 [p2] i) (hdup : decode Y.2.1 p2 = .ok (.dup2, 1)) (hld : decode Y.2.1 (p2 + 1) = .ok (aLd κ, 1)) (he : OkE Y Γ (2 + ct (aX κ)) τb (p2 + 2) [p3] e) (hs : ∀ x y, ir (aX κ) x → ir τb y → ir (aX κ) (o x y) ∧ QSt Y p3 [p4] [vo τb y, vo (aX κ) x] [vo (aX κ) (o x y)]) (hd : decode Y.2.1 p4 = .ok (aSt κ, 1)) (hE : p4 + 1 ∈ E) : OkS Y Γ Γ pc E Γb B Γk K (sArrC κ a i o e) := by
  intro Z hC L S v r hf k0 k1 k2 k3
  obtain ⟨x, h1, h2⟩ := Option.bind_eq_some_iff.mp hf
  obtain ⟨j, h3, h4⟩ := Option.bind_eq_some_iff.mp h2
  by_cases hx : S.1 x.1 = κ ∧ 0 ≤ j.1 ∧ j.1 < S.2.1 x.1
  · rw [if_pos hx] at h4
    obtain ⟨y, h5, h6⟩ := Option.bind_eq_some_iff.mp h4
    cases h6
    refine ha Z hC L S v x [] h1 (Nat.le_refl _) (fun i1 t ht => ?_)
    rw [List.mem_singleton.mp ht]
    refine hi Z hC L S x.2 j [vo 2 x.1] h3 (by simp only [cat, List.map_cons, List.map_nil, List.sum_cons, List.sum_nil, vo_ct, ct]; decide) (fun i2 t ht => ?_)
    rw [List.mem_singleton.mp ht]
    have hdupW : WX Z Y.2.2.1 Γ L S j.2 (p2 + 1) [vo 0 j.1, vo 2 x.1, vo 0 j.1, vo 2 x.1] → WX Z Y.2.2.1 Γ L S j.2 p2 [vo 0 j.1, vo 2 x.1] := by
      intro hkk
      obtain ⟨p, l, ee, R, s, m, args, below, meth, c, D, cy, A, H0, Q, cells, slots⟩ := Z
      obtain ⟨hx0, hb, -⟩ := hC
      intro H locs ls g1 g2 g3
      exact lv_dup2_11 hx0 hb hdup (by rw [vo_ct]; rfl) (by rw [vo_ct]; rfl) (hkk H locs ls g1 g2 g3)
    refine hdupW (wx_ald hκ hC hld hx.1 hx.2.1 hx.2.2 i2 (fun i4 => ?_))
    refine he Z hC L S j.2 y [vo (aX κ) (j.2 x.1 j.1), vo 0 j.1, vo 2 x.1] h5 (by simp only [cat, List.map_cons, List.map_nil, List.sum_cons, List.sum_nil, vo_ct, ct]; omega) (fun i3 t ht => ?_)
    rw [List.mem_singleton.mp ht]
    obtain ⟨s1, s2⟩ := hs _ _ i4 i3
    refine s2 Z hC Γ L S y.2 [vo 0 j.1, vo 2 x.1] (fun t ht => ?_)
    rw [List.mem_singleton.mp ht]
    exact wx_ast (by rcases hκ with h | h | h <;> simp [h]) hC hd hx.1 hx.2.1 hx.2.2 i2 s1 (k0 rfl _ hE)
  · rw [if_neg hx] at h4; cases h4
end ARRS
/-! switches -/
def swT : List (Int × Nat) → Nat → Int → Nat
  | [], d, _ => d
  | (k, t) :: l, d, z => if z = k then t else swT l d z
/-- a table's and a list's jump, as one list -/
def QSw (Y : YT) (pc : Nat) (tb : List (Int × Nat)) (df : Nat) : Prop := ∀ Z, MC Y Z → ∀ (Γ : List (Nat × Nat)) (L : QL) (S : QS) (v : QV) (st : List Value) (z : Int), ir 0 z → WX Z Y.2.2.1 Γ L S v (swT tb df z) st → WX Z Y.2.2.1 Γ L S v pc (vo 0 z :: st)
theorem swT_off (pc : Nat) (d : Int) (df : Nat) (hdf : (pc : Int) + d = df) : ∀ (ps : List (Int × Int)) (tb : List (Int × Nat)), (ps.map fun q => (q.1, (pc : Int) + q.2)) = (tb.map fun q => (q.1, (q.2 : Int))) → ∀ z : Int, (pc : Int) + Op.lookupswitch.offset ps d z = (swT tb df z : Int)
  | [], [], _, z => by simpa [Op.lookupswitch.offset, swT] using hdf
  | [], b :: tb, h, z => by simp at h
  | a :: ps, [], h, z => by simp at h
  | (k, o) :: ps, (k2, t) :: tb, h, z => by
    simp only [List.map_cons, List.cons.injEq, Prod.mk.injEq] at h
    obtain ⟨⟨rfl, h1⟩, h2⟩ := h
    have ih := swT_off pc d df hdf ps tb h2 z
    by_cases e : z = k
    · subst e
      simp only [Op.lookupswitch.offset, swT, if_true]
      first | exact h1 | simpa using h1
    · simp only [swT, if_neg e]
      rw [← ih]
      simp [Op.lookupswitch.offset, e, Ne.symm e]
theorem sw_look {Y : YT} {pc len df : Nat} {d : Int} {ps : Array (Int × Int)} {tb : List (Int × Nat)} (hd : decode Y.2.1 pc = .ok (.lookupswitch d ps, len)) (hp : (ps.toList.zip (ps.toList.drop 1)).all (fun (a, next) => a.1 < next.1) = true) (hdf : (pc : Int) + d = df) (ht : (ps.toList.map fun q => (q.1, (pc : Int) + q.2)) = (tb.map fun q => (q.1, (q.2 : Int)))) : QSw Y pc tb df := by
  rintro ⟨p, l, e, R, s, m, args, below, meth, c, D, cy, A, H0, Q, cells, slots⟩ ⟨hx, hb, -⟩ Γ L S v st z hz hk H locs ls h1 h2 h3
  refine lv_lookup hx hb hd hp rfl ?_ (hk H locs ls h1 h2 h3)
  rw [i_toInt hz]
  exact swT_off pc d df hdf _ _ ht z
theorem sw_table {Y : YT} {pc len df K : Nat} {d lo hi : Int} {offs : Array Int} {tb : List (Int × Nat)} (hd : decode Y.2.1 pc = .ok (.tableswitch d lo hi offs, len)) (hdf : (pc : Int) + d = df) (hoff : (offs.toList.map fun o => (pc : Int) + o) = (List.range K).map fun n : Nat => ((swT tb df (lo + n) : Nat) : Int)) (hK : hi - lo + 1 = (K : Int)) (hout : ∀ q ∈ tb, lo ≤ q.1 ∧ q.1 ≤ hi) : QSw Y pc tb df := by
  rintro ⟨p, l, e, R, s, m, args, below, meth, c, D, cy, A, H0, Q, cells, slots⟩ ⟨hx, hb, -⟩ Γ L S v st z hz hk H locs ls h1 h2 h3
  by_cases hz1 : z < lo ∨ hi < z
  · have e1 : swT tb df z = df := by
      have : ∀ l : List (Int × Nat), (∀ q ∈ l, lo ≤ q.1 ∧ q.1 ≤ hi) → swT l df z = df := by
        intro l
        induction l with
        | nil => intro _; rfl
        | cons a l ih =>
          intro h
          have h4 := h a List.mem_cons_self
          have : ¬ z = a.1 := by omega
          simp only [swT, if_neg this]
          exact ih (fun q hq => h q (List.mem_cons_of_mem _ hq))
      exact this tb hout
    rw [e1] at hk
    exact lv_tableOut hx hb hd (by rw [i_toInt hz]; exact hz1) hdf (hk H locs ls h1 h2 h3)
  · have e2 : lo + ((z - lo).toNat : Nat) = z := by omega
    have hn : (z - lo).toNat < K := by omega
    have h4 := congrArg (fun l => l[(z - lo).toNat]?) hoff
    simp only [List.getElem?_map, List.getElem?_range hn, Option.map_some] at h4
    rw [Array.getElem?_toList] at h4
    cases ho : offs[(z - lo).toNat]? with
    | none => rw [ho] at h4; cases h4
    | some off =>
      rw [ho] at h4
      have o2 : (pc : Int) + off = ((swT tb df (lo + ((z - lo).toNat : Nat)) : Nat) : Int) := by simpa using h4
      rw [e2] at o2
      exact lv_tableIn hx hb hd (by rw [i_toInt hz]; omega) (by rw [i_toInt hz]; omega) (by rw [i_toInt hz]; exact ho) o2 (hk H locs ls h1 h2 h3)
theorem okSwF {Y : YT} {Γ Γ' Γb Γk : List (Nat × Nat)} {E B K : List Nat} {d : QT} {tb : List (Int × Nat)} {df : Nat} (z : Int) (hd : OkS Y Γ Γ' df E Γb B Γk K d) : ∀ (cs : List (List Int × Nat × QT)), (∀ c ∈ cs, OkS Y Γ Γ' c.2.1 E Γb B Γk K c.2.2) → (∀ c ∈ cs, ∀ k ∈ c.1, swT tb df k = c.2.1) → ((∀ c ∈ cs, z ∉ c.1) → swT tb df z = df) → OkS Y Γ Γ' (swT tb df z) E Γb B Γk K (sSwF (cs.map fun c => (c.1, c.2.2)) d z) := by
  intro cs
  induction cs with
  | nil => intro _ _ h3; rw [h3 (fun c hc => by cases hc)]; exact hd
  | cons c cs ih =>
    intro h1 h2 h3
    simp only [List.map_cons, sSwF]
    by_cases hz : z ∈ c.1
    · rw [if_pos hz, h2 c List.mem_cons_self z hz]
      exact h1 c List.mem_cons_self
    · rw [if_neg hz]
      exact ih (fun q hq => h1 q (List.mem_cons_of_mem _ hq)) (fun q hq => h2 q (List.mem_cons_of_mem _ hq)) (fun h => h3 (fun q hq => by
        rcases List.mem_cons.mp hq with rfl | hq
        · exact hz
        · exact h q hq))
/-- every key of the jump's list that isn't a case goes to the last -/
theorem swT_def {df : Nat} {z : Int} {cs : List (List Int × Nat × QT)} : ∀ (tb : List (Int × Nat)), (∀ q ∈ tb, q.2 = df ∨ ∃ c ∈ cs, q.1 ∈ c.1) → (∀ c ∈ cs, z ∉ c.1) → swT tb df z = df
  | [], _, _ => rfl
  | (k, t) :: tb, h, hz => by
    by_cases e : z = k
    · subst e
      simp only [swT, if_true]
      rcases h _ List.mem_cons_self with h | ⟨c, hc, hk⟩
      · exact h
      · exact absurd hk (hz c hc)
    · simp only [swT, if_neg e]
      exact swT_def tb (fun q hq => h q (List.mem_cons_of_mem _ hq)) hz
theorem okCsNil {Y : YT} {Γ Γ' Γb Γk : List (Nat × Nat)} {E B K : List Nat} : ∀ c ∈ ([] : List (List Int × Nat × QT)), OkS Y Γ Γ' c.2.1 E Γb B Γk K c.2.2 := fun _ h => by cases h
theorem okCsCons {Y : YT} {Γ Γ' Γb Γk : List (Nat × Nat)} {E B K : List Nat} {ks : List Int} {p : Nat} {s : QT} {cs : List (List Int × Nat × QT)} (h : OkS Y Γ Γ' p E Γb B Γk K s) (t : ∀ c ∈ cs, OkS Y Γ Γ' c.2.1 E Γb B Γk K c.2.2) : ∀ c ∈ (ks, p, s) :: cs, OkS Y Γ Γ' c.2.1 E Γb B Γk K c.2.2 := fun c hc => by
  rcases List.mem_cons.mp hc with rfl | hc
  · exact h
  · exact t c hc
theorem okSw {Y : YT} {Γ Γ' Γb Γk : List (Nat × Nat)} {pc p1 df : Nat} {E B K : List Nat} {e : QE} {d : QT} {tb : List (Int × Nat)} {css : List (List Int × QT)} (cs : List (List Int × Nat × QT)) (hcss : css = cs.map fun c => (c.1, c.2.2)) (he : OkE Y Γ 0 0 pc [p1] e) (hs : QSw Y p1 tb df) (hcs : ∀ c ∈ cs, OkS Y Γ Γ' c.2.1 E Γ' E Γk K c.2.2) (hd : OkS Y Γ Γ' df E Γ' E Γk K d) (h2 : ∀ c ∈ cs, ∀ k ∈ c.1, swT tb df k = c.2.1) (h3 : ∀ q ∈ tb, q.2 = df ∨ ∃ c ∈ cs, q.1 ∈ c.1) : OkS Y Γ Γ' pc E Γb B Γk K (sSw e css d) := by
  subst hcss
  intro Z hC L S v r hf k0 k1 k2 k3
  obtain ⟨x, g1, g2⟩ := Option.bind_eq_some_iff.mp hf
  obtain ⟨y, g3, g4⟩ := Option.bind_eq_some_iff.mp g2
  refine he Z hC L S v x [] g1 (Nat.le_refl _) (fun hi t ht => ?_)
  rw [List.mem_singleton.mp ht]
  refine hs Z hC Γ L S x.2 [] x.1 hi ?_
  have hF := okSwF (Y := Y) (tb := tb) x.1 hd cs hcs h2 (fun h => swT_def tb h3 h)
  by_cases hy : y.1.1 = 1
  · rw [if_pos hy] at g4
    cases g4
    exact hF Z hC L S x.2 y g3 (fun q => absurd (hy.symm.trans q) (by decide)) (fun _ => k0 rfl) (fun q => absurd (hy.symm.trans q) (by decide)) (fun q => absurd (hy.symm.trans q) (by decide))
  · rw [if_neg hy] at g4
    cases g4
    exact hF Z hC L S x.2 r g3 k0 (fun q => absurd q hy) k2 k3
