/-! THE PURE PART. What a piece of a method brings about: weakest conditions over the functions of 11.sem -/
def wE (e : QE) (L : QL) (S : QS) (v : QV) (Q : Int → QV → Prop) : Prop := ∃ z w, e L S v = some (z, w) ∧ Q z w
def wC (c : QC) (L : QL) (S : QS) (v : QV) (Q : Bool → QV → Prop) : Prop := ∃ t w, c L S v = some (t, w) ∧ Q t w
def wA (es : List QE) (L : QL) (S : QS) (v : QV) (Q : List Int → QV → Prop) : Prop := ∃ zs w, eAs es L S v = some (zs, w) ∧ Q zs w
def wS (s : QT) (L : QL) (S : QS) (v : QV) (Q : Nat → Int → QL → QV → Prop) : Prop := ∃ k z M w, s L S v = some ((k, z), M, w) ∧ Q k z M w
def wM (g : QM) (zs : List Int) (S : QS) (v : QV) (Q : Int → QV → Prop) : Prop := ∃ z w, g zs S v = some (z, w) ∧ Q z w
theorem bs {α β : Type} {o : Option α} {f : α → Option β} {y : β} : o.bind f = some y ↔ ∃ x, o = some x ∧ f x = some y := Option.bind_eq_some_iff
theorem ite_some {α : Type} {c : Prop} [Decidable c] {x y : α} : (if c then some x else none) = some y ↔ c ∧ x = y := by
  by_cases h : c <;> simp [h]
section W
variable {L : QL} {S : QS} {v : QV}
theorem wE_I {n : Int} {Q : Int → QV → Prop} : wE (eI n) L S v Q ↔ Q n v := ⟨fun ⟨_, _, h, q⟩ => by cases h; exact q, fun q => ⟨_, _, rfl, q⟩⟩
theorem wE_V {k : Nat} {Q : Int → QV → Prop} : wE (eV k) L S v Q ↔ Q (L k) v := ⟨fun ⟨_, _, h, q⟩ => by cases h; exact q, fun q => ⟨_, _, rfl, q⟩⟩
theorem wE_F {ci : Nat} {k : Int} {e : QE} {Q : Int → QV → Prop} : wE (eF ci k e) L S v Q ↔ wE e L S v (fun a w => S.1 a = ci + 1 ∧ Q (w a k) w) := by
  constructor
  · rintro ⟨z, w, h, q⟩
    obtain ⟨r, h1, h2⟩ := bs.mp h
    obtain ⟨h3, h4⟩ := ite_some.mp h2
    cases h4
    exact ⟨_, _, h1, h3, q⟩
  · rintro ⟨z, w, h, h3, q⟩
    exact ⟨_, _, bs.mpr ⟨_, h, if_pos h3⟩, q⟩
theorem wE_A {κ : Nat} {a i : QE} {Q : Int → QV → Prop} : wE (eA κ a i) L S v Q ↔ wE a L S v (fun x w => wE i L S w (fun y u => (S.1 x = κ ∧ 0 ≤ y ∧ y < S.2.1 x) ∧ Q (u x y) u)) := by
  constructor
  · rintro ⟨z, w, h, q⟩
    obtain ⟨r, h1, h2⟩ := bs.mp h
    obtain ⟨t, h3, h4⟩ := bs.mp h2
    obtain ⟨h5, h6⟩ := ite_some.mp h4
    cases h6
    exact ⟨_, _, h1, _, _, h3, h5, q⟩
  · rintro ⟨x, w, h, y, u, h3, h5, q⟩
    exact ⟨_, _, bs.mpr ⟨_, h, bs.mpr ⟨_, h3, if_pos h5⟩⟩, q⟩
theorem wE_N {a : QE} {Q : Int → QV → Prop} : wE (eN a) L S v Q ↔ wE a L S v (fun x w => 20 ≤ S.1 x ∧ Q (S.2.1 x) w) := by
  constructor
  · rintro ⟨z, w, h, q⟩
    obtain ⟨r, h1, h2⟩ := bs.mp h
    obtain ⟨h3, h4⟩ := ite_some.mp h2
    cases h4
    exact ⟨_, _, h1, h3, q⟩
  · rintro ⟨z, w, h, h3, q⟩
    exact ⟨_, _, bs.mpr ⟨_, h, if_pos h3⟩, q⟩
theorem wE_XN {a : QE} {Q : Int → QV → Prop} : wE (eXN a) L S v Q ↔ wE a L S v (fun x w => S.1 x = 14 ∧ Q (S.2.1 x) w) := by
  constructor
  · rintro ⟨z, w, h, q⟩
    obtain ⟨r, h1, h2⟩ := bs.mp h
    obtain ⟨h3, h4⟩ := ite_some.mp h2
    cases h4
    exact ⟨_, _, h1, h3, q⟩
  · rintro ⟨z, w, h, h3, q⟩
    exact ⟨_, _, bs.mpr ⟨_, h, if_pos h3⟩, q⟩
theorem wE_1 {o : Int → Int} {a : QE} {Q : Int → QV → Prop} : wE (e1 o a) L S v Q ↔ wE a L S v (fun x w => Q (o x) w) := by
  constructor
  · rintro ⟨z, w, h, q⟩
    obtain ⟨r, h1, h2⟩ := bs.mp h
    cases h2
    exact ⟨_, _, h1, q⟩
  · rintro ⟨z, w, h, q⟩
    exact ⟨_, _, bs.mpr ⟨_, h, rfl⟩, q⟩
theorem wE_2 {o : Int → Int → Int} {a b : QE} {Q : Int → QV → Prop} : wE (e2 o a b) L S v Q ↔ wE a L S v (fun x w => wE b L S w (fun y u => Q (o x y) u)) := by
  constructor
  · rintro ⟨z, w, h, q⟩
    obtain ⟨r, h1, h2⟩ := bs.mp h
    obtain ⟨t, h3, h4⟩ := bs.mp h2
    cases h4
    exact ⟨_, _, h1, _, _, h3, q⟩
  · rintro ⟨x, w, h, y, u, h3, q⟩
    exact ⟨_, _, bs.mpr ⟨_, h, bs.mpr ⟨_, h3, rfl⟩⟩, q⟩
theorem wE_D {o : Int → Int → Int} {a b : QE} {Q : Int → QV → Prop} : wE (eD o a b) L S v Q ↔ wE a L S v (fun x w => wE b L S w (fun y u => ¬ y = 0 ∧ Q (o x y) u)) := by
  constructor
  · rintro ⟨z, w, h, q⟩
    obtain ⟨r, h1, h2⟩ := bs.mp h
    obtain ⟨t, h3, h4⟩ := bs.mp h2
    by_cases h5 : t.1 = 0
    · rw [if_pos h5] at h4; cases h4
    · rw [if_neg h5] at h4
      cases h4
      exact ⟨_, _, h1, _, _, h3, h5, q⟩
  · rintro ⟨x, w, h, y, u, h3, h5, q⟩
    exact ⟨_, _, bs.mpr ⟨_, h, bs.mpr ⟨_, h3, if_neg h5⟩⟩, q⟩
theorem wE_B {c : QC} {Q : Int → QV → Prop} : wE (eB c) L S v Q ↔ wC c L S v (fun t w => Q (if t = true then 1 else 0) w) := by
  constructor
  · rintro ⟨z, w, h, q⟩
    obtain ⟨r, h1, h2⟩ := bs.mp h
    cases h2
    exact ⟨_, _, h1, q⟩
  · rintro ⟨z, w, h, q⟩
    exact ⟨_, _, bs.mpr ⟨_, h, rfl⟩, q⟩
theorem wE_If {c : QC} {a b : QE} {Q : Int → QV → Prop} : wE (eIf c a b) L S v Q ↔ wC c L S v (fun t w => if t = true then wE a L S w Q else wE b L S w Q) := by
  constructor
  · rintro ⟨z, w, h, q⟩
    obtain ⟨⟨t, u⟩, h1, h2⟩ := bs.mp h
    refine ⟨t, u, h1, ?_⟩
    cases t
    · exact ⟨_, _, h2, q⟩
    · exact ⟨_, _, h2, q⟩
  · rintro ⟨t, u, h, q⟩
    cases t
    · obtain ⟨z, w, h2, q⟩ := q
      exact ⟨_, _, bs.mpr ⟨_, h, h2⟩, q⟩
    · obtain ⟨z, w, h2, q⟩ := q
      exact ⟨_, _, bs.mpr ⟨_, h, h2⟩, q⟩
theorem wE_SL {Q : Int → QV → Prop} : wE eSL L S v Q ↔ Q 111 v := ⟨fun ⟨_, _, h, q⟩ => by cases h; exact q, fun q => ⟨_, _, rfl, q⟩⟩
theorem wE_SA {i : QE} {Q : Int → QV → Prop} : wE (eSA i) L S v Q ↔ wE i L S v (fun x w => (0 ≤ x ∧ x < 111) ∧ Q (wdL.getD x.toNat 0) w) := by
  constructor
  · rintro ⟨z, w, h, q⟩
    obtain ⟨r, h1, h2⟩ := bs.mp h
    obtain ⟨h3, h4⟩ := ite_some.mp h2
    cases h4
    exact ⟨_, _, h1, h3, q⟩
  · rintro ⟨z, w, h, h3, q⟩
    exact ⟨_, _, bs.mpr ⟨_, h, if_pos h3⟩, q⟩
theorem wE_C {g : QM} {as : List QE} {Q : Int → QV → Prop} : wE (eCall g as) L S v Q ↔ wA as L S v (fun zs w => wM g zs S w Q) := by
  constructor
  · rintro ⟨z, w, h, q⟩
    obtain ⟨r, h1, h2⟩ := bs.mp h
    exact ⟨_, _, h1, _, _, h2, q⟩
  · rintro ⟨z, w, h, y, u, h3, q⟩
    exact ⟨_, _, bs.mpr ⟨_, h, h3⟩, q⟩
theorem wE_CV {ci : Nat} {g : QM} {as : List QE} {Q : Int → QV → Prop} : wE (eCallV ci g as) L S v Q ↔ wA as L S v (fun zs w => S.1 (zs.headD (-1)) = ci + 1 ∧ wM g zs S w Q) := by
  constructor
  · rintro ⟨z, w, h, q⟩
    obtain ⟨r, h1, h2⟩ := bs.mp h
    by_cases h5 : S.1 (r.1.headD (-1)) = ci + 1
    · rw [if_pos h5] at h2
      exact ⟨_, _, h1, h5, _, _, h2, q⟩
    · rw [if_neg h5] at h2; cases h2
  · rintro ⟨z, w, h, h5, y, u, h3, q⟩
    exact ⟨_, _, bs.mpr ⟨_, h, (if_pos h5).trans h3⟩, q⟩
theorem wA_0 {Q : List Int → QV → Prop} : wA [] L S v Q ↔ Q [] v := ⟨fun ⟨_, _, h, q⟩ => by cases h; exact q, fun q => ⟨_, _, rfl, q⟩⟩
theorem wA_1 {e : QE} {es : List QE} {Q : List Int → QV → Prop} : wA (e :: es) L S v Q ↔ wE e L S v (fun z w => wA es L S w (fun zs u => Q (z :: zs) u)) := by
  constructor
  · rintro ⟨z, w, h, q⟩
    obtain ⟨r, h1, h2⟩ := bs.mp h
    obtain ⟨t, h3, h4⟩ := bs.mp h2
    cases h4
    exact ⟨_, _, h1, _, _, h3, q⟩
  · rintro ⟨x, w, h, y, u, h3, q⟩
    exact ⟨_, _, bs.mpr ⟨_, h, bs.mpr ⟨_, h3, rfl⟩⟩, q⟩
theorem wC_B {o : Int → Int → Bool} {a b : QE} {Q : Bool → QV → Prop} : wC (cB o a b) L S v Q ↔ wE a L S v (fun x w => wE b L S w (fun y u => Q (o x y) u)) := by
  constructor
  · rintro ⟨z, w, h, q⟩
    obtain ⟨r, h1, h2⟩ := bs.mp h
    obtain ⟨t, h3, h4⟩ := bs.mp h2
    cases h4
    exact ⟨_, _, h1, _, _, h3, q⟩
  · rintro ⟨x, w, h, y, u, h3, q⟩
    exact ⟨_, _, bs.mpr ⟨_, h, bs.mpr ⟨_, h3, rfl⟩⟩, q⟩
theorem wC_E {a : QE} {Q : Bool → QV → Prop} : wC (cE a) L S v Q ↔ wE a L S v (fun x w => Q (!decide (x = 0)) w) := by
  constructor
  · rintro ⟨z, w, h, q⟩
    obtain ⟨r, h1, h2⟩ := bs.mp h
    cases h2
    exact ⟨_, _, h1, q⟩
  · rintro ⟨z, w, h, q⟩
    exact ⟨_, _, bs.mpr ⟨_, h, rfl⟩, q⟩
theorem wC_And {a b : QC} {Q : Bool → QV → Prop} : wC (cAnd a b) L S v Q ↔ wC a L S v (fun t w => if t = true then wC b L S w Q else Q false w) := by
  constructor
  · rintro ⟨z, w, h, q⟩
    obtain ⟨⟨t, u⟩, h1, h2⟩ := bs.mp h
    refine ⟨t, u, h1, ?_⟩
    cases t
    · cases h2; exact q
    · exact ⟨_, _, h2, q⟩
  · rintro ⟨t, u, h, q⟩
    cases t
    · exact ⟨_, _, bs.mpr ⟨_, h, rfl⟩, q⟩
    · obtain ⟨z, w, h2, q⟩ := q
      exact ⟨_, _, bs.mpr ⟨_, h, h2⟩, q⟩
theorem wC_Or {a b : QC} {Q : Bool → QV → Prop} : wC (cOr a b) L S v Q ↔ wC a L S v (fun t w => if t = true then Q true w else wC b L S w Q) := by
  constructor
  · rintro ⟨z, w, h, q⟩
    obtain ⟨⟨t, u⟩, h1, h2⟩ := bs.mp h
    refine ⟨t, u, h1, ?_⟩
    cases t
    · exact ⟨_, _, h2, q⟩
    · cases h2; exact q
  · rintro ⟨t, u, h, q⟩
    cases t
    · obtain ⟨z, w, h2, q⟩ := q
      exact ⟨_, _, bs.mpr ⟨_, h, h2⟩, q⟩
    · exact ⟨_, _, bs.mpr ⟨_, h, rfl⟩, q⟩
theorem wC_Not {a : QC} {Q : Bool → QV → Prop} : wC (cNot a) L S v Q ↔ wC a L S v (fun t w => Q (!t) w) := by
  constructor
  · rintro ⟨z, w, h, q⟩
    obtain ⟨r, h1, h2⟩ := bs.mp h
    cases h2
    exact ⟨_, _, h1, q⟩
  · rintro ⟨z, w, h, q⟩
    exact ⟨_, _, bs.mpr ⟨_, h, rfl⟩, q⟩
variable {Q : Nat → Int → QL → QV → Prop}
theorem wS_Skip : wS sSkip L S v Q ↔ Q 0 0 L v := ⟨fun ⟨_, _, _, _, h, q⟩ => by cases h; exact q, fun q => ⟨_, _, _, _, rfl, q⟩⟩
theorem wS_Brk : wS sBrk L S v Q ↔ Q 1 0 L v := ⟨fun ⟨_, _, _, _, h, q⟩ => by cases h; exact q, fun q => ⟨_, _, _, _, rfl, q⟩⟩
theorem wS_Cnt : wS sCnt L S v Q ↔ Q 2 0 L v := ⟨fun ⟨_, _, _, _, h, q⟩ => by cases h; exact q, fun q => ⟨_, _, _, _, rfl, q⟩⟩
theorem wS_RetV : wS sRetV L S v Q ↔ Q 3 0 L v := ⟨fun ⟨_, _, _, _, h, q⟩ => by cases h; exact q, fun q => ⟨_, _, _, _, rfl, q⟩⟩
theorem wS_Ret {e : QE} : wS (sRet e) L S v Q ↔ wE e L S v (fun z w => Q 3 z L w) := by
  constructor
  · rintro ⟨k, z, M, w, h, q⟩
    obtain ⟨r, h1, h2⟩ := bs.mp h
    cases h2
    exact ⟨_, _, h1, q⟩
  · rintro ⟨z, w, h, q⟩
    exact ⟨_, _, _, _, bs.mpr ⟨_, h, rfl⟩, q⟩
theorem wS_Seq {a b : QT} : wS (sSeq a b) L S v Q ↔ wS a L S v (fun k z M w => if k = 0 then wS b M S w Q else Q k z M w) := by
  constructor
  · rintro ⟨k, z, M, w, h, q⟩
    obtain ⟨⟨⟨k1, z1⟩, M1, w1⟩, h1, h2⟩ := bs.mp h
    refine ⟨k1, z1, M1, w1, h1, ?_⟩
    dsimp only at h2
    by_cases h0 : k1 = 0
    · rw [if_pos h0] at h2 ⊢
      exact ⟨_, _, _, _, h2, q⟩
    · rw [if_neg h0] at h2 ⊢
      cases h2
      exact q
  · rintro ⟨k, z, M, w, h, q⟩
    by_cases h0 : k = 0
    · rw [if_pos h0] at q
      obtain ⟨k2, z2, M2, w2, h2, q⟩ := q
      exact ⟨_, _, _, _, bs.mpr ⟨_, h, (if_pos h0).trans h2⟩, q⟩
    · rw [if_neg h0] at q
      exact ⟨_, _, _, _, bs.mpr ⟨_, h, if_neg h0⟩, q⟩
theorem wS_Set {k : Nat} {e : QE} : wS (sSet k e) L S v Q ↔ wE e L S v (fun z w => Q 0 0 (lu L k z) w) := by
  constructor
  · rintro ⟨k, z, M, w, h, q⟩
    obtain ⟨r, h1, h2⟩ := bs.mp h
    cases h2
    exact ⟨_, _, h1, q⟩
  · rintro ⟨z, w, h, q⟩
    exact ⟨_, _, _, _, bs.mpr ⟨_, h, rfl⟩, q⟩
theorem wS_Inc {k : Nat} {n : Int} : wS (sInc k n) L S v Q ↔ Q 0 0 (lu L k (w32 (L k + n))) v := ⟨fun ⟨_, _, _, _, h, q⟩ => by cases h; exact q, fun q => ⟨_, _, _, _, rfl, q⟩⟩
theorem wS_Do {e : QE} : wS (sDo e) L S v Q ↔ wE e L S v (fun _ w => Q 0 0 L w) := by
  constructor
  · rintro ⟨k, z, M, w, h, q⟩
    obtain ⟨r, h1, h2⟩ := bs.mp h
    cases h2
    exact ⟨_, _, h1, q⟩
  · rintro ⟨z, w, h, q⟩
    exact ⟨_, _, _, _, bs.mpr ⟨_, h, rfl⟩, q⟩
theorem wS_Put {ci : Nat} {k : Int} {a e : QE} : wS (sPut ci k a e) L S v Q ↔ wE a L S v (fun x w => wE e L S w (fun y u => S.1 x = ci + 1 ∧ Q 0 0 L (vu u x k y))) := by
  constructor
  · rintro ⟨_, _, _, _, h, q⟩
    obtain ⟨r, h1, h2⟩ := bs.mp h
    obtain ⟨t, h3, h4⟩ := bs.mp h2
    obtain ⟨h5, h6⟩ := ite_some.mp h4
    cases h6
    exact ⟨_, _, h1, _, _, h3, h5, q⟩
  · rintro ⟨x, w, h, y, u, h3, h5, q⟩
    exact ⟨_, _, _, _, bs.mpr ⟨_, h, bs.mpr ⟨_, h3, if_pos h5⟩⟩, q⟩
theorem wS_PutC {ci : Nat} {k : Int} {o : Int → Int → Int} {a e : QE} : wS (sPutC ci k a o e) L S v Q ↔ wE a L S v (fun x w => S.1 x = ci + 1 ∧ wE e L S w (fun y u => Q 0 0 L (vu u x k (o (w x k) y)))) := by
  constructor
  · rintro ⟨_, _, _, _, h, q⟩
    obtain ⟨r, h1, h2⟩ := bs.mp h
    by_cases h5 : S.1 r.1 = ci + 1
    · rw [if_pos h5] at h2
      obtain ⟨t, h3, h4⟩ := bs.mp h2
      cases h4
      exact ⟨_, _, h1, h5, _, _, h3, q⟩
    · rw [if_neg h5] at h2; cases h2
  · rintro ⟨x, w, h, h5, y, u, h3, q⟩
    exact ⟨_, _, _, _, bs.mpr ⟨_, h, (if_pos h5).trans (bs.mpr ⟨_, h3, rfl⟩)⟩, q⟩
theorem wS_Arr {κ : Nat} {a i e : QE} : wS (sArr κ a i e) L S v Q ↔ wE a L S v (fun x w => wE i L S w (fun j u => wE e L S u (fun y t => (S.1 x = κ ∧ 0 ≤ j ∧ j < S.2.1 x) ∧ Q 0 0 L (vu t x j (nr κ y))))) := by
  constructor
  · rintro ⟨_, _, _, _, h, q⟩
    obtain ⟨r, h1, h2⟩ := bs.mp h
    obtain ⟨t, h3, h4⟩ := bs.mp h2
    obtain ⟨t2, h7, h8⟩ := bs.mp h4
    obtain ⟨h5, h6⟩ := ite_some.mp h8
    cases h6
    exact ⟨_, _, h1, _, _, h3, _, _, h7, h5, q⟩
  · rintro ⟨x, w, h, y, u, h3, y2, u2, h7, h5, q⟩
    exact ⟨_, _, _, _, bs.mpr ⟨_, h, bs.mpr ⟨_, h3, bs.mpr ⟨_, h7, if_pos h5⟩⟩⟩, q⟩
theorem wS_ArrC {κ : Nat} {o : Int → Int → Int} {a i e : QE} : wS (sArrC κ a i o e) L S v Q ↔ wE a L S v (fun x w => wE i L S w (fun j u => (S.1 x = κ ∧ 0 ≤ j ∧ j < S.2.1 x) ∧ wE e L S u (fun y t => Q 0 0 L (vu t x j (nr κ (o (u x j) y)))))) := by
  constructor
  · rintro ⟨_, _, _, _, h, q⟩
    obtain ⟨r, h1, h2⟩ := bs.mp h
    obtain ⟨t, h3, h4⟩ := bs.mp h2
    by_cases h5 : S.1 r.1 = κ ∧ 0 ≤ t.1 ∧ t.1 < S.2.1 r.1
    · rw [if_pos h5] at h4
      obtain ⟨t2, h7, h8⟩ := bs.mp h4
      cases h8
      exact ⟨_, _, h1, _, _, h3, h5, _, _, h7, q⟩
    · rw [if_neg h5] at h4; cases h4
  · rintro ⟨x, w, h, y, u, h3, h5, y2, u2, h7, q⟩
    exact ⟨_, _, _, _, bs.mpr ⟨_, h, bs.mpr ⟨_, h3, (if_pos h5).trans (bs.mpr ⟨_, h7, rfl⟩)⟩⟩, q⟩
theorem wS_If {c : QC} {a b : QT} : wS (sIf c a b) L S v Q ↔ wC c L S v (fun t w => if t = true then wS a L S w Q else wS b L S w Q) := by
  constructor
  · rintro ⟨k, z, M, w, h, q⟩
    obtain ⟨⟨t, u⟩, h1, h2⟩ := bs.mp h
    refine ⟨t, u, h1, ?_⟩
    cases t
    · exact ⟨_, _, _, _, h2, q⟩
    · exact ⟨_, _, _, _, h2, q⟩
  · rintro ⟨t, u, h, q⟩
    cases t
    · obtain ⟨k, z, M, w, h2, q⟩ := q
      exact ⟨_, _, _, _, bs.mpr ⟨_, h, h2⟩, q⟩
    · obtain ⟨k, z, M, w, h2, q⟩ := q
      exact ⟨_, _, _, _, bs.mpr ⟨_, h, h2⟩, q⟩
theorem wS_Sw {e : QE} {cs : List (List Int × QT)} {d : QT} : wS (sSw e cs d) L S v Q ↔ wE e L S v (fun z w => wS (sSwF cs d z) L S w (fun k z M u => if k = 1 then Q 0 0 M u else Q k z M u)) := by
  constructor
  · rintro ⟨k, z, M, w, h, q⟩
    obtain ⟨r, h1, h2⟩ := bs.mp h
    obtain ⟨⟨⟨k1, z1⟩, M1, w1⟩, h3, h4⟩ := bs.mp h2
    refine ⟨_, _, h1, k1, z1, M1, w1, h3, ?_⟩
    dsimp only at h4
    by_cases h0 : k1 = 1
    · rw [if_pos h0] at h4 ⊢
      cases h4
      exact q
    · rw [if_neg h0] at h4 ⊢
      cases h4
      exact q
  · rintro ⟨z, w, h, k, z1, M, u, h3, q⟩
    by_cases h0 : k = 1
    · rw [if_pos h0] at q
      exact ⟨_, _, _, _, bs.mpr ⟨_, h, bs.mpr ⟨_, h3, if_pos h0⟩⟩, q⟩
    · rw [if_neg h0] at q
      exact ⟨_, _, _, _, bs.mpr ⟨_, h, bs.mpr ⟨_, h3, if_neg h0⟩⟩, q⟩
theorem wS_F0 {d : QT} {z : Int} : wS (sSwF [] d z) L S v Q ↔ wS d L S v Q := Iff.rfl
theorem wS_F1 {ks : List Int} {s : QT} {cs : List (List Int × QT)} {d : QT} {z : Int} : wS (sSwF ((ks, s) :: cs) d z) L S v Q ↔ if z ∈ ks then wS s L S v Q else wS (sSwF cs d z) L S v Q := by
  show wS (if z ∈ ks then s else sSwF cs d z) L S v Q ↔ _
  by_cases h : z ∈ ks
  · rw [if_pos h, if_pos h]
  · rw [if_neg h, if_neg h]
theorem wS_Copy {κ : Nat} {a i b j n : QE} : wS (sCopy κ a i b j n) L S v Q ↔ wE a L S v (fun ra w1 => wE i L S w1 (fun ri w2 => wE b L S w2 (fun rb w3 => wE j L S w3 (fun rj w4 => wE n L S w4 (fun rn w5 => (S.1 ra = κ ∧ S.1 rb = κ ∧ 0 ≤ ri ∧ 0 ≤ rj ∧ 0 ≤ rn ∧ ri + rn ≤ S.2.1 ra ∧ rj + rn ≤ S.2.1 rb) ∧ Q 0 0 L (fun q k => if q = rb ∧ rj ≤ k ∧ k < rj + rn then w5 ra (ri + (k - rj)) else w5 q k)))))) := by
  constructor
  · rintro ⟨_, _, _, _, h, q⟩
    obtain ⟨r, h1, h2⟩ := bs.mp h
    obtain ⟨r2, h3, h4⟩ := bs.mp h2
    obtain ⟨r3, h5, h6⟩ := bs.mp h4
    obtain ⟨r4, h7, h8⟩ := bs.mp h6
    obtain ⟨r5, h9, h10⟩ := bs.mp h8
    obtain ⟨h11, h12⟩ := ite_some.mp h10
    cases h12
    exact ⟨_, _, h1, _, _, h3, _, _, h5, _, _, h7, _, _, h9, h11, q⟩
  · rintro ⟨_, _, h1, _, _, h3, _, _, h5, _, _, h7, _, _, h9, h11, q⟩
    exact ⟨_, _, _, _, bs.mpr ⟨_, h1, bs.mpr ⟨_, h3, bs.mpr ⟨_, h5, bs.mpr ⟨_, h7, bs.mpr ⟨_, h9, if_pos h11⟩⟩⟩⟩⟩, q⟩
end W
theorem wM_q {τs : List Nat} {s : QT} {zs : List Int} {S : QS} {v : QV} {Q : Int → QV → Prop} : wM (qM τs s) zs S v Q ↔ wS s (aL 0 τs zs) S v (fun k z _ w => k = 3 ∧ Q z w) := by
  constructor
  · rintro ⟨z, w, h, q⟩
    obtain ⟨⟨⟨k1, z1⟩, M1, w1⟩, h3, h4⟩ := bs.mp h
    obtain ⟨h5, h6⟩ := ite_some.mp h4
    cases h6
    exact ⟨_, _, _, _, h3, h5, q⟩
  · rintro ⟨k, z, M, w, h, h3, q⟩
    exact ⟨_, _, bs.mpr ⟨_, h, if_pos h3⟩, q⟩
theorem wM_of {g : QM} {zs : List Int} {S : QS} {v w : QV} {z : Int} (h : g zs S v = some (z, w)) {Q : Int → QV → Prop} : wM g zs S v Q ↔ Q z w := ⟨fun ⟨_, _, h1, q⟩ => by rw [h] at h1; cases h1; exact q, fun q => ⟨_, _, h, q⟩⟩
theorem wM_eq {g : QM} {zs : List Int} {S : QS} {v w : QV} {z : Int} (h : wM g zs S v (fun x u => x = z ∧ u = w)) : g zs S v = some (z, w) := by
  obtain ⟨x, u, h1, rfl, rfl⟩ := h
  exact h1
theorem wM_mono {g : QM} {zs : List Int} {S : QS} {v : QV} {Q Q' : Int → QV → Prop} (h : wM g zs S v Q') (hq : ∀ z w, g zs S v = some (z, w) → Q' z w → Q z w) : wM g zs S v Q := by
  obtain ⟨z, w, h1, h2⟩ := h
  exact ⟨z, w, h1, hq z w h1 h2⟩
theorem wS_mono {s : QT} {L : QL} {S : QS} {v : QV} {Q Q' : Nat → Int → QL → QV → Prop} (h : wS s L S v Q') (hq : ∀ k z M w, Q' k z M w → Q k z M w) : wS s L S v Q := by
  obtain ⟨k, z, M, w, h1, h2⟩ := h
  exact ⟨k, z, M, w, h1, hq k z M w h2⟩
theorem wE_mono {s : QE} {L : QL} {S : QS} {v : QV} {Q Q' : Int → QV → Prop} (h : wE s L S v Q') (hq : ∀ z w, Q' z w → Q z w) : wE s L S v Q := by
  obtain ⟨z, w, h1, h2⟩ := h
  exact ⟨z, w, h1, hq z w h2⟩
/-- a loop: a number falls with each turn -/
theorem wS_wh {c : QC} {b u : QT} {S : QS} {Q : Nat → Int → QL → QV → Prop} (I : Nat → QL → QV → Prop)
    (hs : ∀ n M w, I n M w → wC c M S w (fun t w1 => if t = true then wS b M S w1 (fun k z M1 w2 => if k = 0 ∨ k = 2 then wS u M1 S w2 (fun k' _ M2 w3 => k' = 0 ∧ ∃ n', n' < n ∧ I n' M2 w3) else if k = 1 then Q 0 0 M1 w2 else Q k z M1 w2) else Q 0 0 M w1)) :
    ∀ (f n : Nat) (L : QL) (v : QV), n < f → I n L v → wS (sWh c b u f) L S v Q := by
  intro f
  induction f with
  | zero => intro n L v hn; exact absurd hn (Nat.not_lt_zero _)
  | succ f ih =>
    intro n L v hn hI
    obtain ⟨t, w1, h1, h2⟩ := hs n L v hI
    cases t
    · exact ⟨0, 0, L, w1, bs.mpr ⟨_, h1, rfl⟩, h2⟩
    · obtain ⟨k, z, M1, w2, h3, h4⟩ := h2
      by_cases h02 : k = 0 ∨ k = 2
      · rw [if_pos h02] at h4
        obtain ⟨k', z', M2, w3, h5, h6, n', hn', hI'⟩ := h4
        obtain ⟨k3, z3, M3, w4, h7, h8⟩ := ih n' M2 w3 (by omega) hI'
        refine ⟨k3, z3, M3, w4, bs.mpr ⟨_, h1, ?_⟩, h8⟩
        refine (if_pos rfl).trans (bs.mpr ⟨_, h3, ?_⟩)
        refine (if_pos h02).trans (bs.mpr ⟨_, h5, ?_⟩)
        exact (if_pos h6).trans h7
      · rw [if_neg h02] at h4
        by_cases h01 : k = 1
        · rw [if_pos h01] at h4
          refine ⟨0, 0, M1, w2, bs.mpr ⟨_, h1, ?_⟩, h4⟩
          refine (if_pos rfl).trans (bs.mpr ⟨_, h3, ?_⟩)
          exact (if_neg h02).trans (if_pos h01)
        · rw [if_neg h01] at h4
          refine ⟨k, z, M1, w2, bs.mpr ⟨_, h1, ?_⟩, h4⟩
          refine (if_pos rfl).trans (bs.mpr ⟨_, h3, ?_⟩)
          exact (if_neg h02).trans (if_neg h01)
theorem wS_While {c : QC} {b u : QT} {S : QS} {L : QL} {v : QV} {Q : Nat → Int → QL → QV → Prop} (I : Nat → QL → QV → Prop) (n : Nat) (hn : n < 4294967296) (h0 : I n L v)
    (hs : ∀ n M w, I n M w → wC c M S w (fun t w1 => if t = true then wS b M S w1 (fun k z M1 w2 => if k = 0 ∨ k = 2 then wS u M1 S w2 (fun k' _ M2 w3 => k' = 0 ∧ ∃ n', n' < n ∧ I n' M2 w3) else if k = 1 then Q 0 0 M1 w2 else Q k z M1 w2) else Q 0 0 M w1)) : wS (sWhile c b u) L S v Q :=
  wS_wh I hs 4294967296 n L v hn h0
/-- a loop of N turns: I j after j of them -/
theorem wS_For {c : QC} {b u : QT} {S : QS} {L : QL} {v : QV} {Q : Nat → Int → QL → QV → Prop} (N : Nat) (I : Nat → QL → QV → Prop) (hN : N < 4294967296) (h0 : I 0 L v)
    (hs : ∀ j M w, j < N → I j M w → wC c M S w (fun t w1 => t = true ∧ wS b M S w1 (fun k z M1 w2 => if k = 0 ∨ k = 2 then wS u M1 S w2 (fun k' _ M2 w3 => k' = 0 ∧ I (j + 1) M2 w3) else if k = 1 then Q 0 0 M1 w2 else Q k z M1 w2)))
    (he : ∀ M w, I N M w → wC c M S w (fun t w1 => t = false ∧ Q 0 0 M w1)) : wS (sWhile c b u) L S v Q := by
  refine wS_While (fun n M w => ∃ j, j + n = N ∧ I j M w) N hN ⟨0, Nat.zero_add _, h0⟩ ?_
  rintro n M w ⟨j, hj, hI⟩
  by_cases hn : n = 0
  · have e : j = N := by omega
    rw [e] at hI
    obtain ⟨t, w1, h1, h2, h3⟩ := he M w hI
    subst h2
    exact ⟨false, w1, h1, h3⟩
  · obtain ⟨t, w1, h1, h2, k, z, M1, w2, h3, h4⟩ := hs j M w (by omega) hI
    subst h2
    refine ⟨true, w1, h1, ?_⟩
    show wS b M S w1 _
    refine ⟨k, z, M1, w2, h3, ?_⟩
    by_cases h02 : k = 0 ∨ k = 2
    · rw [if_pos h02] at h4 ⊢
      obtain ⟨k', z', M2, w3, h5, h6, h7⟩ := h4
      exact ⟨k', z', M2, w3, h5, h6, n - 1, by omega, j + 1, by omega, h7⟩
    · rw [if_neg h02] at h4 ⊢
      exact h4
theorem lu_ap {L : QL} {k j : Nat} {z : Int} : lu L k z j = if j = k then z else L j := rfl
theorem aL_ap {i τ j : Nat} {τs : List Nat} {z : Int} {zs : List Int} : aL i (τ :: τs) (z :: zs) j = if j = i then z else aL (i + ct τ) τs zs j := rfl
theorem ct_0 : ct 0 = 1 := rfl
theorem ct_1 : ct 1 = 2 := rfl
theorem ct_2 : ct 2 = 1 := rfl
theorem ct_3 : ct 3 = 1 := rfl
theorem ct_4 : ct 4 = 1 := rfl
theorem ct_5 : ct 5 = 1 := rfl
theorem vu_is {v : QV} {a i z : Int} : vu v a i z a i = z := if_pos ⟨rfl, rfl⟩
theorem vu_ap {v : QV} {a i z b j : Int} : vu v a i z b j = if b = a ∧ j = i then z else v b j := rfl
theorem vu_eq {v : QV} {a i z b j : Int} (h : b = a ∧ j = i) : vu v a i z b j = z := if_pos h
theorem vu_ne {v : QV} {a i z b j : Int} (h : ¬ (b = a ∧ j = i)) : vu v a i z b j = v b j := if_neg h
theorem nr_20 {z : Int} : nr 20 z = z := rfl
theorem nr_23 {z : Int} : nr 23 z = z % 65536 := rfl
theorem nr_24 {z : Int} : nr 24 z = z % 2 := rfl
theorem nr_40 {z : Int} : nr 40 z = z := rfl
theorem nr_41 {z : Int} : nr 41 z = z := rfl
theorem nr_42 {z : Int} : nr 42 z = w8 z := rfl
theorem nr_44 {z : Int} : nr 44 z = z % 2 := rfl
theorem w32_e {z : Int} (h : -2147483648 ≤ z ∧ z ≤ 2147483647) : w32 z = z := by unfold w32; omega
theorem w64_e {z : Int} (h : -9223372036854775808 ≤ z ∧ z ≤ 9223372036854775807) : w64 z = z := by unfold w64; omega
theorem w8_e {z : Int} (h : -128 ≤ z ∧ z ≤ 127) : w8 z = z := by unfold w8; omega
theorem tdiv_n {a b : Int} (h : 0 ≤ a) : a.tdiv b = a / b := Int.tdiv_eq_ediv_of_nonneg h
theorem tmod_n {a b : Int} (h : 0 ≤ a) : a.tmod b = a % b := Int.tmod_eq_emod_of_nonneg h
theorem headD_1 {x y : Int} {xs : List Int} : (x :: xs).headD y = x := rfl
theorem pt_lt {x y : Int} : (qlt x y = true) = (x < y) := by simp [qlt]
theorem pt_ge {x y : Int} : (qge x y = true) = (y ≤ x) := by simp [qge]
theorem pt_eq {x y : Int} : (qeq x y = true) = (x = y) := by simp [qeq]
theorem pt_ne {x y : Int} : (qne x y = true) = ¬ (x = y) := by simp [qne]
theorem pt_gt {x y : Int} : (qgt x y = true) = (y < x) := by simp [qgt]
theorem pt_le {x y : Int} : (qle x y = true) = (x ≤ y) := by simp [qle]
theorem pt_E {x : Int} : ((!decide (x = 0)) = true) = ¬ (x = 0) := by simp
theorem pt_N {t : Bool} : ((!t) = true) = ¬ (t = true) := by simp
theorem pt_F {t : Bool} : (t = false) = ¬ (t = true) := by simp
theorem ite_10 {p : Prop} [Decidable p] : ((if p then (1 : Int) else 0) = 0) = ¬ p := by by_cases h : p <;> simp [h]
theorem ite_11 {p : Prop} [Decidable p] : ((if p then (1 : Int) else 0) = 1) = p := by by_cases h : p <;> simp [h]
