/-! THE REFERENCE LOOKS AT ITS OWN CELLS ALONE (rows behind the rules laid by wip/whole/gen/gen8.py): so it may be run beside the class, from the same memory -/
def isM (κ : Nat) : Bool := [13, 40, 41, 42, 44].contains κ
def Ag (S : QS) (v w : QV) : Prop := ∀ a k, isM (S.1 a) = true → w a k = v a k
def LkE (e : QE) : Prop := ∀ L S v w r, Ag S v w → e L S v = some r → ∃ w', e L S w = some (r.1, w') ∧ Ag S r.2 w'
def LkC (e : QC) : Prop := ∀ L S v w r, Ag S v w → e L S v = some r → ∃ w', e L S w = some (r.1, w') ∧ Ag S r.2 w'
def LkA (e : List QE) : Prop := ∀ L S v w r, Ag S v w → eAs e L S v = some r → ∃ w', eAs e L S w = some (r.1, w') ∧ Ag S r.2 w'
def LkS (e : QT) : Prop := ∀ L S v w r, Ag S v w → e L S v = some r → ∃ w', e L S w = some (r.1, r.2.1, w') ∧ Ag S r.2.2 w'
def LkF (cs : List (List Int × QT)) (d : QT) : Prop := ∀ z, LkS (sSwF cs d z)
def LkM (g : QM) : Prop := ∀ zs S v w r, Ag S v w → g zs S v = some r → ∃ w', g zs S w = some (r.1, w') ∧ Ag S r.2 w'
theorem Ag.vu {S : QS} {v w : QV} (h : Ag S v w) {a i z : Int} : Ag S (vu v a i z) (vu w a i z) := by
  intro q k hq
  rw [vu_ap, vu_ap]
  by_cases e : q = a ∧ k = i
  · rw [if_pos e, if_pos e]
  · rw [if_neg e, if_neg e]; exact h q k hq
theorem LkE_I {n : Int} : LkE (eI n) := fun L S v w r hA h => by cases h; exact ⟨w, rfl, hA⟩
theorem LkE_V {n : Nat} : LkE (eV n) := fun L S v w r hA h => by cases h; exact ⟨w, rfl, hA⟩
theorem LkE_SL : LkE eSL := fun L S v w r hA h => by cases h; exact ⟨w, rfl, hA⟩
theorem LkE_F {ci : Nat} {k : Int} {e : QE} (hκ : isM (ci + 1) = true) (he : LkE e) : LkE (eF ci k e) := by
  intro L S v w r hA h
  obtain ⟨x, h1, h2⟩ := bs.mp h
  obtain ⟨h3, h4⟩ := ite_some.mp h2
  cases h4
  obtain ⟨w', g1, g2⟩ := he L S v w x hA h1
  refine ⟨w', bs.mpr ⟨_, g1, (if_pos h3).trans ?_⟩, g2⟩
  show some (w' x.1 k, w') = some (x.2 x.1 k, w')
  rw [g2 _ _ (by rw [h3]; exact hκ)]
theorem LkE_A {κ : Nat} {e i : QE} (hκ : isM κ = true) (he : LkE e) (hi : LkE i) : LkE (eA κ e i) := by
  intro L S v w r hA h
  obtain ⟨x, h1, h2⟩ := bs.mp h
  obtain ⟨y, h3, h4⟩ := bs.mp h2
  obtain ⟨h5, h6⟩ := ite_some.mp h4
  cases h6
  obtain ⟨w1, g1, g2⟩ := he L S v w x hA h1
  obtain ⟨w2, g3, g4⟩ := hi L S x.2 w1 y g2 h3
  refine ⟨w2, bs.mpr ⟨_, g1, bs.mpr ⟨_, g3, (if_pos h5).trans ?_⟩⟩, g4⟩
  show some (w2 x.1 y.1, w2) = some (y.2 x.1 y.1, w2)
  rw [g4 _ _ (by rw [h5.1]; exact hκ)]
theorem LkE_N {e : QE} (he : LkE e) : LkE (eN e) := by
  intro L S v w r hA h
  obtain ⟨x, h1, h2⟩ := bs.mp h
  obtain ⟨h3, h4⟩ := ite_some.mp h2
  cases h4
  obtain ⟨w', g1, g2⟩ := he L S v w x hA h1
  exact ⟨w', bs.mpr ⟨_, g1, if_pos h3⟩, g2⟩
theorem LkE_1 {o : Int → Int} {e : QE} (he : LkE e) : LkE (e1 o e) := by
  intro L S v w r hA h
  obtain ⟨x, h1, h2⟩ := bs.mp h
  cases h2
  obtain ⟨w', g1, g2⟩ := he L S v w x hA h1
  exact ⟨w', bs.mpr ⟨_, g1, rfl⟩, g2⟩
theorem LkE_2 {o : Int → Int → Int} {e i : QE} (he : LkE e) (hi : LkE i) : LkE (e2 o e i) := by
  intro L S v w r hA h
  obtain ⟨x, h1, h2⟩ := bs.mp h
  obtain ⟨y, h3, h4⟩ := bs.mp h2
  cases h4
  obtain ⟨w1, g1, g2⟩ := he L S v w x hA h1
  obtain ⟨w2, g3, g4⟩ := hi L S x.2 w1 y g2 h3
  exact ⟨w2, bs.mpr ⟨_, g1, bs.mpr ⟨_, g3, rfl⟩⟩, g4⟩
theorem LkE_D {o : Int → Int → Int} {e i : QE} (he : LkE e) (hi : LkE i) : LkE (eD o e i) := by
  intro L S v w r hA h
  obtain ⟨x, h1, h2⟩ := bs.mp h
  obtain ⟨y, h3, h4⟩ := bs.mp h2
  by_cases h0 : y.1 = 0
  · rw [if_pos h0] at h4; cases h4
  · rw [if_neg h0] at h4
    cases h4
    obtain ⟨w1, g1, g2⟩ := he L S v w x hA h1
    obtain ⟨w2, g3, g4⟩ := hi L S x.2 w1 y g2 h3
    exact ⟨w2, bs.mpr ⟨_, g1, bs.mpr ⟨_, g3, if_neg h0⟩⟩, g4⟩
theorem LkE_B {c : QC} (hc : LkC c) : LkE (eB c) := by
  intro L S v w r hA h
  obtain ⟨x, h1, h2⟩ := bs.mp h
  cases h2
  obtain ⟨w', g1, g2⟩ := hc L S v w x hA h1
  exact ⟨w', bs.mpr ⟨_, g1, rfl⟩, g2⟩
theorem LkE_If {c : QC} {e i : QE} (hc : LkC c) (he : LkE e) (hi : LkE i) : LkE (eIf c e i) := by
  intro L S v w r hA h
  obtain ⟨⟨t, u⟩, h1, h2⟩ := bs.mp h
  obtain ⟨w1, g1, g2⟩ := hc L S v w _ hA h1
  cases t
  · obtain ⟨w2, g3, g4⟩ := hi L S u w1 r g2 h2
    exact ⟨w2, bs.mpr ⟨_, g1, g3⟩, g4⟩
  · obtain ⟨w2, g3, g4⟩ := he L S u w1 r g2 h2
    exact ⟨w2, bs.mpr ⟨_, g1, g3⟩, g4⟩
theorem LkA_0 : LkA [] := fun L S v w r hA h => by cases h; exact ⟨w, rfl, hA⟩
theorem LkA_1 {e : QE} {es : List QE} (he : LkE e) (hi : LkA es) : LkA (e :: es) := by
  intro L S v w r hA h
  obtain ⟨x, h1, h2⟩ := bs.mp h
  obtain ⟨y, h3, h4⟩ := bs.mp h2
  cases h4
  obtain ⟨w1, g1, g2⟩ := he L S v w x hA h1
  obtain ⟨w2, g3, g4⟩ := hi L S x.2 w1 y g2 h3
  exact ⟨w2, bs.mpr ⟨_, g1, bs.mpr ⟨_, g3, rfl⟩⟩, g4⟩
theorem LkE_C {g : QM} {as : List QE} (hg : LkM g) (ha : LkA as) : LkE (eCall g as) := by
  intro L S v w r hA h
  obtain ⟨x, h1, h2⟩ := bs.mp h
  obtain ⟨w1, g1, g2⟩ := ha L S v w x hA h1
  obtain ⟨w2, g3, g4⟩ := hg _ S x.2 w1 r g2 h2
  exact ⟨w2, bs.mpr ⟨_, g1, g3⟩, g4⟩
theorem LkE_CV {ci : Nat} {g : QM} {as : List QE} (hg : LkM g) (ha : LkA as) : LkE (eCallV ci g as) := by
  intro L S v w r hA h
  obtain ⟨x, h1, h2⟩ := bs.mp h
  by_cases h0 : S.1 (x.1.headD (-1)) = ci + 1
  · rw [if_pos h0] at h2
    obtain ⟨w1, g1, g2⟩ := ha L S v w x hA h1
    obtain ⟨w2, g3, g4⟩ := hg _ S x.2 w1 r g2 h2
    exact ⟨w2, bs.mpr ⟨_, g1, (if_pos h0).trans g3⟩, g4⟩
  · rw [if_neg h0] at h2; cases h2
theorem LkC_B {o : Int → Int → Bool} {e i : QE} (he : LkE e) (hi : LkE i) : LkC (cB o e i) := by
  intro L S v w r hA h
  obtain ⟨x, h1, h2⟩ := bs.mp h
  obtain ⟨y, h3, h4⟩ := bs.mp h2
  cases h4
  obtain ⟨w1, g1, g2⟩ := he L S v w x hA h1
  obtain ⟨w2, g3, g4⟩ := hi L S x.2 w1 y g2 h3
  exact ⟨w2, bs.mpr ⟨_, g1, bs.mpr ⟨_, g3, rfl⟩⟩, g4⟩
theorem LkC_E {e : QE} (he : LkE e) : LkC (cE e) := by
  intro L S v w r hA h
  obtain ⟨x, h1, h2⟩ := bs.mp h
  cases h2
  obtain ⟨w', g1, g2⟩ := he L S v w x hA h1
  exact ⟨w', bs.mpr ⟨_, g1, rfl⟩, g2⟩
theorem LkC_And {e i : QC} (he : LkC e) (hi : LkC i) : LkC (cAnd e i) := by
  intro L S v w r hA h
  obtain ⟨⟨t, u⟩, h1, h2⟩ := bs.mp h
  obtain ⟨w1, g1, g2⟩ := he L S v w _ hA h1
  cases t
  · cases h2; exact ⟨w1, bs.mpr ⟨_, g1, rfl⟩, g2⟩
  · obtain ⟨w2, g3, g4⟩ := hi L S u w1 r g2 h2
    exact ⟨w2, bs.mpr ⟨_, g1, g3⟩, g4⟩
theorem LkC_Or {e i : QC} (he : LkC e) (hi : LkC i) : LkC (cOr e i) := by
  intro L S v w r hA h
  obtain ⟨⟨t, u⟩, h1, h2⟩ := bs.mp h
  obtain ⟨w1, g1, g2⟩ := he L S v w _ hA h1
  cases t
  · obtain ⟨w2, g3, g4⟩ := hi L S u w1 r g2 h2
    exact ⟨w2, bs.mpr ⟨_, g1, g3⟩, g4⟩
  · cases h2; exact ⟨w1, bs.mpr ⟨_, g1, rfl⟩, g2⟩
theorem LkC_Not {e : QC} (he : LkC e) : LkC (cNot e) := by
  intro L S v w r hA h
  obtain ⟨x, h1, h2⟩ := bs.mp h
  cases h2
  obtain ⟨w', g1, g2⟩ := he L S v w x hA h1
  exact ⟨w', bs.mpr ⟨_, g1, rfl⟩, g2⟩
theorem LkS_Skip : LkS sSkip := fun L S v w r hA h => by cases h; exact ⟨w, rfl, hA⟩
theorem LkS_Brk : LkS sBrk := fun L S v w r hA h => by cases h; exact ⟨w, rfl, hA⟩
theorem LkS_Cnt : LkS sCnt := fun L S v w r hA h => by cases h; exact ⟨w, rfl, hA⟩
theorem LkS_RetV : LkS sRetV := fun L S v w r hA h => by cases h; exact ⟨w, rfl, hA⟩
theorem LkS_Inc {k : Nat} {n : Int} : LkS (sInc k n) := fun L S v w r hA h => by cases h; exact ⟨w, rfl, hA⟩
theorem LkS_Ret {e : QE} (he : LkE e) : LkS (sRet e) := by
  intro L S v w r hA h
  obtain ⟨x, h1, h2⟩ := bs.mp h
  cases h2
  obtain ⟨w', g1, g2⟩ := he L S v w x hA h1
  exact ⟨w', bs.mpr ⟨_, g1, rfl⟩, g2⟩
theorem LkS_Set {k : Nat} {e : QE} (he : LkE e) : LkS (sSet k e) := by
  intro L S v w r hA h
  obtain ⟨x, h1, h2⟩ := bs.mp h
  cases h2
  obtain ⟨w', g1, g2⟩ := he L S v w x hA h1
  exact ⟨w', bs.mpr ⟨_, g1, rfl⟩, g2⟩
theorem LkS_Do {e : QE} (he : LkE e) : LkS (sDo e) := by
  intro L S v w r hA h
  obtain ⟨x, h1, h2⟩ := bs.mp h
  cases h2
  obtain ⟨w', g1, g2⟩ := he L S v w x hA h1
  exact ⟨w', bs.mpr ⟨_, g1, rfl⟩, g2⟩
theorem LkS_Seq {s t : QT} (hs : LkS s) (ht : LkS t) : LkS (sSeq s t) := by
  intro L S v w r hA h
  obtain ⟨x, h1, h2⟩ := bs.mp h
  obtain ⟨w1, g1, g2⟩ := hs L S v w x hA h1
  by_cases h0 : x.1.1 = 0
  · rw [if_pos h0] at h2
    obtain ⟨w2, g3, g4⟩ := ht _ S _ w1 r g2 h2
    exact ⟨w2, bs.mpr ⟨_, g1, (if_pos h0).trans g3⟩, g4⟩
  · rw [if_neg h0] at h2
    cases h2
    exact ⟨w1, bs.mpr ⟨_, g1, if_neg h0⟩, g2⟩
theorem LkS_Put {ci : Nat} {n : Int} {x e : QE} (hW : isM (ci + 1) = true) (hx : LkE x) (he : LkE e) : LkS (sPut ci n x e) := by
  intro L S v w r hA h
  obtain ⟨p, h1, h2⟩ := bs.mp h
  obtain ⟨q, h3, h4⟩ := bs.mp h2
  obtain ⟨h5, h6⟩ := ite_some.mp h4
  cases h6
  obtain ⟨w1, g1, g2⟩ := hx L S v w p hA h1
  obtain ⟨w2, g3, g4⟩ := he L S p.2 w1 q g2 h3
  exact ⟨_, bs.mpr ⟨_, g1, bs.mpr ⟨_, g3, if_pos h5⟩⟩, g4.vu⟩
theorem LkS_PutC {ci : Nat} {n : Int} {x e : QE} {o : Int → Int → Int} (hW : isM (ci + 1) = true) (hx : LkE x) (he : LkE e) : LkS (sPutC ci n x o e) := by
  intro L S v w r hA h
  obtain ⟨p, h1, h2⟩ := bs.mp h
  by_cases h5 : S.1 p.1 = ci + 1
  · rw [if_pos h5] at h2
    obtain ⟨q, h3, h4⟩ := bs.mp h2
    cases h4
    obtain ⟨w1, g1, g2⟩ := hx L S v w p hA h1
    obtain ⟨w2, g3, g4⟩ := he L S p.2 w1 q g2 h3
    refine ⟨_, bs.mpr ⟨_, g1, (if_pos h5).trans (bs.mpr ⟨_, g3, rfl⟩)⟩, ?_⟩
    show Ag S (vu q.2 p.1 n (o (p.2 p.1 n) q.1)) (vu w2 p.1 n (o (w1 p.1 n) q.1))
    rw [g2 _ _ (by rw [h5]; exact hW)]
    exact g4.vu
  · rw [if_neg h5] at h2; cases h2
theorem LkS_Arr {κ : Nat} {x i e : QE} (hW : isM κ = true) (hx : LkE x) (hi : LkE i) (he : LkE e) : LkS (sArr κ x i e) := by
  intro L S v w r hA h
  obtain ⟨p, h1, h2⟩ := bs.mp h
  obtain ⟨j, h7, h8⟩ := bs.mp h2
  obtain ⟨q, h3, h4⟩ := bs.mp h8
  obtain ⟨h5, h6⟩ := ite_some.mp h4
  cases h6
  obtain ⟨w1, g1, g2⟩ := hx L S v w p hA h1
  obtain ⟨w2, g3, g4⟩ := hi L S p.2 w1 j g2 h7
  obtain ⟨w3, g5, g6⟩ := he L S j.2 w2 q g4 h3
  exact ⟨_, bs.mpr ⟨_, g1, bs.mpr ⟨_, g3, bs.mpr ⟨_, g5, if_pos h5⟩⟩⟩, g6.vu⟩
theorem LkS_ArrC {κ : Nat} {x i e : QE} {o : Int → Int → Int} (hW : isM κ = true) (hx : LkE x) (hi : LkE i) (he : LkE e) : LkS (sArrC κ x i o e) := by
  intro L S v w r hA h
  obtain ⟨p, h1, h2⟩ := bs.mp h
  obtain ⟨j, h7, h8⟩ := bs.mp h2
  by_cases h5 : S.1 p.1 = κ ∧ 0 ≤ j.1 ∧ j.1 < S.2.1 p.1
  · rw [if_pos h5] at h8
    obtain ⟨q, h3, h4⟩ := bs.mp h8
    cases h4
    obtain ⟨w1, g1, g2⟩ := hx L S v w p hA h1
    obtain ⟨w2, g3, g4⟩ := hi L S p.2 w1 j g2 h7
    obtain ⟨w3, g5, g6⟩ := he L S j.2 w2 q g4 h3
    refine ⟨_, bs.mpr ⟨_, g1, bs.mpr ⟨_, g3, (if_pos h5).trans (bs.mpr ⟨_, g5, rfl⟩)⟩⟩, ?_⟩
    show Ag S (vu q.2 p.1 j.1 (nr κ (o (j.2 p.1 j.1) q.1))) (vu w3 p.1 j.1 (nr κ (o (w2 p.1 j.1) q.1)))
    rw [g4 _ _ (by rw [h5.1]; exact hW)]
    exact g6.vu
  · rw [if_neg h5] at h8; cases h8
theorem LkS_If {c : QC} {s t : QT} (hc : LkC c) (hs : LkS s) (ht : LkS t) : LkS (sIf c s t) := by
  intro L S v w r hA h
  obtain ⟨⟨b, u⟩, h1, h2⟩ := bs.mp h
  obtain ⟨w1, g1, g2⟩ := hc L S v w _ hA h1
  cases b
  · obtain ⟨w2, g3, g4⟩ := ht L S u w1 r g2 h2
    exact ⟨w2, bs.mpr ⟨_, g1, g3⟩, g4⟩
  · obtain ⟨w2, g3, g4⟩ := hs L S u w1 r g2 h2
    exact ⟨w2, bs.mpr ⟨_, g1, g3⟩, g4⟩
theorem LkF_0 {d : QT} (hd : LkS d) : LkF [] d := fun _ => hd
theorem LkF_1 {ks : List Int} {s d : QT} {cs : List (List Int × QT)} (hs : LkS s) (hc : LkF cs d) : LkF ((ks, s) :: cs) d := by
  intro z
  show LkS (if z ∈ ks then s else sSwF cs d z)
  by_cases h : z ∈ ks
  · rw [if_pos h]; exact hs
  · rw [if_neg h]; exact hc z
theorem LkS_Sw {e : QE} {cs : List (List Int × QT)} {d : QT} (he : LkE e) (hc : LkF cs d) : LkS (sSw e cs d) := by
  intro L S v w r hA h
  obtain ⟨p, h1, h2⟩ := bs.mp h
  obtain ⟨q, h3, h4⟩ := bs.mp h2
  obtain ⟨w1, g1, g2⟩ := he L S v w p hA h1
  obtain ⟨w2, g3, g4⟩ := hc _ L S p.2 w1 q g2 h3
  by_cases h0 : q.1.1 = 1
  · rw [if_pos h0] at h4; cases h4
    exact ⟨w2, bs.mpr ⟨_, g1, bs.mpr ⟨_, g3, if_pos h0⟩⟩, g4⟩
  · rw [if_neg h0] at h4; cases h4
    exact ⟨w2, bs.mpr ⟨_, g1, bs.mpr ⟨_, g3, if_neg h0⟩⟩, g4⟩
theorem LkS_wh {c : QC} {b u : QT} (hc : LkC c) (hb : LkS b) (hu : LkS u) : ∀ n, LkS (sWh c b u n) := by
  intro n
  induction n with
  | zero => intro L S v w r _ h; cases h
  | succ n ih =>
    intro L S v w r hA h
    obtain ⟨⟨t, z⟩, h1, h2⟩ := bs.mp h
    obtain ⟨w1, g1, g2⟩ := hc L S v w _ hA h1
    cases t
    · cases h2; exact ⟨w1, bs.mpr ⟨_, g1, rfl⟩, g2⟩
    · obtain ⟨x, h3, h4⟩ := bs.mp h2
      obtain ⟨w2, g3, g4⟩ := hb L S z w1 x g2 h3
      by_cases h02 : x.1.1 = 0 ∨ x.1.1 = 2
      · rw [if_pos h02] at h4
        obtain ⟨y, h5, h6⟩ := bs.mp h4
        obtain ⟨w3, g5, g6⟩ := hu _ S _ w2 y g4 h5
        by_cases h0 : y.1.1 = 0
        · rw [if_pos h0] at h6
          obtain ⟨w4, g7, g8⟩ := ih _ S _ w3 r g6 h6
          exact ⟨w4, bs.mpr ⟨_, g1, (if_pos rfl).trans (bs.mpr ⟨_, g3, (if_pos h02).trans (bs.mpr ⟨_, g5, (if_pos h0).trans g7⟩)⟩)⟩, g8⟩
        · rw [if_neg h0] at h6; cases h6
      · rw [if_neg h02] at h4
        by_cases h0 : x.1.1 = 1
        · rw [if_pos h0] at h4; cases h4
          exact ⟨w2, bs.mpr ⟨_, g1, (if_pos rfl).trans (bs.mpr ⟨_, g3, (if_neg h02).trans (if_pos h0)⟩)⟩, g4⟩
        · rw [if_neg h0] at h4; cases h4
          exact ⟨w2, bs.mpr ⟨_, g1, (if_pos rfl).trans (bs.mpr ⟨_, g3, (if_neg h02).trans (if_neg h0)⟩)⟩, g4⟩
theorem LkS_While {c : QC} {b u : QT} (hc : LkC c) (hb : LkS b) (hu : LkS u) : LkS (sWhile c b u) := LkS_wh hc hb hu _
theorem LkM_q {τs : List Nat} {s : QT} (hs : LkS s) : LkM (qM τs s) := by
  intro zs S v w r hA h
  obtain ⟨x, h1, h2⟩ := bs.mp h
  obtain ⟨h3, h4⟩ := ite_some.mp h2
  cases h4
  obtain ⟨w1, g1, g2⟩ := hs _ S v w x hA h1
  exact ⟨w1, bs.mpr ⟨_, g1, if_pos h3⟩, g2⟩
theorem l_sX12_isIn : LkS sX12_isIn := (LkS_Ret (LkE_B (LkC_And (LkC_B LkE_V LkE_V) (LkC_B LkE_V LkE_V))))
theorem lX12_isIn : LkM mX12_isIn := LkM_q l_sX12_isIn
theorem l_sX12_held : LkS sX12_held := (LkS_Ret (LkE_If (LkC_B LkE_V LkE_I) LkE_I (LkE_If (LkC_B LkE_V LkE_I) LkE_I LkE_V)))
theorem lX12_held : LkM mX12_held := LkM_q l_sX12_held
theorem l_sX12_own : LkS sX12_own := (LkS_Ret (LkE_2 (LkE_2 LkE_I LkE_V) LkE_V))
theorem lX12_own : LkM mX12_own := LkM_q l_sX12_own
theorem l_cX12_clearBank_1 : LkC cX12_clearBank_1 := (LkC_B LkE_V LkE_I)
theorem l_bX12_clearBank_1 : LkS bX12_clearBank_1 := (LkS_Arr rfl (LkE_F rfl LkE_V) (LkE_C lX12_own (LkA_1 LkE_V (LkA_1 LkE_V LkA_0))) LkE_I)
theorem l_uX12_clearBank_1 : LkS uX12_clearBank_1 := LkS_Inc
theorem l_sX12_clearBank : LkS sX12_clearBank := (LkS_Seq (LkS_Arr rfl (LkE_F rfl LkE_V) LkE_V LkE_I) (LkS_Seq (LkS_Arr rfl (LkE_F rfl LkE_V) LkE_V LkE_I) (LkS_Seq (LkS_Arr rfl (LkE_F rfl LkE_V) LkE_V LkE_I) (LkS_Seq (LkS_Arr rfl (LkE_F rfl LkE_V) LkE_V LkE_I) (LkS_Seq (LkS_Arr rfl (LkE_F rfl LkE_V) LkE_V LkE_I) (LkS_Seq (LkS_Arr rfl (LkE_F rfl LkE_V) LkE_V LkE_I) (LkS_Seq (LkS_Seq (LkS_Set LkE_I) (LkS_While l_cX12_clearBank_1 l_bX12_clearBank_1 l_uX12_clearBank_1)) LkS_RetV)))))))
theorem lX12_clearBank : LkM mX12_clearBank := LkM_q l_sX12_clearBank
theorem l_cX12_feed_1 : LkC cX12_feed_1 := (LkC_B LkE_V LkE_I)
theorem l_bX12_feed_1 : LkS bX12_feed_1 := (LkS_Seq (LkS_Set (LkE_If (LkC_B LkE_V LkE_I) LkE_V (LkE_If (LkC_B LkE_V LkE_I) LkE_V (LkE_If (LkC_B LkE_V LkE_I) LkE_V (LkE_If (LkC_B LkE_V LkE_I) LkE_V LkE_V))))) (LkS_Arr rfl (LkE_F rfl LkE_V) (LkE_2 (LkE_F rfl LkE_V) LkE_V) (LkE_1 (LkE_2 LkE_V (LkE_2 LkE_I (LkE_2 LkE_I (LkE_2 LkE_V LkE_I)))))))
theorem l_uX12_feed_1 : LkS uX12_feed_1 := LkS_Inc
theorem l_sX12_feed : LkS sX12_feed := (LkS_Seq (LkS_If (LkC_B (LkE_2 (LkE_F rfl LkE_V) LkE_I) LkE_I) (LkS_Ret LkE_I) LkS_Skip) (LkS_Seq (LkS_Seq (LkS_Set LkE_I) (LkS_While l_cX12_feed_1 l_bX12_feed_1 l_uX12_feed_1)) (LkS_Seq (LkS_PutC rfl LkE_V LkE_I) (LkS_Ret (LkE_F rfl LkE_V)))))
theorem lX12_feed : LkM mX12_feed := LkM_q l_sX12_feed
theorem l_sX12_end : LkS sX12_end := (LkS_Seq (LkS_If (LkC_Or (LkC_B LkE_V LkE_I) (LkC_B LkE_V (LkE_F rfl LkE_V))) (LkS_Ret LkE_I) LkS_Skip) (LkS_Seq (LkS_Put rfl LkE_V LkE_V) (LkS_Ret LkE_V)))
theorem lX12_end : LkM mX12_end := LkM_q l_sX12_end
theorem l_sX12_signAt : LkS sX12_signAt := (LkS_Ret (LkE_If (LkC_B LkE_V (LkE_F rfl LkE_V)) (LkE_A rfl (LkE_F rfl LkE_V) LkE_V) LkE_I))
theorem lX12_signAt : LkM mX12_signAt := LkM_q l_sX12_signAt
theorem l_sX12_isLetter : LkS sX12_isLetter := (LkS_Ret (LkE_B (LkC_And (LkC_B LkE_V LkE_I) (LkC_B LkE_V LkE_I))))
theorem lX12_isLetter : LkM mX12_isLetter := LkM_q l_sX12_isLetter
theorem l_sX12_isDigit : LkS sX12_isDigit := (LkS_Ret (LkE_B (LkC_And (LkC_B LkE_V LkE_I) (LkC_B LkE_V LkE_I))))
theorem lX12_isDigit : LkM mX12_isDigit := LkM_q l_sX12_isDigit
theorem l_sX12_isSign : LkS sX12_isSign := (LkS_Ret (LkE_B (LkC_Or (LkC_Or (LkC_Or (LkC_Or (LkC_Or (LkC_Or (LkC_Or (LkC_B LkE_V LkE_I) (LkC_B LkE_V LkE_I)) (LkC_B LkE_V LkE_I)) (LkC_B LkE_V LkE_I)) (LkC_B LkE_V LkE_I)) (LkC_B LkE_V LkE_I)) (LkC_B LkE_V LkE_I)) (LkC_B LkE_V LkE_I))))
theorem lX12_isSign : LkM mX12_isSign := LkM_q l_sX12_isSign
theorem l_sX12_isBlank : LkS sX12_isBlank := (LkS_Ret (LkE_B (LkC_And (LkC_B LkE_V (LkE_F rfl LkE_V)) (LkC_Or (LkC_B (LkE_A rfl (LkE_F rfl LkE_V) LkE_V) LkE_I) (LkC_B (LkE_A rfl (LkE_F rfl LkE_V) LkE_V) LkE_I)))))
theorem lX12_isBlank : LkM mX12_isBlank := LkM_q l_sX12_isBlank
theorem l_cX12_scanNumber_1 : LkC cX12_scanNumber_1 := (LkC_E (LkE_C lX12_isDigit (LkA_1 (LkE_CV lX12_signAt (LkA_1 LkE_V (LkA_1 (LkE_F rfl LkE_V) LkA_0))) LkA_0)))
theorem l_bX12_scanNumber_1 : LkS bX12_scanNumber_1 := (LkS_Seq (LkS_Put rfl LkE_V (LkE_If (LkC_B (LkE_F rfl LkE_V) LkE_I) (LkE_F rfl LkE_V) (LkE_2 (LkE_2 (LkE_2 LkE_I (LkE_F rfl LkE_V)) (LkE_CV lX12_signAt (LkA_1 LkE_V (LkA_1 (LkE_F rfl LkE_V) LkA_0)))) LkE_I))) (LkS_PutC rfl LkE_V LkE_I))
theorem l_uX12_scanNumber_1 : LkS uX12_scanNumber_1 := LkS_Skip
theorem l_sX12_scanNumber : LkS sX12_scanNumber := (LkS_Seq (LkS_Put rfl LkE_V LkE_I) (LkS_Seq (LkS_Put rfl LkE_V LkE_I) (LkS_Seq (LkS_Put rfl LkE_V (LkE_F rfl LkE_V)) (LkS_Seq (LkS_While l_cX12_scanNumber_1 l_bX12_scanNumber_1 l_uX12_scanNumber_1) LkS_RetV))))
theorem lX12_scanNumber : LkM mX12_scanNumber := LkM_q l_sX12_scanNumber
theorem l_cX12_isSame_1 : LkC cX12_isSame_1 := (LkC_B LkE_V (LkE_2 LkE_V LkE_V))
theorem l_bX12_isSame_1 : LkS bX12_isSame_1 := (LkS_If (LkC_B (LkE_A rfl (LkE_F rfl LkE_V) (LkE_2 LkE_V LkE_V)) (LkE_A rfl (LkE_F rfl LkE_V) (LkE_2 (LkE_F rfl LkE_V) LkE_V))) (LkS_Ret LkE_I) LkS_Skip)
theorem l_uX12_isSame_1 : LkS uX12_isSame_1 := LkS_Inc
theorem l_sX12_isSame : LkS sX12_isSame := (LkS_Seq (LkS_If (LkC_B (LkE_2 LkE_V LkE_V) (LkE_2 (LkE_F rfl LkE_V) (LkE_F rfl LkE_V))) (LkS_Ret LkE_I) LkS_Skip) (LkS_Seq (LkS_Seq (LkS_Set LkE_I) (LkS_While l_cX12_isSame_1 l_bX12_isSame_1 l_uX12_isSame_1)) (LkS_Ret LkE_I)))
theorem lX12_isSame : LkM mX12_isSame := LkM_q l_sX12_isSame
theorem l_cX12_scanWord_1 : LkC cX12_scanWord_1 := (LkC_E (LkE_C lX12_isLetter (LkA_1 (LkE_CV lX12_signAt (LkA_1 LkE_V (LkA_1 (LkE_F rfl LkE_V) LkA_0))) LkA_0)))
theorem l_bX12_scanWord_1 : LkS bX12_scanWord_1 := (LkS_PutC rfl LkE_V LkE_I)
theorem l_uX12_scanWord_1 : LkS uX12_scanWord_1 := LkS_Skip
theorem l_cX12_scanWord_3 : LkC cX12_scanWord_3 := (LkC_B (LkE_A rfl (LkE_F rfl LkE_V) LkE_V) LkE_I)
theorem l_bX12_scanWord_3 : LkS bX12_scanWord_3 := LkS_Inc
theorem l_uX12_scanWord_3 : LkS uX12_scanWord_3 := LkS_Skip
theorem l_cX12_scanWord_2 : LkC cX12_scanWord_2 := (LkC_B LkE_V LkE_I)
theorem l_bX12_scanWord_2 : LkS bX12_scanWord_2 := (LkS_Seq (LkS_Set LkE_V) (LkS_Seq (LkS_While l_cX12_scanWord_3 l_bX12_scanWord_3 l_uX12_scanWord_3) (LkS_Seq (LkS_If (LkC_E (LkE_CV lX12_isSame (LkA_1 LkE_V (LkA_1 LkE_V (LkA_1 LkE_V LkA_0))))) (LkS_Put rfl LkE_V LkE_V) LkS_Skip) (LkS_Set (LkE_2 LkE_V LkE_I)))))
theorem l_uX12_scanWord_2 : LkS uX12_scanWord_2 := LkS_Inc
theorem l_sX12_scanWord : LkS sX12_scanWord := (LkS_Seq (LkS_Put rfl LkE_V LkE_I) (LkS_Seq (LkS_Put rfl LkE_V (LkE_F rfl LkE_V)) (LkS_Seq (LkS_While l_cX12_scanWord_1 l_bX12_scanWord_1 l_uX12_scanWord_1) (LkS_Seq (LkS_Put rfl LkE_V LkE_I) (LkS_Seq (LkS_Set LkE_I) (LkS_Seq (LkS_Seq (LkS_Set LkE_I) (LkS_While l_cX12_scanWord_2 l_bX12_scanWord_2 l_uX12_scanWord_2)) LkS_RetV))))))
theorem lX12_scanWord : LkM mX12_scanWord := LkM_q l_sX12_scanWord
theorem l_cX12_scan_1 : LkC cX12_scan_1 := (LkC_E (LkE_CV lX12_isBlank (LkA_1 LkE_V (LkA_1 (LkE_F rfl LkE_V) LkA_0))))
theorem l_bX12_scan_1 : LkS bX12_scan_1 := (LkS_PutC rfl LkE_V LkE_I)
theorem l_uX12_scan_1 : LkS uX12_scan_1 := LkS_Skip
theorem l_sX12_scan : LkS sX12_scan := (LkS_Seq (LkS_Put rfl LkE_V (LkE_F rfl LkE_V)) (LkS_Seq (LkS_While l_cX12_scan_1 l_bX12_scan_1 l_uX12_scan_1) (LkS_Seq (LkS_Put rfl LkE_V (LkE_2 (LkE_F rfl LkE_V) LkE_I)) (LkS_Seq (LkS_Set (LkE_CV lX12_signAt (LkA_1 LkE_V (LkA_1 (LkE_F rfl LkE_V) LkA_0)))) (LkS_Seq (LkS_If (LkC_B (LkE_F rfl LkE_V) (LkE_F rfl LkE_V)) (LkS_Seq (LkS_Put rfl LkE_V (LkE_F rfl LkE_V)) (LkS_Put rfl LkE_V LkE_I)) (LkS_If (LkC_E (LkE_C lX12_isLetter (LkA_1 LkE_V LkA_0))) (LkS_Do (LkE_CV lX12_scanWord (LkA_1 LkE_V LkA_0))) (LkS_If (LkC_E (LkE_C lX12_isDigit (LkA_1 LkE_V LkA_0))) (LkS_Do (LkE_CV lX12_scanNumber (LkA_1 LkE_V LkA_0))) (LkS_Put rfl LkE_V (LkE_If (LkC_E (LkE_C lX12_isSign (LkA_1 LkE_V LkA_0))) LkE_I LkE_I))))) LkS_RetV)))))
theorem lX12_scan : LkM mX12_scan := LkM_q l_sX12_scan
theorem l_sX12_fail : LkS sX12_fail := (LkS_Seq (LkS_If (LkC_B (LkE_F rfl LkE_V) LkE_I) LkS_RetV LkS_Skip) (LkS_Seq (LkS_Put rfl LkE_V LkE_V) (LkS_Seq (LkS_Put rfl LkE_V (LkE_F rfl LkE_V)) LkS_RetV)))
theorem lX12_fail : LkM mX12_fail := LkM_q l_sX12_fail
theorem l_sX12_isAt : LkS sX12_isAt := (LkS_Ret (LkE_B (LkC_And (LkC_And (LkC_B (LkE_F rfl LkE_V) LkE_I) (LkC_B (LkE_F rfl LkE_V) LkE_I)) (LkC_B (LkE_CV lX12_signAt (LkA_1 LkE_V (LkA_1 (LkE_F rfl LkE_V) LkA_0))) LkE_V))))
theorem lX12_isAt : LkM mX12_isAt := LkM_q l_sX12_isAt
theorem l_sX12_isWord : LkS sX12_isWord := (LkS_Ret (LkE_B (LkC_And (LkC_And (LkC_B (LkE_F rfl LkE_V) LkE_I) (LkC_B (LkE_F rfl LkE_V) LkE_I)) (LkC_B (LkE_F rfl LkE_V) LkE_V))))
theorem lX12_isWord : LkM mX12_isWord := LkM_q l_sX12_isWord
theorem l_sX12_need : LkS sX12_need := (LkS_Seq (LkS_If (LkC_E (LkE_CV lX12_isAt (LkA_1 LkE_V (LkA_1 LkE_V LkA_0)))) (LkS_Do (LkE_CV lX12_scan (LkA_1 LkE_V LkA_0))) (LkS_Do (LkE_CV lX12_fail (LkA_1 LkE_V (LkA_1 LkE_I LkA_0))))) LkS_RetV)
theorem lX12_need : LkM mX12_need := LkM_q l_sX12_need
theorem l_sX12_needWord : LkS sX12_needWord := (LkS_Seq (LkS_If (LkC_E (LkE_CV lX12_isWord (LkA_1 LkE_V (LkA_1 LkE_V LkA_0)))) (LkS_Do (LkE_CV lX12_scan (LkA_1 LkE_V LkA_0))) (LkS_Do (LkE_CV lX12_fail (LkA_1 LkE_V (LkA_1 LkE_I LkA_0))))) LkS_RetV)
theorem lX12_needWord : LkM mX12_needWord := LkM_q l_sX12_needWord
theorem l_sX12_numeral : LkS sX12_numeral := (LkS_Seq (LkS_If (LkC_B (LkE_F rfl LkE_V) LkE_I) (LkS_Do (LkE_CV lX12_fail (LkA_1 LkE_V (LkA_1 LkE_I LkA_0)))) (LkS_If (LkC_Not (LkC_E (LkE_C lX12_isIn (LkA_1 (LkE_F rfl LkE_V) (LkA_1 LkE_V (LkA_1 LkE_V LkA_0)))))) (LkS_Do (LkE_CV lX12_fail (LkA_1 LkE_V (LkA_1 LkE_I LkA_0)))) LkS_Skip)) (LkS_Seq (LkS_Set (LkE_F rfl LkE_V)) (LkS_Seq (LkS_If (LkC_B (LkE_F rfl LkE_V) LkE_I) (LkS_Do (LkE_CV lX12_scan (LkA_1 LkE_V LkA_0))) LkS_Skip) (LkS_Ret LkE_V))))
theorem lX12_numeral : LkM mX12_numeral := LkM_q l_sX12_numeral
theorem l_sX12_isName : LkS sX12_isName := (LkS_Ret (LkE_B (LkC_And (LkC_And (LkC_B (LkE_F rfl LkE_V) LkE_I) (LkC_B (LkE_F rfl LkE_V) LkE_I)) (LkC_B (LkE_F rfl LkE_V) LkE_I))))
theorem lX12_isName : LkM mX12_isName := LkM_q l_sX12_isName
theorem l_cX12_isNamed_1 : LkC cX12_isNamed_1 := (LkC_B LkE_V (LkE_A rfl (LkE_F rfl LkE_V) LkE_V))
theorem l_bX12_isNamed_1 : LkS bX12_isNamed_1 := (LkS_If (LkC_B (LkE_A rfl (LkE_F rfl LkE_V) (LkE_2 (LkE_A rfl (LkE_F rfl LkE_V) LkE_V) LkE_V)) (LkE_A rfl (LkE_F rfl LkE_V) (LkE_2 (LkE_F rfl LkE_V) LkE_V))) (LkS_Ret LkE_I) LkS_Skip)
theorem l_uX12_isNamed_1 : LkS uX12_isNamed_1 := LkS_Inc
theorem l_sX12_isNamed : LkS sX12_isNamed := (LkS_Seq (LkS_If (LkC_B (LkE_A rfl (LkE_F rfl LkE_V) LkE_V) (LkE_2 (LkE_F rfl LkE_V) (LkE_F rfl LkE_V))) (LkS_Ret LkE_I) LkS_Skip) (LkS_Seq (LkS_Seq (LkS_Set LkE_I) (LkS_While l_cX12_isNamed_1 l_bX12_isNamed_1 l_uX12_isNamed_1)) (LkS_Ret LkE_I)))
theorem lX12_isNamed : LkM mX12_isNamed := LkM_q l_sX12_isNamed
theorem l_cX12_nameHere_1 : LkC cX12_nameHere_1 := (LkC_B LkE_V (LkE_F rfl LkE_V))
theorem l_bX12_nameHere_1 : LkS bX12_nameHere_1 := (LkS_If (LkC_E (LkE_CV lX12_isNamed (LkA_1 LkE_V (LkA_1 LkE_V LkA_0)))) (LkS_Ret (LkE_A rfl (LkE_F rfl LkE_V) LkE_V)) LkS_Skip)
theorem l_uX12_nameHere_1 : LkS uX12_nameHere_1 := LkS_Inc
theorem l_sX12_nameHere : LkS sX12_nameHere := (LkS_Seq (LkS_Seq (LkS_Set LkE_I) (LkS_While l_cX12_nameHere_1 l_bX12_nameHere_1 l_uX12_nameHere_1)) (LkS_Ret LkE_I))
theorem lX12_nameHere : LkM mX12_nameHere := LkM_q l_sX12_nameHere
theorem l_sX12_newName : LkS sX12_newName := (LkS_Seq (LkS_If (LkC_Not (LkC_E (LkE_CV lX12_isName (LkA_1 LkE_V LkA_0)))) (LkS_Do (LkE_CV lX12_fail (LkA_1 LkE_V (LkA_1 LkE_I LkA_0)))) (LkS_If (LkC_B (LkE_CV lX12_nameHere (LkA_1 LkE_V LkA_0)) LkE_I) (LkS_Do (LkE_CV lX12_fail (LkA_1 LkE_V (LkA_1 LkE_I LkA_0)))) LkS_Skip)) (LkS_Seq (LkS_If (LkC_B (LkE_F rfl LkE_V) LkE_I) LkS_RetV LkS_Skip) (LkS_Seq (LkS_Arr rfl (LkE_F rfl LkE_V) (LkE_F rfl LkE_V) (LkE_F rfl LkE_V)) (LkS_Seq (LkS_Arr rfl (LkE_F rfl LkE_V) (LkE_F rfl LkE_V) (LkE_2 (LkE_F rfl LkE_V) (LkE_F rfl LkE_V))) (LkS_Seq (LkS_Arr rfl (LkE_F rfl LkE_V) (LkE_F rfl LkE_V) LkE_V) (LkS_Seq (LkS_PutC rfl LkE_V LkE_I) (LkS_Seq (LkS_Do (LkE_CV lX12_scan (LkA_1 LkE_V LkA_0))) LkS_RetV)))))))
theorem lX12_newName : LkM mX12_newName := LkM_q l_sX12_newName
theorem l_sX12_readArchive : LkS sX12_readArchive := (LkS_Seq (LkS_If (LkC_B (LkE_A rfl (LkE_F rfl LkE_V) LkE_V) LkE_I) (LkS_Do (LkE_CV lX12_fail (LkA_1 LkE_V (LkA_1 LkE_I LkA_0)))) LkS_Skip) (LkS_Seq (LkS_If (LkC_B (LkE_F rfl LkE_V) LkE_I) LkS_RetV LkS_Skip) (LkS_Seq (LkS_Do (LkE_CV lX12_scan (LkA_1 LkE_V LkA_0))) (LkS_Seq (LkS_Set (LkE_C lX12_own (LkA_1 LkE_V (LkA_1 (LkE_A rfl (LkE_F rfl LkE_V) LkE_V) LkA_0)))) (LkS_Seq (LkS_Arr rfl (LkE_F rfl LkE_V) LkE_V (LkE_If (LkC_E (LkE_CV lX12_isWord (LkA_1 LkE_V (LkA_1 LkE_I LkA_0)))) LkE_I (LkE_If (LkC_E (LkE_CV lX12_isWord (LkA_1 LkE_V (LkA_1 LkE_I LkA_0)))) LkE_I (LkE_If (LkC_E (LkE_CV lX12_isWord (LkA_1 LkE_V (LkA_1 LkE_I LkA_0)))) LkE_I LkE_I)))) (LkS_Seq (LkS_If (LkC_And (LkC_B (LkE_A rfl (LkE_F rfl LkE_V) LkE_V) LkE_I) (LkC_Not (LkC_E (LkE_CV lX12_isWord (LkA_1 LkE_V (LkA_1 LkE_I LkA_0)))))) (LkS_Do (LkE_CV lX12_fail (LkA_1 LkE_V (LkA_1 LkE_I LkA_0)))) LkS_Skip) (LkS_Seq (LkS_If (LkC_B (LkE_F rfl LkE_V) LkE_I) LkS_RetV LkS_Skip) (LkS_Seq (LkS_Do (LkE_CV lX12_scan (LkA_1 LkE_V LkA_0))) (LkS_Seq (LkS_Arr rfl (LkE_F rfl LkE_V) LkE_V (LkE_CV lX12_numeral (LkA_1 LkE_V (LkA_1 LkE_I (LkA_1 LkE_I LkA_0))))) (LkS_Seq (LkS_Do (LkE_CV lX12_needWord (LkA_1 LkE_V (LkA_1 LkE_I LkA_0)))) (LkS_Seq (LkS_Arr rfl (LkE_F rfl LkE_V) LkE_V (LkE_CV lX12_numeral (LkA_1 LkE_V (LkA_1 LkE_I (LkA_1 LkE_I LkA_0))))) (LkS_Seq (LkS_Do (LkE_CV lX12_needWord (LkA_1 LkE_V (LkA_1 LkE_I LkA_0)))) (LkS_Seq (LkS_Arr rfl (LkE_F rfl LkE_V) LkE_V (LkE_CV lX12_numeral (LkA_1 LkE_V (LkA_1 LkE_I (LkA_1 LkE_I LkA_0))))) (LkS_Seq (LkS_ArrC rfl (LkE_F rfl LkE_V) LkE_V LkE_I) LkS_RetV))))))))))))))
theorem lX12_readArchive : LkM mX12_readArchive := LkM_q l_sX12_readArchive
theorem l_sX12_readForecast : LkS sX12_readForecast := (LkS_Seq (LkS_Do (LkE_CV lX12_scan (LkA_1 LkE_V LkA_0))) (LkS_Seq (LkS_Set (LkE_If (LkC_E (LkE_CV lX12_isName (LkA_1 LkE_V LkA_0))) (LkE_CV lX12_nameHere (LkA_1 LkE_V LkA_0)) LkE_I)) (LkS_Seq (LkS_If (LkC_Not (LkC_E (LkE_CV lX12_isName (LkA_1 LkE_V LkA_0)))) (LkS_Do (LkE_CV lX12_fail (LkA_1 LkE_V (LkA_1 LkE_I LkA_0)))) (LkS_If (LkC_Or (LkC_Not (LkC_E (LkE_C lX12_isIn (LkA_1 LkE_V (LkA_1 LkE_I (LkA_1 LkE_I LkA_0)))))) (LkC_E (LkE_A rfl (LkE_F rfl LkE_V) (LkE_C lX12_own (LkA_1 LkE_V (LkA_1 LkE_V LkA_0)))))) (LkS_Do (LkE_CV lX12_fail (LkA_1 LkE_V (LkA_1 LkE_I LkA_0)))) LkS_Skip)) (LkS_Seq (LkS_If (LkC_B (LkE_F rfl LkE_V) LkE_I) LkS_RetV LkS_Skip) (LkS_Seq (LkS_Set (LkE_C lX12_own (LkA_1 LkE_V (LkA_1 LkE_V LkA_0)))) (LkS_Seq (LkS_Arr rfl (LkE_F rfl LkE_V) LkE_V LkE_I) (LkS_Seq (LkS_Do (LkE_CV lX12_scan (LkA_1 LkE_V LkA_0))) (LkS_Seq (LkS_Do (LkE_CV lX12_needWord (LkA_1 LkE_V (LkA_1 LkE_I LkA_0)))) (LkS_Seq (LkS_Arr rfl (LkE_F rfl LkE_V) LkE_V (LkE_CV lX12_numeral (LkA_1 LkE_V (LkA_1 LkE_I (LkA_1 LkE_I LkA_0))))) (LkS_Seq (LkS_Do (LkE_CV lX12_needWord (LkA_1 LkE_V (LkA_1 LkE_I LkA_0)))) (LkS_Seq (LkS_Arr rfl (LkE_F rfl LkE_V) LkE_V (LkE_CV lX12_numeral (LkA_1 LkE_V (LkA_1 LkE_I (LkA_1 LkE_I LkA_0))))) (LkS_Seq (LkS_Arr rfl (LkE_F rfl LkE_V) LkE_V (LkE_CV lX12_numeral (LkA_1 LkE_V (LkA_1 LkE_I (LkA_1 LkE_I LkA_0))))) (LkS_Seq (LkS_Arr rfl (LkE_F rfl LkE_V) LkE_V (LkE_CV lX12_numeral (LkA_1 LkE_V (LkA_1 LkE_I (LkA_1 LkE_I LkA_0))))) (LkS_Seq (LkS_Do (LkE_CV lX12_needWord (LkA_1 LkE_V (LkA_1 LkE_I LkA_0)))) (LkS_Seq (LkS_Arr rfl (LkE_F rfl LkE_V) LkE_V (LkE_CV lX12_numeral (LkA_1 LkE_V (LkA_1 LkE_I (LkA_1 LkE_I LkA_0))))) LkS_RetV)))))))))))))))
theorem lX12_readForecast : LkM mX12_readForecast := LkM_q l_sX12_readForecast
theorem l_sX12_readMeasure : LkS sX12_readMeasure := (LkS_Seq (LkS_If (LkC_B (LkE_A rfl (LkE_F rfl LkE_V) LkE_V) LkE_I) (LkS_Do (LkE_CV lX12_fail (LkA_1 LkE_V (LkA_1 LkE_I LkA_0)))) LkS_Skip) (LkS_Seq (LkS_If (LkC_B (LkE_F rfl LkE_V) LkE_I) LkS_RetV LkS_Skip) (LkS_Seq (LkS_Do (LkE_CV lX12_scan (LkA_1 LkE_V LkA_0))) (LkS_Seq (LkS_Set (LkE_C lX12_own (LkA_1 LkE_V (LkA_1 (LkE_A rfl (LkE_F rfl LkE_V) LkE_V) LkA_0)))) (LkS_Seq (LkS_Set (LkE_A rfl (LkE_F rfl LkE_V) LkE_V)) (LkS_Seq (LkS_Set (LkE_F rfl LkE_V)) (LkS_Seq (LkS_Do (LkE_CV lX12_newName (LkA_1 LkE_V (LkA_1 LkE_V LkA_0)))) (LkS_Seq (LkS_If (LkC_B (LkE_F rfl LkE_V) LkE_I) LkS_RetV LkS_Skip) (LkS_Seq (LkS_Arr rfl (LkE_F rfl LkE_V) LkE_V (LkE_If (LkC_E (LkE_CV lX12_isWord (LkA_1 LkE_V (LkA_1 LkE_I LkA_0)))) LkE_I (LkE_If (LkC_E (LkE_CV lX12_isWord (LkA_1 LkE_V (LkA_1 LkE_I LkA_0)))) LkE_I LkE_I))) (LkS_Seq (LkS_If (LkC_And (LkC_B (LkE_A rfl (LkE_F rfl LkE_V) LkE_V) LkE_I) (LkC_Not (LkC_E (LkE_CV lX12_isWord (LkA_1 LkE_V (LkA_1 LkE_I LkA_0)))))) (LkS_Do (LkE_CV lX12_fail (LkA_1 LkE_V (LkA_1 LkE_I LkA_0)))) LkS_Skip) (LkS_Seq (LkS_If (LkC_B (LkE_F rfl LkE_V) LkE_I) LkS_RetV LkS_Skip) (LkS_Seq (LkS_Do (LkE_CV lX12_scan (LkA_1 LkE_V LkA_0))) (LkS_Seq (LkS_If (LkC_B (LkE_A rfl (LkE_F rfl LkE_V) LkE_V) LkE_I) (LkS_Seq (LkS_Arr rfl (LkE_F rfl LkE_V) LkE_V (LkE_CV lX12_numeral (LkA_1 LkE_V (LkA_1 LkE_I (LkA_1 LkE_I LkA_0))))) (LkS_Arr rfl (LkE_F rfl LkE_V) LkE_V (LkE_CV lX12_numeral (LkA_1 LkE_V (LkA_1 (LkE_2 (LkE_A rfl (LkE_F rfl LkE_V) LkE_V) LkE_I) (LkA_1 LkE_I LkA_0)))))) LkS_Skip) (LkS_Seq (LkS_Do (LkE_CV lX12_needWord (LkA_1 LkE_V (LkA_1 LkE_I LkA_0)))) (LkS_Seq (LkS_Arr rfl (LkE_F rfl LkE_V) LkE_V (LkE_CV lX12_numeral (LkA_1 LkE_V (LkA_1 LkE_I (LkA_1 LkE_I LkA_0))))) (LkS_Seq (LkS_Arr rfl (LkE_F rfl LkE_V) LkE_V LkE_I) (LkS_Seq (LkS_Arr rfl (LkE_F rfl LkE_V) LkE_V LkE_I) (LkS_Seq (LkS_If (LkC_E (LkE_CV lX12_isWord (LkA_1 LkE_V (LkA_1 LkE_I LkA_0)))) (LkS_Seq (LkS_Do (LkE_CV lX12_scan (LkA_1 LkE_V LkA_0))) (LkS_Arr rfl (LkE_F rfl LkE_V) LkE_V (LkE_CV lX12_numeral (LkA_1 LkE_V (LkA_1 LkE_I (LkA_1 LkE_I LkA_0)))))) LkS_Skip) (LkS_Seq (LkS_If (LkC_E (LkE_CV lX12_isWord (LkA_1 LkE_V (LkA_1 LkE_I LkA_0)))) (LkS_Seq (LkS_Do (LkE_CV lX12_scan (LkA_1 LkE_V LkA_0))) (LkS_Arr rfl (LkE_F rfl LkE_V) LkE_V (LkE_CV lX12_numeral (LkA_1 LkE_V (LkA_1 (LkE_A rfl (LkE_F rfl LkE_V) LkE_V) (LkA_1 LkE_I LkA_0)))))) LkS_Skip) (LkS_Seq (LkS_If (LkC_And (LkC_B (LkE_F rfl LkE_V) LkE_I) (LkC_B (LkE_F rfl LkE_V) LkE_V)) (LkS_ArrC rfl (LkE_F rfl LkE_V) LkE_V LkE_I) LkS_Skip) LkS_RetV))))))))))))))))))))
theorem lX12_readMeasure : LkM mX12_readMeasure := LkM_q l_sX12_readMeasure
theorem l_sX12_between : LkS sX12_between := (LkS_Ret (LkE_If (LkC_E (LkE_CV lX12_isWord (LkA_1 LkE_V (LkA_1 LkE_I LkA_0)))) LkE_I (LkE_If (LkC_E (LkE_CV lX12_isAt (LkA_1 LkE_V (LkA_1 LkE_I LkA_0)))) LkE_I (LkE_If (LkC_E (LkE_CV lX12_isAt (LkA_1 LkE_V (LkA_1 LkE_I LkA_0)))) LkE_I (LkE_If (LkC_E (LkE_CV lX12_isAt (LkA_1 LkE_V (LkA_1 LkE_I LkA_0)))) LkE_I (LkE_If (LkC_E (LkE_CV lX12_isAt (LkA_1 LkE_V (LkA_1 LkE_I LkA_0)))) LkE_I LkE_I))))))
theorem lX12_between : LkM mX12_between := LkM_q l_sX12_between
theorem l_sX12_lay : LkS sX12_lay := (LkS_Seq (LkS_Arr rfl (LkE_F rfl LkE_V) (LkE_2 (LkE_2 LkE_I LkE_V) (LkE_A rfl (LkE_F rfl LkE_V) LkE_V)) LkE_V) (LkS_Seq (LkS_ArrC rfl (LkE_F rfl LkE_V) LkE_V LkE_I) LkS_RetV))
theorem lX12_lay : LkM mX12_lay := LkM_q l_sX12_lay
theorem l_sX12_layWaiting : LkS sX12_layWaiting := (LkS_Seq (LkS_PutC rfl LkE_V LkE_I) (LkS_Seq (LkS_Do (LkE_CV lX12_lay (LkA_1 LkE_V (LkA_1 LkE_V (LkA_1 (LkE_A rfl (LkE_F rfl LkE_V) (LkE_F rfl LkE_V)) LkA_0))))) LkS_RetV))
theorem lX12_layWaiting : LkM mX12_layWaiting := LkM_q l_sX12_layWaiting
theorem l_sX12_bindsBy : LkS sX12_bindsBy := (LkS_Ret (LkE_If (LkC_B LkE_V LkE_I) LkE_I (LkE_If (LkC_B LkE_V LkE_I) LkE_I (LkE_If (LkC_Or (LkC_B LkE_V LkE_I) (LkC_B LkE_V LkE_I)) LkE_I LkE_I))))
theorem lX12_bindsBy : LkM mX12_bindsBy := LkM_q l_sX12_bindsBy
theorem l_cX12_push_1 : LkC cX12_push_1 := (LkC_And (LkC_And (LkC_B (LkE_F rfl LkE_V) LkE_I) (LkC_B LkE_V LkE_I)) (LkC_B (LkE_C lX12_bindsBy (LkA_1 (LkE_A rfl (LkE_F rfl LkE_V) (LkE_2 (LkE_F rfl LkE_V) LkE_I)) LkA_0)) (LkE_C lX12_bindsBy (LkA_1 LkE_V LkA_0))))
theorem l_bX12_push_1 : LkS bX12_push_1 := (LkS_Do (LkE_CV lX12_layWaiting (LkA_1 LkE_V (LkA_1 LkE_V LkA_0))))
theorem l_uX12_push_1 : LkS uX12_push_1 := LkS_Skip
theorem l_sX12_push : LkS sX12_push := (LkS_Seq (LkS_While l_cX12_push_1 l_bX12_push_1 l_uX12_push_1) (LkS_Seq (LkS_Arr rfl (LkE_F rfl LkE_V) (LkE_F rfl LkE_V) LkE_V) (LkS_Seq (LkS_PutC rfl LkE_V LkE_I) LkS_RetV)))
theorem lX12_push : LkM mX12_push := LkM_q l_sX12_push
theorem l_sX12_readUnit : LkS sX12_readUnit := (LkS_Seq (LkS_Set (LkE_CV lX12_isAt (LkA_1 LkE_V (LkA_1 LkE_I LkA_0)))) (LkS_Seq (LkS_If (LkC_And (LkC_And (LkC_Not (LkC_E LkE_V)) (LkC_Not (LkC_E (LkE_CV lX12_isName (LkA_1 LkE_V LkA_0))))) (LkC_B (LkE_F rfl LkE_V) LkE_I)) (LkS_Do (LkE_CV lX12_fail (LkA_1 LkE_V (LkA_1 LkE_I LkA_0)))) (LkS_If (LkC_And (LkC_B (LkE_F rfl LkE_V) LkE_I) (LkC_B (LkE_F rfl LkE_V) LkE_I)) (LkS_Do (LkE_CV lX12_fail (LkA_1 LkE_V (LkA_1 LkE_I LkA_0)))) (LkS_If (LkC_And (LkC_E (LkE_CV lX12_isName (LkA_1 LkE_V LkA_0))) (LkC_B (LkE_CV lX12_nameHere (LkA_1 LkE_V LkA_0)) LkE_I)) (LkS_Do (LkE_CV lX12_fail (LkA_1 LkE_V (LkA_1 LkE_I LkA_0)))) (LkS_If (LkC_Or (LkC_B (LkE_A rfl (LkE_F rfl LkE_V) LkE_V) LkE_I) (LkC_B (LkE_F rfl LkE_V) LkE_I)) (LkS_Do (LkE_CV lX12_fail (LkA_1 LkE_V (LkA_1 LkE_I LkA_0)))) LkS_Skip)))) (LkS_Seq (LkS_If (LkC_B (LkE_F rfl LkE_V) LkE_I) (LkS_Ret LkE_I) LkS_Skip) (LkS_Seq (LkS_ArrC rfl (LkE_F rfl LkE_V) LkE_V LkE_I) (LkS_Seq (LkS_If (LkC_E LkE_V) (LkS_Seq (LkS_Do (LkE_CV lX12_push (LkA_1 LkE_V (LkA_1 LkE_V (LkA_1 LkE_I LkA_0))))) (LkS_PutC rfl LkE_V LkE_I)) (LkS_Do (LkE_CV lX12_lay (LkA_1 LkE_V (LkA_1 LkE_V (LkA_1 (LkE_If (LkC_B (LkE_F rfl LkE_V) LkE_I) (LkE_F rfl LkE_V) (LkE_If (LkC_B (LkE_CV lX12_nameHere (LkA_1 LkE_V LkA_0)) LkE_I) (LkE_2 LkE_I (LkE_CV lX12_nameHere (LkA_1 LkE_V LkA_0))) (LkE_2 (LkE_2 LkE_I (LkE_CV lX12_nameHere (LkA_1 LkE_V LkA_0))) LkE_I))) LkA_0)))))) (LkS_Seq (LkS_Do (LkE_CV lX12_scan (LkA_1 LkE_V LkA_0))) (LkS_Ret LkE_V)))))))
theorem lX12_readUnit : LkM mX12_readUnit := LkM_q l_sX12_readUnit
theorem l_cX12_readUnits_2 : LkC cX12_readUnits_2 := (LkC_B (LkE_A rfl (LkE_F rfl LkE_V) (LkE_2 (LkE_F rfl LkE_V) LkE_I)) LkE_I)
theorem l_bX12_readUnits_2 : LkS bX12_readUnits_2 := (LkS_Do (LkE_CV lX12_layWaiting (LkA_1 LkE_V (LkA_1 LkE_V LkA_0))))
theorem l_uX12_readUnits_2 : LkS uX12_readUnits_2 := LkS_Skip
theorem l_cX12_readUnits_1 : LkC cX12_readUnits_1 := (LkC_And (LkC_B (LkE_F rfl LkE_V) LkE_I) (LkC_E LkE_V))
theorem l_bX12_readUnits_1 : LkS bX12_readUnits_1 := (LkS_If (LkC_E LkE_V) (LkS_Set (LkE_CV lX12_readUnit (LkA_1 LkE_V (LkA_1 LkE_V LkA_0)))) (LkS_If (LkC_And (LkC_E (LkE_CV lX12_isAt (LkA_1 LkE_V (LkA_1 LkE_I LkA_0)))) (LkC_B (LkE_F rfl LkE_V) LkE_I)) (LkS_Seq (LkS_While l_cX12_readUnits_2 l_bX12_readUnits_2 l_uX12_readUnits_2) (LkS_Seq (LkS_PutC rfl LkE_V LkE_I) (LkS_Seq (LkS_PutC rfl LkE_V LkE_I) (LkS_Do (LkE_CV lX12_scan (LkA_1 LkE_V LkA_0)))))) (LkS_If (LkC_B (LkE_CV lX12_between (LkA_1 LkE_V LkA_0)) LkE_I) (LkS_Seq (LkS_Do (LkE_CV lX12_push (LkA_1 LkE_V (LkA_1 LkE_V (LkA_1 (LkE_CV lX12_between (LkA_1 LkE_V LkA_0)) LkA_0))))) (LkS_Seq (LkS_Do (LkE_CV lX12_scan (LkA_1 LkE_V LkA_0))) (LkS_Set LkE_I))) (LkS_Set LkE_I))))
theorem l_uX12_readUnits_1 : LkS uX12_readUnits_1 := LkS_Skip
theorem l_cX12_readUnits_3 : LkC cX12_readUnits_3 := (LkC_And (LkC_B (LkE_F rfl LkE_V) LkE_I) (LkC_B (LkE_F rfl LkE_V) LkE_I))
theorem l_bX12_readUnits_3 : LkS bX12_readUnits_3 := (LkS_Do (LkE_CV lX12_layWaiting (LkA_1 LkE_V (LkA_1 LkE_V LkA_0))))
theorem l_uX12_readUnits_3 : LkS uX12_readUnits_3 := LkS_Skip
theorem l_sX12_readUnits : LkS sX12_readUnits := (LkS_Seq (LkS_Put rfl LkE_V LkE_I) (LkS_Seq (LkS_Put rfl LkE_V LkE_I) (LkS_Seq (LkS_Set LkE_I) (LkS_Seq (LkS_Set LkE_I) (LkS_Seq (LkS_While l_cX12_readUnits_1 l_bX12_readUnits_1 l_uX12_readUnits_1) (LkS_Seq (LkS_If (LkC_And (LkC_B (LkE_F rfl LkE_V) LkE_I) (LkC_B (LkE_F rfl LkE_V) LkE_I)) (LkS_Do (LkE_CV lX12_fail (LkA_1 LkE_V (LkA_1 LkE_I LkA_0)))) LkS_Skip) (LkS_Seq (LkS_While l_cX12_readUnits_3 l_bX12_readUnits_3 l_uX12_readUnits_3) LkS_RetV)))))))
theorem lX12_readUnits : LkM mX12_readUnits := LkM_q l_sX12_readUnits
theorem l_sX12_readShow : LkS sX12_readShow := (LkS_Seq (LkS_If (LkC_B (LkE_A rfl (LkE_F rfl LkE_V) LkE_V) LkE_I) (LkS_Do (LkE_CV lX12_fail (LkA_1 LkE_V (LkA_1 LkE_I LkA_0)))) LkS_Skip) (LkS_Seq (LkS_If (LkC_B (LkE_F rfl LkE_V) LkE_I) LkS_RetV LkS_Skip) (LkS_Seq (LkS_Do (LkE_CV lX12_scan (LkA_1 LkE_V LkA_0))) (LkS_Seq (LkS_If (LkC_Not (LkC_E (LkE_CV lX12_isName (LkA_1 LkE_V LkA_0)))) (LkS_Do (LkE_CV lX12_fail (LkA_1 LkE_V (LkA_1 LkE_I LkA_0)))) (LkS_If (LkC_B (LkE_CV lX12_nameHere (LkA_1 LkE_V LkA_0)) LkE_I) (LkS_Do (LkE_CV lX12_fail (LkA_1 LkE_V (LkA_1 LkE_I LkA_0)))) LkS_Skip)) (LkS_Seq (LkS_If (LkC_B (LkE_F rfl LkE_V) LkE_I) LkS_RetV LkS_Skip) (LkS_Seq (LkS_Set (LkE_F rfl LkE_V)) (LkS_Seq (LkS_Set (LkE_2 (LkE_F rfl LkE_V) (LkE_F rfl LkE_V))) (LkS_Seq (LkS_Do (LkE_CV lX12_scan (LkA_1 LkE_V LkA_0))) (LkS_Seq (LkS_Do (LkE_CV lX12_need (LkA_1 LkE_V (LkA_1 LkE_I LkA_0)))) (LkS_Seq (LkS_Do (LkE_CV lX12_readUnits (LkA_1 LkE_V (LkA_1 LkE_V LkA_0)))) (LkS_Seq (LkS_Arr rfl (LkE_F rfl LkE_V) (LkE_C lX12_own (LkA_1 LkE_V (LkA_1 (LkE_A rfl (LkE_F rfl LkE_V) LkE_V) LkA_0))) (LkE_A rfl (LkE_F rfl LkE_V) LkE_V)) (LkS_Seq (LkS_Arr rfl (LkE_F rfl LkE_V) (LkE_F rfl LkE_V) LkE_V) (LkS_Seq (LkS_Arr rfl (LkE_F rfl LkE_V) (LkE_F rfl LkE_V) LkE_V) (LkS_Seq (LkS_Arr rfl (LkE_F rfl LkE_V) (LkE_F rfl LkE_V) (LkE_2 LkE_I (LkE_A rfl (LkE_F rfl LkE_V) LkE_V))) (LkS_Seq (LkS_If (LkC_B (LkE_F rfl LkE_V) LkE_I) LkS_RetV LkS_Skip) (LkS_Seq (LkS_PutC rfl LkE_V LkE_I) (LkS_Seq (LkS_ArrC rfl (LkE_F rfl LkE_V) LkE_V LkE_I) LkS_RetV)))))))))))))))))
theorem lX12_readShow : LkM mX12_readShow := LkM_q l_sX12_readShow
theorem l_sX12_readLine : LkS sX12_readLine := (LkS_Seq (LkS_If (LkC_E (LkE_CV lX12_isWord (LkA_1 LkE_V (LkA_1 LkE_I LkA_0)))) (LkS_Do (LkE_CV lX12_readMeasure (LkA_1 LkE_V (LkA_1 LkE_V LkA_0)))) (LkS_If (LkC_E (LkE_CV lX12_isWord (LkA_1 LkE_V (LkA_1 LkE_I LkA_0)))) (LkS_Do (LkE_CV lX12_readArchive (LkA_1 LkE_V (LkA_1 LkE_V LkA_0)))) (LkS_If (LkC_E (LkE_CV lX12_isWord (LkA_1 LkE_V (LkA_1 LkE_I LkA_0)))) (LkS_Do (LkE_CV lX12_readForecast (LkA_1 LkE_V (LkA_1 LkE_V LkA_0)))) (LkS_If (LkC_E (LkE_CV lX12_isWord (LkA_1 LkE_V (LkA_1 LkE_I LkA_0)))) (LkS_Do (LkE_CV lX12_readShow (LkA_1 LkE_V (LkA_1 LkE_V LkA_0)))) (LkS_Do (LkE_CV lX12_fail (LkA_1 LkE_V (LkA_1 LkE_I LkA_0)))))))) LkS_RetV)
theorem lX12_readLine : LkM mX12_readLine := LkM_q l_sX12_readLine
theorem l_cX12_readAll_1 : LkC cX12_readAll_1 := (LkC_And (LkC_B (LkE_F rfl LkE_V) LkE_I) (LkC_B (LkE_F rfl LkE_V) LkE_I))
theorem l_bX12_readAll_1 : LkS bX12_readAll_1 := (LkS_Seq (LkS_Do (LkE_CV lX12_readLine (LkA_1 LkE_V (LkA_1 LkE_V LkA_0)))) (LkS_Do (LkE_CV lX12_need (LkA_1 LkE_V (LkA_1 LkE_I LkA_0)))))
theorem l_uX12_readAll_1 : LkS uX12_readAll_1 := LkS_Skip
theorem l_sX12_readAll : LkS sX12_readAll := (LkS_Seq (LkS_Do (LkE_CV lX12_scan (LkA_1 LkE_V LkA_0))) (LkS_Seq (LkS_If (LkC_B (LkE_F rfl LkE_V) LkE_I) LkS_RetV LkS_Skip) (LkS_Seq (LkS_Do (LkE_CV lX12_needWord (LkA_1 LkE_V (LkA_1 LkE_I LkA_0)))) (LkS_Seq (LkS_Arr rfl (LkE_F rfl LkE_V) LkE_V (LkE_CV lX12_numeral (LkA_1 LkE_V (LkA_1 LkE_I (LkA_1 LkE_I LkA_0))))) (LkS_Seq (LkS_Do (LkE_CV lX12_need (LkA_1 LkE_V (LkA_1 LkE_I LkA_0)))) (LkS_Seq (LkS_While l_cX12_readAll_1 l_bX12_readAll_1 l_uX12_readAll_1) LkS_RetV))))))
theorem lX12_readAll : LkM mX12_readAll := LkM_q l_sX12_readAll
theorem l_sX12_many : LkS sX12_many := (LkS_Ret (LkE_A rfl (LkE_F rfl LkE_V) (LkE_F rfl LkE_V)))
theorem lX12_many : LkM mX12_many := LkM_q l_sX12_many
theorem l_sX12_atMeasure : LkS sX12_atMeasure := (LkS_Ret (LkE_2 (LkE_2 LkE_I (LkE_2 LkE_I LkE_V)) LkE_V))
theorem lX12_atMeasure : LkM mX12_atMeasure := LkM_q l_sX12_atMeasure
theorem l_cX12_startAnew_1 : LkC cX12_startAnew_1 := (LkC_B LkE_V LkE_I)
theorem l_bX12_startAnew_1 : LkS bX12_startAnew_1 := (LkS_Arr rfl (LkE_F rfl LkE_V) LkE_V LkE_I)
theorem l_uX12_startAnew_1 : LkS uX12_startAnew_1 := LkS_Inc
theorem l_cX12_startAnew_2 : LkC cX12_startAnew_2 := (LkC_B LkE_V (LkE_CV lX12_many (LkA_1 LkE_V LkA_0)))
theorem l_bX12_startAnew_2 : LkS bX12_startAnew_2 := (LkS_Seq (LkS_Set (LkE_C lX12_own (LkA_1 (LkE_F rfl LkE_V) (LkA_1 LkE_V LkA_0)))) (LkS_Seq (LkS_Arr rfl (LkE_F rfl LkE_V) (LkE_C lX12_atMeasure (LkA_1 LkE_V (LkA_1 LkE_I LkA_0))) (LkE_A rfl (LkE_F rfl LkE_V) LkE_V)) (LkS_Seq (LkS_Arr rfl (LkE_F rfl LkE_V) (LkE_C lX12_atMeasure (LkA_1 LkE_V (LkA_1 LkE_I LkA_0))) (LkE_A rfl (LkE_F rfl LkE_V) LkE_V)) (LkS_Seq (LkS_Arr rfl (LkE_F rfl LkE_V) (LkE_C lX12_atMeasure (LkA_1 LkE_V (LkA_1 LkE_I LkA_0))) (LkE_A rfl (LkE_F rfl LkE_V) LkE_V)) (LkS_Seq (LkS_Arr rfl (LkE_F rfl LkE_V) (LkE_C lX12_atMeasure (LkA_1 LkE_V (LkA_1 LkE_I LkA_0))) LkE_I) (LkS_Seq (LkS_Arr rfl (LkE_F rfl LkE_V) (LkE_C lX12_atMeasure (LkA_1 LkE_V (LkA_1 LkE_I LkA_0))) LkE_I) (LkS_Seq (LkS_Arr rfl (LkE_F rfl LkE_V) (LkE_C lX12_atMeasure (LkA_1 LkE_V (LkA_1 LkE_I LkA_0))) LkE_I) (LkS_Seq (LkS_Arr rfl (LkE_F rfl LkE_V) (LkE_C lX12_atMeasure (LkA_1 LkE_V (LkA_1 LkE_I LkA_0))) LkE_I) (LkS_Arr rfl (LkE_F rfl LkE_V) (LkE_C lX12_atMeasure (LkA_1 LkE_V (LkA_1 LkE_I LkA_0))) LkE_I)))))))))
theorem l_uX12_startAnew_2 : LkS uX12_startAnew_2 := LkS_Inc
theorem l_cX12_startAnew_3 : LkC cX12_startAnew_3 := (LkC_B LkE_V LkE_I)
theorem l_bX12_startAnew_3 : LkS bX12_startAnew_3 := (LkS_Arr rfl (LkE_F rfl LkE_V) LkE_V LkE_I)
theorem l_uX12_startAnew_3 : LkS uX12_startAnew_3 := LkS_Inc
theorem l_sX12_startAnew : LkS sX12_startAnew := (LkS_Seq (LkS_Seq (LkS_Set LkE_I) (LkS_While l_cX12_startAnew_1 l_bX12_startAnew_1 l_uX12_startAnew_1)) (LkS_Seq (LkS_Seq (LkS_Set LkE_I) (LkS_While l_cX12_startAnew_2 l_bX12_startAnew_2 l_uX12_startAnew_2)) (LkS_Seq (LkS_Put rfl LkE_V LkE_I) (LkS_Seq (LkS_Put rfl LkE_V LkE_I) (LkS_Seq (LkS_Seq (LkS_Set LkE_I) (LkS_While l_cX12_startAnew_3 l_bX12_startAnew_3 l_uX12_startAnew_3)) LkS_RetV)))))
theorem lX12_startAnew : LkM mX12_startAnew := LkM_q l_sX12_startAnew
theorem l_sX12_store : LkS sX12_store := (LkS_Seq (LkS_Set (LkE_2 LkE_I (LkE_F rfl LkE_V))) (LkS_Seq (LkS_Put rfl LkE_V (LkE_F rfl LkE_V)) (LkS_Seq (LkS_Put rfl LkE_V LkE_I) (LkS_Seq (LkS_Put rfl LkE_V LkE_I) (LkS_Seq (LkS_Put rfl LkE_V LkE_I) (LkS_Seq (LkS_Put rfl LkE_V LkE_I) (LkS_Seq (LkS_Put rfl LkE_V LkE_I) (LkS_Seq (LkS_Do (LkE_CV lX12_clearBank (LkA_1 LkE_V (LkA_1 LkE_V LkA_0)))) (LkS_Seq (LkS_Do (LkE_CV lX12_readAll (LkA_1 LkE_V (LkA_1 LkE_V LkA_0)))) (LkS_Seq (LkS_Put rfl LkE_V (LkE_F rfl LkE_V)) (LkS_Seq (LkS_Put rfl LkE_V (LkE_F rfl LkE_V)) (LkS_Seq (LkS_If (LkC_B (LkE_F rfl LkE_V) LkE_I) (LkS_Ret LkE_I) LkS_Skip) (LkS_Seq (LkS_Put rfl LkE_V LkE_V) (LkS_Seq (LkS_Do (LkE_CV lX12_startAnew (LkA_1 LkE_V LkA_0))) (LkS_Ret (LkE_CV lX12_many (LkA_1 LkE_V LkA_0)))))))))))))))))
theorem lX12_store : LkM mX12_store := LkM_q l_sX12_store
theorem l_sX12_fault : LkS sX12_fault := (LkS_Ret (LkE_If (LkC_B LkE_V LkE_I) (LkE_F rfl LkE_V) (LkE_If (LkC_B LkE_V LkE_I) (LkE_F rfl LkE_V) LkE_I)))
theorem lX12_fault : LkM mX12_fault := LkM_q l_sX12_fault
theorem l_sX12_archivesNow : LkS sX12_archivesNow := (LkS_Ret (LkE_A rfl (LkE_F rfl LkE_V) (LkE_F rfl LkE_V)))
theorem lX12_archivesNow : LkM mX12_archivesNow := LkM_q l_sX12_archivesNow
theorem l_sX12_isMeasure : LkS sX12_isMeasure := (LkS_Ret (LkE_C lX12_isIn (LkA_1 LkE_V (LkA_1 LkE_I (LkA_1 (LkE_2 (LkE_CV lX12_many (LkA_1 LkE_V LkA_0)) LkE_I) LkA_0)))))
theorem lX12_isMeasure : LkM mX12_isMeasure := LkM_q l_sX12_isMeasure
theorem l_sX12_isArchive : LkS sX12_isArchive := (LkS_Ret (LkE_C lX12_isIn (LkA_1 LkE_V (LkA_1 LkE_I (LkA_1 (LkE_2 (LkE_CV lX12_archivesNow (LkA_1 LkE_V LkA_0)) LkE_I) LkA_0)))))
theorem lX12_isArchive : LkM mX12_isArchive := LkM_q l_sX12_isArchive
theorem l_sX12_isBoth : LkS sX12_isBoth := (LkS_Ret (LkE_B (LkC_And (LkC_E (LkE_CV lX12_isArchive (LkA_1 LkE_V (LkA_1 LkE_V LkA_0)))) (LkC_E (LkE_CV lX12_isMeasure (LkA_1 LkE_V (LkA_1 LkE_V LkA_0)))))))
theorem lX12_isBoth : LkM mX12_isBoth := LkM_q l_sX12_isBoth
theorem l_sX12_isFollowed : LkS sX12_isFollowed := (LkS_Ret (LkE_B (LkC_And (LkC_E (LkE_CV lX12_isMeasure (LkA_1 LkE_V (LkA_1 LkE_V LkA_0)))) (LkC_E (LkE_A rfl (LkE_F rfl LkE_V) (LkE_C lX12_own (LkA_1 (LkE_F rfl LkE_V) (LkA_1 LkE_V LkA_0))))))))
theorem lX12_isFollowed : LkM mX12_isFollowed := LkM_q l_sX12_isFollowed
theorem l_sX12_atGather : LkS sX12_atGather := (LkS_Ret (LkE_2 (LkE_2 LkE_I (LkE_2 LkE_I (LkE_2 (LkE_2 LkE_I LkE_V) LkE_V))) LkE_V))
theorem lX12_atGather : LkM mX12_atGather := LkM_q l_sX12_atGather
theorem l_sX12_atRow : LkS sX12_atRow := (LkS_Ret (LkE_2 (LkE_2 LkE_I (LkE_2 LkE_I (LkE_2 (LkE_2 LkE_I LkE_V) LkE_V))) LkE_V))
theorem lX12_atRow : LkM mX12_atRow := LkM_q l_sX12_atRow
theorem l_sX12_atForecast : LkS sX12_atForecast := (LkS_Ret (LkE_2 (LkE_2 LkE_I (LkE_2 LkE_I LkE_V)) LkE_V))
theorem lX12_atForecast : LkM mX12_atForecast := LkM_q l_sX12_atForecast
theorem l_sX12_width : LkS sX12_width := (LkS_Ret (LkE_2 LkE_I LkE_V))
theorem lX12_width : LkM mX12_width := LkM_q l_sX12_width
theorem l_sX12_isNumber : LkS sX12_isNumber := (LkS_Seq (LkS_Set (LkE_C lX12_own (LkA_1 (LkE_F rfl LkE_V) (LkA_1 LkE_V LkA_0)))) (LkS_Ret (LkE_B (LkC_And (LkC_E (LkE_C lX12_isIn (LkA_1 LkE_V (LkA_1 LkE_I (LkA_1 LkE_I LkA_0))))) (LkC_Or (LkC_B (LkE_A rfl (LkE_F rfl LkE_V) LkE_V) LkE_I) (LkC_B LkE_V (LkE_C lX12_width (LkA_1 (LkE_A rfl (LkE_F rfl LkE_V) LkE_V) LkA_0))))))))
theorem lX12_isNumber : LkM mX12_isNumber := LkM_q l_sX12_isNumber
theorem l_sX12_wentOn : LkS sX12_wentOn := (LkS_Seq (LkS_If (LkC_B LkE_V LkE_V) (LkS_Ret (LkE_2 LkE_V LkE_V)) LkS_Skip) (LkS_Seq (LkS_Set (LkE_2 (LkE_2 LkE_V LkE_V) (LkE_C lX12_width (LkA_1 LkE_V LkA_0)))) (LkS_Ret (LkE_If (LkC_B LkE_V LkE_I) LkE_V (LkE_2 (LkE_2 LkE_V LkE_V) (LkE_C lX12_width (LkA_1 LkE_V LkA_0)))))))
theorem lX12_wentOn : LkM mX12_wentOn := LkM_q l_sX12_wentOn
theorem l_sX12_rateOf : LkS sX12_rateOf := (LkS_Seq (LkS_Set (LkE_C lX12_own (LkA_1 (LkE_F rfl LkE_V) (LkA_1 LkE_V LkA_0)))) (LkS_Seq (LkS_Set (LkE_A rfl (LkE_F rfl LkE_V) (LkE_C lX12_atMeasure (LkA_1 LkE_V (LkA_1 LkE_I LkA_0))))) (LkS_Seq (LkS_If (LkC_Or (LkC_Or (LkC_B LkE_V (LkE_A rfl (LkE_F rfl LkE_V) (LkE_C lX12_atMeasure (LkA_1 LkE_V (LkA_1 LkE_I LkA_0))))) (LkC_Not (LkC_E (LkE_CV lX12_isNumber (LkA_1 LkE_V (LkA_1 LkE_V (LkA_1 LkE_V LkA_0))))))) (LkC_And (LkC_B (LkE_A rfl (LkE_F rfl LkE_V) LkE_V) LkE_I) (LkC_B LkE_V LkE_I))) (LkS_Ret LkE_I) LkS_Skip) (LkS_Seq (LkS_Set (LkE_2 LkE_I LkE_V)) (LkS_Seq (LkS_If (LkC_B (LkE_A rfl (LkE_F rfl LkE_V) LkE_V) LkE_I) (LkS_Set (LkE_D (LkE_2 LkE_I LkE_V) LkE_V)) LkS_Skip) (LkS_Seq (LkS_If (LkC_B (LkE_A rfl (LkE_F rfl LkE_V) LkE_V) LkE_I) (LkS_Set (LkE_D (LkE_2 LkE_I (LkE_C lX12_wentOn (LkA_1 LkE_V (LkA_1 LkE_V (LkA_1 (LkE_A rfl (LkE_F rfl LkE_V) LkE_V) (LkA_1 (LkE_A rfl (LkE_F rfl LkE_V) LkE_V) LkA_0)))))) LkE_V)) LkS_Skip) (LkS_Ret (LkE_If (LkC_E (LkE_C lX12_isIn (LkA_1 LkE_V (LkA_1 (LkE_2 LkE_I (LkE_A rfl (LkE_F rfl LkE_V) (LkE_C lX12_atMeasure (LkA_1 LkE_V (LkA_1 LkE_I LkA_0))))) (LkA_1 (LkE_2 LkE_I (LkE_A rfl (LkE_F rfl LkE_V) (LkE_C lX12_atMeasure (LkA_1 LkE_V (LkA_1 LkE_I LkA_0))))) LkA_0))))) LkE_V LkE_I))))))))
theorem lX12_rateOf : LkM mX12_rateOf := LkM_q l_sX12_rateOf
theorem l_sX12_canRead : LkS sX12_canRead := (LkS_Ret (LkE_B (LkC_And (LkC_E (LkE_C lX12_isIn (LkA_1 LkE_V (LkA_1 LkE_I (LkA_1 LkE_I LkA_0))))) (LkC_B (LkE_2 (LkE_A rfl (LkE_F rfl LkE_V) LkE_I) LkE_V) LkE_I))))
theorem lX12_canRead : LkM mX12_canRead := LkM_q l_sX12_canRead
theorem l_sX12_gatheredBy : LkS sX12_gatheredBy := (LkS_Seq (LkS_Set (LkE_C lX12_own (LkA_1 (LkE_F rfl LkE_V) (LkA_1 LkE_V LkA_0)))) (LkS_Seq (LkS_If (LkC_Or (LkC_B (LkE_A rfl (LkE_F rfl LkE_V) (LkE_C lX12_atGather (LkA_1 LkE_V (LkA_1 LkE_V (LkA_1 LkE_I LkA_0))))) LkE_I) (LkC_B (LkE_2 LkE_I (LkE_A rfl (LkE_F rfl LkE_V) (LkE_C lX12_atGather (LkA_1 LkE_V (LkA_1 LkE_V (LkA_1 LkE_I LkA_0)))))) (LkE_2 (LkE_A rfl (LkE_F rfl LkE_V) LkE_V) (LkE_A rfl (LkE_F rfl LkE_V) LkE_V)))) (LkS_Ret LkE_I) LkS_Skip) (LkS_Sw (LkE_A rfl (LkE_F rfl LkE_V) LkE_V) (LkF_1 (LkS_Ret (LkE_D (LkE_A rfl (LkE_F rfl LkE_V) (LkE_C lX12_atGather (LkA_1 LkE_V (LkA_1 LkE_V (LkA_1 LkE_I LkA_0))))) (LkE_A rfl (LkE_F rfl LkE_V) (LkE_C lX12_atGather (LkA_1 LkE_V (LkA_1 LkE_V (LkA_1 LkE_I LkA_0))))))) (LkF_1 (LkS_Ret (LkE_A rfl (LkE_F rfl LkE_V) (LkE_C lX12_atGather (LkA_1 LkE_V (LkA_1 LkE_V (LkA_1 LkE_I LkA_0)))))) (LkF_1 (LkS_Ret (LkE_A rfl (LkE_F rfl LkE_V) (LkE_C lX12_atGather (LkA_1 LkE_V (LkA_1 LkE_V (LkA_1 LkE_I LkA_0)))))) (LkF_0 (LkS_Ret (LkE_A rfl (LkE_F rfl LkE_V) (LkE_C lX12_atGather (LkA_1 LkE_V (LkA_1 LkE_V (LkA_1 LkE_I LkA_0)))))))))))))
theorem lX12_gatheredBy : LkM mX12_gatheredBy := LkM_q l_sX12_gatheredBy
theorem l_sX12_rowsKept : LkS sX12_rowsKept := (LkS_Ret (LkE_1 (LkE_A rfl (LkE_F rfl LkE_V) (LkE_2 LkE_I LkE_V))))
theorem lX12_rowsKept : LkM mX12_rowsKept := LkM_q l_sX12_rowsKept
theorem l_cX12_closeRow_2 : LkC cX12_closeRow_2 := (LkC_B LkE_V LkE_I)
theorem l_bX12_closeRow_2 : LkS bX12_closeRow_2 := (LkS_Arr rfl (LkE_F rfl LkE_V) (LkE_C lX12_atRow (LkA_1 LkE_V (LkA_1 LkE_V (LkA_1 LkE_V LkA_0)))) (LkE_A rfl (LkE_F rfl LkE_V) (LkE_C lX12_atRow (LkA_1 LkE_V (LkA_1 LkE_V (LkA_1 (LkE_2 LkE_V LkE_I) LkA_0))))))
theorem l_uX12_closeRow_2 : LkS uX12_closeRow_2 := LkS_Inc
theorem l_cX12_closeRow_3 : LkC cX12_closeRow_3 := (LkC_B LkE_V LkE_I)
theorem l_bX12_closeRow_3 : LkS bX12_closeRow_3 := (LkS_Arr rfl (LkE_F rfl LkE_V) (LkE_C lX12_atGather (LkA_1 LkE_V (LkA_1 LkE_V (LkA_1 LkE_V LkA_0)))) LkE_I)
theorem l_uX12_closeRow_3 : LkS uX12_closeRow_3 := LkS_Inc
theorem l_cX12_closeRow_1 : LkC cX12_closeRow_1 := (LkC_B LkE_V (LkE_CV lX12_many (LkA_1 LkE_V LkA_0)))
theorem l_bX12_closeRow_1 : LkS bX12_closeRow_1 := (LkS_Seq (LkS_Seq (LkS_Set LkE_I) (LkS_While l_cX12_closeRow_2 l_bX12_closeRow_2 l_uX12_closeRow_2)) (LkS_Seq (LkS_Arr rfl (LkE_F rfl LkE_V) (LkE_C lX12_atRow (LkA_1 LkE_V (LkA_1 LkE_V (LkA_1 LkE_I LkA_0)))) (LkE_CV lX12_gatheredBy (LkA_1 LkE_V (LkA_1 LkE_V (LkA_1 LkE_V LkA_0))))) (LkS_Seq (LkS_Set LkE_I) (LkS_While l_cX12_closeRow_3 l_bX12_closeRow_3 l_uX12_closeRow_3))))
theorem l_uX12_closeRow_1 : LkS uX12_closeRow_1 := LkS_Inc
theorem l_sX12_closeRow : LkS sX12_closeRow := (LkS_Seq (LkS_If (LkC_B (LkE_CV lX12_rowsKept (LkA_1 LkE_V (LkA_1 LkE_V LkA_0))) (LkE_A rfl (LkE_F rfl LkE_V) (LkE_C lX12_own (LkA_1 (LkE_F rfl LkE_V) (LkA_1 LkE_V LkA_0))))) (LkS_ArrC rfl (LkE_F rfl LkE_V) (LkE_2 LkE_I LkE_V) LkE_I) LkS_Skip) (LkS_Seq (LkS_Seq (LkS_Set LkE_I) (LkS_While l_cX12_closeRow_1 l_bX12_closeRow_1 l_uX12_closeRow_1)) LkS_RetV))
theorem lX12_closeRow : LkM mX12_closeRow := LkM_q l_sX12_closeRow
theorem l_cX12_keepTold_1 : LkC cX12_keepTold_1 := (LkC_B LkE_V LkE_I)
theorem l_bX12_keepTold_1 : LkS bX12_keepTold_1 := (LkS_Seq (LkS_Arr rfl (LkE_F rfl LkE_V) (LkE_C lX12_atForecast (LkA_1 LkE_V (LkA_1 (LkE_2 LkE_I LkE_V) LkA_0))) (LkE_A rfl (LkE_F rfl LkE_V) (LkE_C lX12_atForecast (LkA_1 LkE_V (LkA_1 (LkE_2 (LkE_2 LkE_I LkE_V) LkE_I) LkA_0))))) (LkS_Arr rfl (LkE_F rfl LkE_V) (LkE_C lX12_atForecast (LkA_1 LkE_V (LkA_1 (LkE_2 LkE_I LkE_V) LkA_0))) (LkE_A rfl (LkE_F rfl LkE_V) (LkE_C lX12_atForecast (LkA_1 LkE_V (LkA_1 (LkE_2 (LkE_2 LkE_I LkE_V) LkE_I) LkA_0))))))
theorem l_uX12_keepTold_1 : LkS uX12_keepTold_1 := LkS_Inc
theorem l_sX12_keepTold : LkS sX12_keepTold := (LkS_Seq (LkS_Seq (LkS_Set LkE_I) (LkS_While l_cX12_keepTold_1 l_bX12_keepTold_1 l_uX12_keepTold_1)) (LkS_Seq (LkS_Arr rfl (LkE_F rfl LkE_V) (LkE_C lX12_atForecast (LkA_1 LkE_V (LkA_1 LkE_I LkA_0))) LkE_V) (LkS_Seq (LkS_Arr rfl (LkE_F rfl LkE_V) (LkE_C lX12_atForecast (LkA_1 LkE_V (LkA_1 LkE_I LkA_0))) (LkE_If (LkC_E LkE_V) LkE_I LkE_I)) (LkS_Seq (LkS_If (LkC_B (LkE_A rfl (LkE_F rfl LkE_V) (LkE_C lX12_atForecast (LkA_1 LkE_V (LkA_1 LkE_I LkA_0)))) LkE_I) (LkS_ArrC rfl (LkE_F rfl LkE_V) (LkE_C lX12_atForecast (LkA_1 LkE_V (LkA_1 LkE_I LkA_0))) LkE_I) LkS_Skip) LkS_RetV))))
theorem lX12_keepTold : LkM mX12_keepTold := LkM_q l_sX12_keepTold
theorem l_sX12_mixed : LkS sX12_mixed := (LkS_Ret (LkE_C lX12_held (LkA_1 (LkE_D (LkE_2 (LkE_2 LkE_V LkE_V) (LkE_2 (LkE_2 LkE_I LkE_V) LkE_V)) LkE_I) LkA_0)))
theorem lX12_mixed : LkM mX12_mixed := LkM_q l_sX12_mixed
theorem l_sX12_learn : LkS sX12_learn := (LkS_Seq (LkS_Set (LkE_C lX12_own (LkA_1 (LkE_F rfl LkE_V) (LkA_1 LkE_V LkA_0)))) (LkS_Seq (LkS_Set (LkE_A rfl (LkE_F rfl LkE_V) (LkE_C lX12_atForecast (LkA_1 LkE_V (LkA_1 LkE_I LkA_0))))) (LkS_Seq (LkS_Set (LkE_A rfl (LkE_F rfl LkE_V) (LkE_C lX12_atForecast (LkA_1 LkE_V (LkA_1 LkE_I LkA_0))))) (LkS_Seq (LkS_Set (LkE_A rfl (LkE_F rfl LkE_V) (LkE_C lX12_atForecast (LkA_1 LkE_V (LkA_1 (LkE_2 LkE_I LkE_V) LkA_0))))) (LkS_Seq (LkS_Set (LkE_C lX12_mixed (LkA_1 (LkE_A rfl (LkE_F rfl LkE_V) LkE_V) (LkA_1 (LkE_2 LkE_V LkE_V) (LkA_1 (LkE_2 LkE_V LkE_V) LkA_0))))) (LkS_Seq (LkS_Arr rfl (LkE_F rfl LkE_V) (LkE_C lX12_atForecast (LkA_1 LkE_V (LkA_1 LkE_I LkA_0))) LkE_V) (LkS_Seq (LkS_Arr rfl (LkE_F rfl LkE_V) (LkE_C lX12_atForecast (LkA_1 LkE_V (LkA_1 LkE_I LkA_0))) (LkE_C lX12_mixed (LkA_1 (LkE_A rfl (LkE_F rfl LkE_V) LkE_V) (LkA_1 (LkE_2 LkE_V LkE_V) (LkA_1 LkE_V LkA_0))))) (LkS_Seq (LkS_Arr rfl (LkE_F rfl LkE_V) (LkE_C lX12_atForecast (LkA_1 LkE_V (LkA_1 (LkE_2 LkE_I LkE_V) LkA_0))) (LkE_C lX12_mixed (LkA_1 (LkE_A rfl (LkE_F rfl LkE_V) LkE_V) (LkA_1 (LkE_2 LkE_V LkE_V) (LkA_1 LkE_V LkA_0))))) (LkS_Seq (LkS_Arr rfl (LkE_F rfl LkE_V) (LkE_C lX12_atForecast (LkA_1 LkE_V (LkA_1 (LkE_2 LkE_I LkE_V) LkA_0))) (LkE_C lX12_mixed (LkA_1 (LkE_A rfl (LkE_F rfl LkE_V) LkE_V) (LkA_1 LkE_V (LkA_1 (LkE_A rfl (LkE_F rfl LkE_V) (LkE_C lX12_atForecast (LkA_1 LkE_V (LkA_1 (LkE_2 LkE_I LkE_V) LkA_0)))) LkA_0))))) LkS_RetV)))))))))
theorem lX12_learn : LkM mX12_learn := LkM_q l_sX12_learn
theorem l_sX12_placeNow : LkS sX12_placeNow := (LkS_Ret (LkE_1 (LkE_D (LkE_2 (LkE_A rfl (LkE_F rfl LkE_V) LkE_I) LkE_V) (LkE_A rfl (LkE_F rfl LkE_V) (LkE_C lX12_own (LkA_1 (LkE_F rfl LkE_V) (LkA_1 LkE_V LkA_0)))))))
theorem lX12_placeNow : LkM mX12_placeNow := LkM_q l_sX12_placeNow
theorem l_sX12_tells : LkS sX12_tells := (LkS_Ret (LkE_C lX12_held (LkA_1 (LkE_2 (LkE_2 (LkE_A rfl (LkE_F rfl LkE_V) (LkE_C lX12_atForecast (LkA_1 LkE_V (LkA_1 LkE_I LkA_0)))) (LkE_A rfl (LkE_F rfl LkE_V) (LkE_C lX12_atForecast (LkA_1 LkE_V (LkA_1 LkE_I LkA_0))))) (LkE_A rfl (LkE_F rfl LkE_V) (LkE_C lX12_atForecast (LkA_1 LkE_V (LkA_1 (LkE_2 LkE_I LkE_V) LkA_0))))) LkA_0)))
theorem lX12_tells : LkM mX12_tells := LkM_q l_sX12_tells
theorem l_sX12_follow : LkS sX12_follow := (LkS_Seq (LkS_If (LkC_B (LkE_A rfl (LkE_F rfl LkE_V) (LkE_C lX12_atForecast (LkA_1 LkE_V (LkA_1 LkE_I LkA_0)))) LkE_I) (LkS_Seq (LkS_If (LkC_B LkE_V LkE_I) LkS_RetV LkS_Skip) (LkS_Seq (LkS_Arr rfl (LkE_F rfl LkE_V) (LkE_C lX12_atForecast (LkA_1 LkE_V (LkA_1 LkE_I LkA_0))) LkE_I) (LkS_Seq (LkS_Arr rfl (LkE_F rfl LkE_V) (LkE_C lX12_atForecast (LkA_1 LkE_V (LkA_1 LkE_I LkA_0))) (LkE_C lX12_held (LkA_1 LkE_V LkA_0))) LkS_RetV))) LkS_Skip) (LkS_Seq (LkS_Set (LkE_CV lX12_placeNow (LkA_1 LkE_V (LkA_1 LkE_V (LkA_1 LkE_I LkA_0))))) (LkS_Seq (LkS_Set (LkE_CV lX12_tells (LkA_1 LkE_V (LkA_1 LkE_V (LkA_1 LkE_V LkA_0))))) (LkS_Seq (LkS_Set (LkE_If (LkC_B LkE_V LkE_V) (LkE_2 LkE_V LkE_V) (LkE_2 LkE_V LkE_V))) (LkS_Seq (LkS_Set (LkE_A rfl (LkE_F rfl LkE_V) (LkE_C lX12_atForecast (LkA_1 LkE_V (LkA_1 (LkE_2 LkE_I LkE_V) LkA_0))))) (LkS_Seq (LkS_Do (LkE_CV lX12_keepTold (LkA_1 LkE_V (LkA_1 LkE_V (LkA_1 LkE_V (LkA_1 (LkE_B (LkC_And (LkC_And (LkC_B LkE_V LkE_I) (LkC_B LkE_V LkE_I)) (LkC_B LkE_V (LkE_2 (LkE_A rfl (LkE_F rfl LkE_V) (LkE_C lX12_own (LkA_1 (LkE_F rfl LkE_V) (LkA_1 LkE_V LkA_0)))) LkE_V)))) LkA_0)))))) (LkS_Seq (LkS_If (LkC_B LkE_V LkE_I) (LkS_Arr rfl (LkE_F rfl LkE_V) (LkE_C lX12_atForecast (LkA_1 LkE_V (LkA_1 LkE_I LkA_0))) (LkE_C lX12_held (LkA_1 (LkE_2 (LkE_A rfl (LkE_F rfl LkE_V) (LkE_C lX12_atForecast (LkA_1 LkE_V (LkA_1 LkE_I LkA_0)))) (LkE_A rfl (LkE_F rfl LkE_V) (LkE_C lX12_atForecast (LkA_1 LkE_V (LkA_1 LkE_I LkA_0))))) LkA_0))) (LkS_Do (LkE_CV lX12_learn (LkA_1 LkE_V (LkA_1 LkE_V (LkA_1 LkE_V (LkA_1 LkE_V (LkA_1 LkE_V LkA_0)))))))) LkS_RetV)))))))
theorem lX12_follow : LkM mX12_follow := LkM_q l_sX12_follow
theorem l_sX12_gather : LkS sX12_gather := (LkS_Seq (LkS_If (LkC_B LkE_V LkE_I) (LkS_Seq (LkS_ArrC rfl (LkE_F rfl LkE_V) (LkE_C lX12_atGather (LkA_1 LkE_V (LkA_1 LkE_V (LkA_1 LkE_I LkA_0)))) LkE_I) LkS_RetV) LkS_Skip) (LkS_Seq (LkS_Set (LkE_B (LkC_B (LkE_A rfl (LkE_F rfl LkE_V) (LkE_C lX12_atGather (LkA_1 LkE_V (LkA_1 LkE_V (LkA_1 LkE_I LkA_0))))) LkE_I))) (LkS_Seq (LkS_ArrC rfl (LkE_F rfl LkE_V) (LkE_C lX12_atGather (LkA_1 LkE_V (LkA_1 LkE_V (LkA_1 LkE_I LkA_0)))) (LkE_2 LkE_V LkE_V)) (LkS_Seq (LkS_ArrC rfl (LkE_F rfl LkE_V) (LkE_C lX12_atGather (LkA_1 LkE_V (LkA_1 LkE_V (LkA_1 LkE_I LkA_0)))) LkE_V) (LkS_Seq (LkS_If (LkC_Or (LkC_E LkE_V) (LkC_B LkE_V (LkE_A rfl (LkE_F rfl LkE_V) (LkE_C lX12_atGather (LkA_1 LkE_V (LkA_1 LkE_V (LkA_1 LkE_I LkA_0))))))) (LkS_Arr rfl (LkE_F rfl LkE_V) (LkE_C lX12_atGather (LkA_1 LkE_V (LkA_1 LkE_V (LkA_1 LkE_I LkA_0)))) LkE_V) LkS_Skip) (LkS_Seq (LkS_If (LkC_Or (LkC_E LkE_V) (LkC_B LkE_V (LkE_A rfl (LkE_F rfl LkE_V) (LkE_C lX12_atGather (LkA_1 LkE_V (LkA_1 LkE_V (LkA_1 LkE_I LkA_0))))))) (LkS_Arr rfl (LkE_F rfl LkE_V) (LkE_C lX12_atGather (LkA_1 LkE_V (LkA_1 LkE_V (LkA_1 LkE_I LkA_0)))) LkE_V) LkS_Skip) (LkS_Seq (LkS_Arr rfl (LkE_F rfl LkE_V) (LkE_C lX12_atGather (LkA_1 LkE_V (LkA_1 LkE_V (LkA_1 LkE_I LkA_0)))) LkE_V) (LkS_Seq (LkS_ArrC rfl (LkE_F rfl LkE_V) (LkE_C lX12_atGather (LkA_1 LkE_V (LkA_1 LkE_V (LkA_1 LkE_I LkA_0)))) LkE_I) LkS_RetV))))))))
theorem lX12_gather : LkM mX12_gather := LkM_q l_sX12_gather
theorem l_sX12_reach : LkS sX12_reach := (LkS_Seq (LkS_If (LkC_Or (LkC_B (LkE_A rfl (LkE_F rfl LkE_V) (LkE_C lX12_atMeasure (LkA_1 LkE_V (LkA_1 LkE_I LkA_0)))) LkE_I) (LkC_B LkE_V (LkE_A rfl (LkE_F rfl LkE_V) (LkE_C lX12_atMeasure (LkA_1 LkE_V (LkA_1 LkE_I LkA_0)))))) (LkS_Arr rfl (LkE_F rfl LkE_V) (LkE_C lX12_atMeasure (LkA_1 LkE_V (LkA_1 LkE_I LkA_0))) LkE_V) LkS_Skip) (LkS_Seq (LkS_If (LkC_Or (LkC_B (LkE_A rfl (LkE_F rfl LkE_V) (LkE_C lX12_atMeasure (LkA_1 LkE_V (LkA_1 LkE_I LkA_0)))) LkE_I) (LkC_B LkE_V (LkE_A rfl (LkE_F rfl LkE_V) (LkE_C lX12_atMeasure (LkA_1 LkE_V (LkA_1 LkE_I LkA_0)))))) (LkS_Arr rfl (LkE_F rfl LkE_V) (LkE_C lX12_atMeasure (LkA_1 LkE_V (LkA_1 LkE_I LkA_0))) LkE_V) LkS_Skip) LkS_RetV))
theorem lX12_reach : LkM mX12_reach := LkM_q l_sX12_reach
theorem l_cX12_closeStep_2 : LkC cX12_closeStep_2 := (LkC_B LkE_V (LkE_CV lX12_archivesNow (LkA_1 LkE_V LkA_0)))
theorem l_bX12_closeStep_2 : LkS bX12_closeStep_2 := (LkS_Do (LkE_CV lX12_gather (LkA_1 LkE_V (LkA_1 LkE_V (LkA_1 LkE_V (LkA_1 LkE_V (LkA_1 LkE_V LkA_0)))))))
theorem l_uX12_closeStep_2 : LkS uX12_closeStep_2 := LkS_Inc
theorem l_cX12_closeStep_1 : LkC cX12_closeStep_1 := (LkC_B LkE_V (LkE_CV lX12_many (LkA_1 LkE_V LkA_0)))
theorem l_bX12_closeStep_1 : LkS bX12_closeStep_1 := (LkS_Seq (LkS_Set (LkE_A rfl (LkE_F rfl LkE_V) (LkE_C lX12_atMeasure (LkA_1 LkE_V (LkA_1 LkE_I LkA_0))))) (LkS_Seq (LkS_Set (LkE_B (LkC_B (LkE_2 LkE_I (LkE_2 (LkE_A rfl (LkE_F rfl LkE_V) (LkE_F rfl LkE_V)) LkE_V)) (LkE_A rfl (LkE_F rfl LkE_V) (LkE_F rfl LkE_V))))) (LkS_Seq (LkS_Set (LkE_If (LkC_E LkE_V) (LkE_D (LkE_A rfl (LkE_F rfl LkE_V) (LkE_C lX12_atMeasure (LkA_1 LkE_V (LkA_1 LkE_I LkA_0)))) LkE_V) LkE_I)) (LkS_Seq (LkS_Arr rfl (LkE_F rfl LkE_V) (LkE_C lX12_atMeasure (LkA_1 LkE_V (LkA_1 LkE_I LkA_0))) LkE_V) (LkS_Seq (LkS_Arr rfl (LkE_F rfl LkE_V) (LkE_C lX12_atMeasure (LkA_1 LkE_V (LkA_1 LkE_I LkA_0))) LkE_V) (LkS_Seq (LkS_Arr rfl (LkE_F rfl LkE_V) (LkE_C lX12_atMeasure (LkA_1 LkE_V (LkA_1 LkE_I LkA_0))) LkE_I) (LkS_Seq (LkS_Arr rfl (LkE_F rfl LkE_V) (LkE_C lX12_atMeasure (LkA_1 LkE_V (LkA_1 LkE_I LkA_0))) LkE_I) (LkS_Seq (LkS_If (LkC_E LkE_V) (LkS_Do (LkE_CV lX12_reach (LkA_1 LkE_V (LkA_1 LkE_V (LkA_1 LkE_V LkA_0))))) LkS_Skip) (LkS_Seq (LkS_Seq (LkS_Set LkE_I) (LkS_While l_cX12_closeStep_2 l_bX12_closeStep_2 l_uX12_closeStep_2)) (LkS_If (LkC_E (LkE_CV lX12_isFollowed (LkA_1 LkE_V (LkA_1 LkE_V LkA_0)))) (LkS_Do (LkE_CV lX12_follow (LkA_1 LkE_V (LkA_1 LkE_V (LkA_1 LkE_V LkA_0))))) LkS_Skip))))))))))
theorem l_uX12_closeStep_1 : LkS uX12_closeStep_1 := LkS_Inc
theorem l_cX12_closeStep_3 : LkC cX12_closeStep_3 := (LkC_B LkE_V (LkE_CV lX12_archivesNow (LkA_1 LkE_V LkA_0)))
theorem l_bX12_closeStep_3 : LkS bX12_closeStep_3 := (LkS_If (LkC_B (LkE_D (LkE_A rfl (LkE_F rfl LkE_V) LkE_I) (LkE_A rfl (LkE_F rfl LkE_V) (LkE_C lX12_own (LkA_1 (LkE_F rfl LkE_V) (LkA_1 LkE_V LkA_0))))) LkE_I) (LkS_Do (LkE_CV lX12_closeRow (LkA_1 LkE_V (LkA_1 LkE_V LkA_0)))) LkS_Skip)
theorem l_uX12_closeStep_3 : LkS uX12_closeStep_3 := LkS_Inc
theorem l_sX12_closeStep : LkS sX12_closeStep := (LkS_Seq (LkS_Seq (LkS_Set LkE_I) (LkS_While l_cX12_closeStep_1 l_bX12_closeStep_1 l_uX12_closeStep_1)) (LkS_Seq (LkS_ArrC rfl (LkE_F rfl LkE_V) LkE_I LkE_I) (LkS_Seq (LkS_Seq (LkS_Set LkE_I) (LkS_While l_cX12_closeStep_3 l_bX12_closeStep_3 l_uX12_closeStep_3)) LkS_RetV)))
theorem lX12_closeStep : LkM mX12_closeStep := LkM_q l_sX12_closeStep
theorem l_cX12_goRead_1 : LkC cX12_goRead_1 := (LkC_B LkE_V (LkE_CV lX12_many (LkA_1 LkE_V LkA_0)))
theorem l_bX12_goRead_1 : LkS bX12_goRead_1 := (LkS_Seq (LkS_Arr rfl (LkE_F rfl LkE_V) (LkE_C lX12_atMeasure (LkA_1 LkE_V (LkA_1 LkE_I LkA_0))) (LkE_CV lX12_rateOf (LkA_1 LkE_V (LkA_1 LkE_V (LkA_1 (LkE_A rfl (LkE_F rfl LkE_V) LkE_V) (LkA_1 LkE_V LkA_0)))))) (LkS_If (LkC_B (LkE_A rfl (LkE_F rfl LkE_V) (LkE_C lX12_own (LkA_1 (LkE_F rfl LkE_V) (LkA_1 LkE_V LkA_0)))) LkE_I) (LkS_Arr rfl (LkE_F rfl LkE_V) (LkE_C lX12_atMeasure (LkA_1 LkE_V (LkA_1 LkE_I LkA_0))) (LkE_If (LkC_E (LkE_CV lX12_isNumber (LkA_1 LkE_V (LkA_1 LkE_V (LkA_1 (LkE_A rfl (LkE_F rfl LkE_V) LkE_V) LkA_0))))) (LkE_A rfl (LkE_F rfl LkE_V) LkE_V) LkE_I)) LkS_Skip))
theorem l_uX12_goRead_1 : LkS uX12_goRead_1 := LkS_Inc
theorem l_cX12_goRead_3 : LkC cX12_goRead_3 := (LkC_B LkE_V (LkE_CV lX12_many (LkA_1 LkE_V LkA_0)))
theorem l_bX12_goRead_3 : LkS bX12_goRead_3 := (LkS_Seq (LkS_If (LkC_B (LkE_A rfl (LkE_F rfl LkE_V) (LkE_C lX12_atMeasure (LkA_1 LkE_V (LkA_1 LkE_I LkA_0)))) LkE_I) LkS_Cnt LkS_Skip) (LkS_Seq (LkS_ArrC rfl (LkE_F rfl LkE_V) (LkE_C lX12_atMeasure (LkA_1 LkE_V (LkA_1 LkE_I LkA_0))) (LkE_A rfl (LkE_F rfl LkE_V) (LkE_C lX12_atMeasure (LkA_1 LkE_V (LkA_1 LkE_I LkA_0))))) (LkS_ArrC rfl (LkE_F rfl LkE_V) (LkE_C lX12_atMeasure (LkA_1 LkE_V (LkA_1 LkE_I LkA_0))) LkE_I)))
theorem l_uX12_goRead_3 : LkS uX12_goRead_3 := LkS_Inc
theorem l_cX12_goRead_2 : LkC cX12_goRead_2 := (LkC_B LkE_V LkE_V)
theorem l_bX12_goRead_2 : LkS bX12_goRead_2 := (LkS_Seq (LkS_ArrC rfl (LkE_F rfl LkE_V) LkE_I LkE_I) (LkS_Seq (LkS_Seq (LkS_Set LkE_I) (LkS_While l_cX12_goRead_3 l_bX12_goRead_3 l_uX12_goRead_3)) (LkS_Seq (LkS_If (LkC_B (LkE_D (LkE_A rfl (LkE_F rfl LkE_V) LkE_I) (LkE_A rfl (LkE_F rfl LkE_V) (LkE_F rfl LkE_V))) LkE_I) LkS_Cnt LkS_Skip) (LkS_Seq (LkS_Do (LkE_CV lX12_closeStep (LkA_1 LkE_V LkA_0))) LkS_Inc))))
theorem l_uX12_goRead_2 : LkS uX12_goRead_2 := LkS_Inc
theorem l_sX12_goRead : LkS sX12_goRead := (LkS_Seq (LkS_ArrC rfl (LkE_F rfl LkE_V) LkE_I LkE_I) (LkS_Seq (LkS_Seq (LkS_Set LkE_I) (LkS_While l_cX12_goRead_1 l_bX12_goRead_1 l_uX12_goRead_1)) (LkS_Seq (LkS_Set LkE_I) (LkS_Seq (LkS_Seq (LkS_Set LkE_I) (LkS_While l_cX12_goRead_2 l_bX12_goRead_2 l_uX12_goRead_2)) (LkS_Ret LkE_V)))))
theorem lX12_goRead : LkM mX12_goRead := LkM_q l_sX12_goRead
theorem l_sX12_give : LkS sX12_give := (LkS_Seq (LkS_Arr rfl (LkE_F rfl LkE_V) LkE_I LkE_V) (LkS_Seq (LkS_Arr rfl (LkE_F rfl LkE_V) LkE_I LkE_V) (LkS_Seq (LkS_Arr rfl (LkE_F rfl LkE_V) LkE_I LkE_V) (LkS_Seq (LkS_Arr rfl (LkE_F rfl LkE_V) LkE_I LkE_V) LkS_RetV))))
theorem lX12_give : LkM mX12_give := LkM_q l_sX12_give
theorem l_cX12_keepAct_1 : LkC cX12_keepAct_1 := (LkC_B LkE_V LkE_I)
theorem l_bX12_keepAct_1 : LkS bX12_keepAct_1 := (LkS_Arr rfl (LkE_F rfl LkE_V) LkE_V (LkE_A rfl (LkE_F rfl LkE_V) (LkE_2 LkE_V LkE_I)))
theorem l_uX12_keepAct_1 : LkS uX12_keepAct_1 := LkS_Inc
theorem l_cX12_keepAct_2 : LkC cX12_keepAct_2 := (LkC_B LkE_V LkE_I)
theorem l_bX12_keepAct_2 : LkS bX12_keepAct_2 := (LkS_Arr rfl (LkE_F rfl LkE_V) (LkE_2 (LkE_2 LkE_I (LkE_F rfl LkE_V)) LkE_V) (LkE_A rfl (LkE_F rfl LkE_V) LkE_V))
theorem l_uX12_keepAct_2 : LkS uX12_keepAct_2 := LkS_Inc
theorem l_sX12_keepAct : LkS sX12_keepAct := (LkS_Seq (LkS_If (LkC_B (LkE_F rfl LkE_V) LkE_I) (LkS_Seq (LkS_Seq (LkS_Set LkE_I) (LkS_While l_cX12_keepAct_1 l_bX12_keepAct_1 l_uX12_keepAct_1)) (LkS_PutC rfl LkE_V LkE_I)) LkS_Skip) (LkS_Seq (LkS_Seq (LkS_Set LkE_I) (LkS_While l_cX12_keepAct_2 l_bX12_keepAct_2 l_uX12_keepAct_2)) (LkS_Seq (LkS_PutC rfl LkE_V LkE_I) (LkS_Seq (LkS_Put rfl LkE_V LkE_I) LkS_RetV))))
theorem lX12_keepAct : LkM mX12_keepAct := LkM_q l_sX12_keepAct
theorem l_sX12_read : LkS sX12_read := (LkS_Seq (LkS_If (LkC_Not (LkC_E (LkE_CV lX12_canRead (LkA_1 LkE_V (LkA_1 LkE_V LkA_0))))) (LkS_Ret LkE_I) LkS_Skip) (LkS_Seq (LkS_Do (LkE_CV lX12_keepAct (LkA_1 LkE_V LkA_0))) (LkS_Seq (LkS_Do (LkE_CV lX12_give (LkA_1 LkE_V (LkA_1 LkE_V (LkA_1 LkE_V (LkA_1 LkE_V (LkA_1 LkE_V LkA_0))))))) (LkS_Ret (LkE_CV lX12_goRead (LkA_1 LkE_V (LkA_1 LkE_V LkA_0)))))))
theorem lX12_read : LkM mX12_read := LkM_q l_sX12_read
theorem l_sX12_canTurn : LkS sX12_canTurn := (LkS_Seq (LkS_If (LkC_Or (LkC_Not (LkC_E (LkE_CV lX12_isMeasure (LkA_1 LkE_V (LkA_1 LkE_V LkA_0))))) (LkC_Not (LkC_E (LkE_C lX12_isIn (LkA_1 LkE_V (LkA_1 LkE_I (LkA_1 LkE_I LkA_0))))))) (LkS_Ret LkE_I) LkS_Skip) (LkS_Seq (LkS_If (LkC_B LkE_V LkE_I) (LkS_Ret (LkE_C lX12_isIn (LkA_1 LkE_V (LkA_1 LkE_I (LkA_1 LkE_I LkA_0))))) LkS_Skip) (LkS_Ret (LkE_If (LkC_B LkE_V LkE_I) (LkE_C lX12_isIn (LkA_1 LkE_V (LkA_1 LkE_I (LkA_1 (LkE_A rfl (LkE_F rfl LkE_V) (LkE_C lX12_atMeasure (LkA_1 LkE_V (LkA_1 LkE_I LkA_0)))) LkA_0)))) (LkE_C lX12_isIn (LkA_1 LkE_V (LkA_1 (LkE_A rfl (LkE_F rfl LkE_V) (LkE_C lX12_atMeasure (LkA_1 LkE_V (LkA_1 LkE_I LkA_0)))) (LkA_1 LkE_I LkA_0))))))))
theorem lX12_canTurn : LkM mX12_canTurn := LkM_q l_sX12_canTurn
theorem l_sX12_turn : LkS sX12_turn := (LkS_Seq (LkS_If (LkC_Not (LkC_E (LkE_CV lX12_canTurn (LkA_1 LkE_V (LkA_1 LkE_V (LkA_1 LkE_V (LkA_1 LkE_V LkA_0))))))) (LkS_Ret LkE_I) LkS_Skip) (LkS_Seq (LkS_Do (LkE_CV lX12_keepAct (LkA_1 LkE_V LkA_0))) (LkS_Seq (LkS_Set (LkE_1 (LkE_A rfl (LkE_F rfl LkE_V) (LkE_C lX12_atMeasure (LkA_1 LkE_V (LkA_1 LkE_V LkA_0)))))) (LkS_Seq (LkS_Arr rfl (LkE_F rfl LkE_V) (LkE_C lX12_atMeasure (LkA_1 LkE_V (LkA_1 LkE_V LkA_0))) LkE_V) (LkS_Ret LkE_V)))))
theorem lX12_turn : LkM mX12_turn := LkM_q l_sX12_turn
theorem l_sX12_measure : LkS sX12_measure := (LkS_Seq (LkS_If (LkC_Not (LkC_E (LkE_CV lX12_isMeasure (LkA_1 LkE_V (LkA_1 LkE_V LkA_0))))) (LkS_Ret LkE_I) LkS_Skip) (LkS_Sw LkE_V (LkF_1 (LkS_Ret (LkE_1 (LkE_A rfl (LkE_F rfl LkE_V) (LkE_C lX12_atMeasure (LkA_1 LkE_V (LkA_1 LkE_V LkA_0)))))) (LkF_1 (LkS_Ret (LkE_A rfl (LkE_F rfl LkE_V) (LkE_C lX12_own (LkA_1 (LkE_F rfl LkE_V) (LkA_1 LkE_V LkA_0))))) (LkF_1 (LkS_Ret (LkE_1 (LkE_A rfl (LkE_F rfl LkE_V) (LkE_C lX12_atMeasure (LkA_1 LkE_V (LkA_1 LkE_I LkA_0)))))) (LkF_1 (LkS_Ret (LkE_1 (LkE_A rfl (LkE_F rfl LkE_V) (LkE_C lX12_atMeasure (LkA_1 LkE_V (LkA_1 LkE_I LkA_0)))))) (LkF_0 (LkS_Ret LkE_I))))))))
theorem lX12_measure : LkM mX12_measure := LkM_q l_sX12_measure
theorem l_sX12_rate : LkS sX12_rate := (LkS_Ret (LkE_If (LkC_E (LkE_CV lX12_isMeasure (LkA_1 LkE_V (LkA_1 LkE_V LkA_0)))) (LkE_1 (LkE_A rfl (LkE_F rfl LkE_V) (LkE_C lX12_atMeasure (LkA_1 LkE_V (LkA_1 LkE_I LkA_0))))) LkE_I))
theorem lX12_rate : LkM mX12_rate := LkM_q l_sX12_rate
theorem l_sX12_value : LkS sX12_value := (LkS_Ret (LkE_If (LkC_E (LkE_CV lX12_isMeasure (LkA_1 LkE_V (LkA_1 LkE_V LkA_0)))) (LkE_1 (LkE_A rfl (LkE_F rfl LkE_V) (LkE_C lX12_atMeasure (LkA_1 LkE_V (LkA_1 LkE_I LkA_0))))) LkE_I))
theorem lX12_value : LkM mX12_value := LkM_q l_sX12_value
theorem l_sX12_unitsOf : LkS sX12_unitsOf := (LkS_Ret (LkE_2 (LkE_A rfl (LkE_F rfl LkE_V) (LkE_C lX12_own (LkA_1 (LkE_F rfl LkE_V) (LkA_1 LkE_V LkA_0)))) (LkE_A rfl (LkE_F rfl LkE_V) (LkE_F rfl LkE_V))))
theorem lX12_unitsOf : LkM mX12_unitsOf := LkM_q l_sX12_unitsOf
theorem l_sX12_overAt : LkS sX12_overAt := (LkS_Ret (LkE_2 (LkE_1 (LkE_D (LkE_A rfl (LkE_F rfl LkE_V) LkE_I) (LkE_A rfl (LkE_F rfl LkE_V) (LkE_C lX12_own (LkA_1 (LkE_F rfl LkE_V) (LkA_1 LkE_V LkA_0)))))) (LkE_CV lX12_unitsOf (LkA_1 LkE_V (LkA_1 LkE_V LkA_0)))))
theorem lX12_overAt : LkM mX12_overAt := LkM_q l_sX12_overAt
theorem l_sX12_archive : LkS sX12_archive := (LkS_Seq (LkS_If (LkC_Not (LkC_E (LkE_CV lX12_isArchive (LkA_1 LkE_V (LkA_1 LkE_V LkA_0))))) (LkS_Ret LkE_I) LkS_Skip) (LkS_Seq (LkS_Set (LkE_C lX12_own (LkA_1 (LkE_F rfl LkE_V) (LkA_1 LkE_V LkA_0)))) (LkS_Sw LkE_V (LkF_1 (LkS_Ret (LkE_A rfl (LkE_F rfl LkE_V) LkE_V)) (LkF_1 (LkS_Ret (LkE_A rfl (LkE_F rfl LkE_V) LkE_V)) (LkF_1 (LkS_Ret (LkE_A rfl (LkE_F rfl LkE_V) LkE_V)) (LkF_1 (LkS_Ret (LkE_A rfl (LkE_F rfl LkE_V) LkE_V)) (LkF_1 (LkS_Ret (LkE_CV lX12_rowsKept (LkA_1 LkE_V (LkA_1 LkE_V LkA_0)))) (LkF_1 (LkS_Ret (LkE_If (LkC_B (LkE_CV lX12_rowsKept (LkA_1 LkE_V (LkA_1 LkE_V LkA_0))) LkE_I) LkE_I (LkE_CV lX12_overAt (LkA_1 LkE_V (LkA_1 LkE_V LkA_0))))) (LkF_1 (LkS_Ret (LkE_1 (LkE_D (LkE_A rfl (LkE_F rfl LkE_V) LkE_I) (LkE_A rfl (LkE_F rfl LkE_V) LkE_V)))) (LkF_0 (LkS_Ret LkE_I))))))))))))
theorem lX12_archive : LkM mX12_archive := LkM_q l_sX12_archive
theorem l_sX12_isRow : LkS sX12_isRow := (LkS_Ret (LkE_B (LkC_And (LkC_E (LkE_CV lX12_isBoth (LkA_1 LkE_V (LkA_1 LkE_V (LkA_1 LkE_V LkA_0))))) (LkC_E (LkE_C lX12_isIn (LkA_1 LkE_V (LkA_1 LkE_I (LkA_1 (LkE_2 (LkE_CV lX12_rowsKept (LkA_1 LkE_V (LkA_1 LkE_V LkA_0))) LkE_I) LkA_0))))))))
theorem lX12_isRow : LkM mX12_isRow := LkM_q l_sX12_isRow
theorem l_sX12_row : LkS sX12_row := (LkS_Ret (LkE_If (LkC_E (LkE_CV lX12_isRow (LkA_1 LkE_V (LkA_1 LkE_V (LkA_1 LkE_V (LkA_1 LkE_V LkA_0)))))) (LkE_1 (LkE_A rfl (LkE_F rfl LkE_V) (LkE_C lX12_atRow (LkA_1 LkE_V (LkA_1 LkE_V (LkA_1 LkE_V LkA_0)))))) LkE_I))
theorem lX12_row : LkM mX12_row := LkM_q l_sX12_row
theorem l_sX12_beginOf : LkS sX12_beginOf := (LkS_Ret (LkE_2 (LkE_CV lX12_overAt (LkA_1 LkE_V (LkA_1 LkE_V LkA_0))) (LkE_2 (LkE_CV lX12_unitsOf (LkA_1 LkE_V (LkA_1 LkE_V LkA_0))) (LkE_2 LkE_V LkE_I))))
theorem lX12_beginOf : LkM mX12_beginOf := LkM_q l_sX12_beginOf
theorem l_cX12_rowAt_1 : LkC cX12_rowAt_1 := (LkC_B LkE_V (LkE_CV lX12_rowsKept (LkA_1 LkE_V (LkA_1 LkE_V LkA_0))))
theorem l_bX12_rowAt_1 : LkS bX12_rowAt_1 := (LkS_If (LkC_E (LkE_C lX12_isIn (LkA_1 LkE_V (LkA_1 (LkE_2 (LkE_CV lX12_beginOf (LkA_1 LkE_V (LkA_1 LkE_V (LkA_1 LkE_V LkA_0)))) LkE_I) (LkA_1 (LkE_2 (LkE_CV lX12_beginOf (LkA_1 LkE_V (LkA_1 LkE_V (LkA_1 LkE_V LkA_0)))) (LkE_CV lX12_unitsOf (LkA_1 LkE_V (LkA_1 LkE_V LkA_0)))) LkA_0))))) (LkS_Ret LkE_V) LkS_Skip)
theorem l_uX12_rowAt_1 : LkS uX12_rowAt_1 := LkS_Inc
theorem l_sX12_rowAt : LkS sX12_rowAt := (LkS_Seq (LkS_If (LkC_Not (LkC_E (LkE_CV lX12_isArchive (LkA_1 LkE_V (LkA_1 LkE_V LkA_0))))) (LkS_Ret LkE_I) LkS_Skip) (LkS_Seq (LkS_Seq (LkS_Set LkE_I) (LkS_While l_cX12_rowAt_1 l_bX12_rowAt_1 l_uX12_rowAt_1)) (LkS_Ret LkE_I)))
theorem lX12_rowAt : LkM mX12_rowAt := LkM_q l_sX12_rowAt
theorem l_sX12_isWithin : LkS sX12_isWithin := (LkS_Ret (LkE_B (LkC_And (LkC_B (LkE_CV lX12_beginOf (LkA_1 LkE_V (LkA_1 LkE_V (LkA_1 LkE_V LkA_0)))) LkE_V) (LkC_B (LkE_2 (LkE_CV lX12_beginOf (LkA_1 LkE_V (LkA_1 LkE_V (LkA_1 LkE_V LkA_0)))) (LkE_CV lX12_unitsOf (LkA_1 LkE_V (LkA_1 LkE_V LkA_0)))) LkE_V))))
theorem lX12_isWithin : LkM mX12_isWithin := LkM_q l_sX12_isWithin
theorem l_cX12_laySpan_1 : LkC cX12_laySpan_1 := (LkC_B LkE_V (LkE_CV lX12_rowsKept (LkA_1 LkE_V (LkA_1 LkE_V LkA_0))))
theorem l_bX12_laySpan_1 : LkS bX12_laySpan_1 := (LkS_Seq (LkS_If (LkC_Not (LkC_E (LkE_CV lX12_isWithin (LkA_1 LkE_V (LkA_1 LkE_V (LkA_1 LkE_V (LkA_1 LkE_V (LkA_1 LkE_V LkA_0)))))))) LkS_Cnt LkS_Skip) (LkS_Seq (LkS_PutC rfl LkE_V LkE_I) (LkS_Seq (LkS_Set (LkE_A rfl (LkE_F rfl LkE_V) (LkE_C lX12_atRow (LkA_1 LkE_V (LkA_1 LkE_V (LkA_1 LkE_V LkA_0)))))) (LkS_Seq (LkS_If (LkC_B LkE_V LkE_I) LkS_Cnt LkS_Skip) (LkS_Seq (LkS_If (LkC_Or (LkC_B (LkE_F rfl LkE_V) LkE_I) (LkC_B LkE_V (LkE_F rfl LkE_V))) (LkS_Put rfl LkE_V LkE_V) LkS_Skip) (LkS_Seq (LkS_If (LkC_Or (LkC_B (LkE_F rfl LkE_V) LkE_I) (LkC_B LkE_V (LkE_F rfl LkE_V))) (LkS_Put rfl LkE_V LkE_V) LkS_Skip) (LkS_Seq (LkS_PutC rfl LkE_V LkE_I) (LkS_PutC rfl LkE_V LkE_V))))))))
theorem l_uX12_laySpan_1 : LkS uX12_laySpan_1 := LkS_Inc
theorem l_sX12_laySpan : LkS sX12_laySpan := (LkS_Seq (LkS_Put rfl LkE_V LkE_I) (LkS_Seq (LkS_Put rfl LkE_V LkE_I) (LkS_Seq (LkS_Put rfl LkE_V LkE_I) (LkS_Seq (LkS_Put rfl LkE_V LkE_I) (LkS_Seq (LkS_Put rfl LkE_V LkE_I) (LkS_Seq (LkS_Seq (LkS_Set LkE_I) (LkS_While l_cX12_laySpan_1 l_bX12_laySpan_1 l_uX12_laySpan_1)) LkS_RetV))))))
theorem lX12_laySpan : LkM mX12_laySpan := LkM_q l_sX12_laySpan
theorem l_sX12_over : LkS sX12_over := (LkS_Seq (LkS_If (LkC_Not (LkC_E (LkE_CV lX12_isBoth (LkA_1 LkE_V (LkA_1 LkE_V (LkA_1 LkE_V LkA_0)))))) (LkS_Ret LkE_I) LkS_Skip) (LkS_Seq (LkS_Do (LkE_CV lX12_laySpan (LkA_1 LkE_V (LkA_1 LkE_V (LkA_1 LkE_V (LkA_1 LkE_V (LkA_1 LkE_V LkA_0))))))) (LkS_Sw LkE_V (LkF_1 (LkS_Ret (LkE_F rfl LkE_V)) (LkF_1 (LkS_Ret (LkE_F rfl LkE_V)) (LkF_1 (LkS_Ret (LkE_If (LkC_B (LkE_F rfl LkE_V) LkE_I) LkE_I (LkE_1 (LkE_D (LkE_F rfl LkE_V) (LkE_F rfl LkE_V))))) (LkF_1 (LkS_Ret (LkE_1 (LkE_F rfl LkE_V))) (LkF_1 (LkS_Ret (LkE_1 (LkE_F rfl LkE_V))) (LkF_1 (LkS_Ret (LkE_2 (LkE_2 (LkE_F rfl LkE_V) (LkE_F rfl LkE_V)) (LkE_CV lX12_unitsOf (LkA_1 LkE_V (LkA_1 LkE_V LkA_0))))) (LkF_0 (LkS_Ret LkE_I)))))))))))
theorem lX12_over : LkM mX12_over := LkM_q l_sX12_over
theorem l_sX12_total : LkS sX12_total := (LkS_Seq (LkS_If (LkC_Not (LkC_E (LkE_CV lX12_isBoth (LkA_1 LkE_V (LkA_1 LkE_V (LkA_1 LkE_V LkA_0)))))) (LkS_Ret LkE_I) LkS_Skip) (LkS_Seq (LkS_Do (LkE_CV lX12_laySpan (LkA_1 LkE_V (LkA_1 LkE_V (LkA_1 LkE_V (LkA_1 LkE_V (LkA_1 LkE_V LkA_0))))))) (LkS_Ret (LkE_D (LkE_2 (LkE_F rfl LkE_V) (LkE_CV lX12_unitsOf (LkA_1 LkE_V (LkA_1 LkE_V LkA_0)))) LkE_I))))
theorem lX12_total : LkM mX12_total := LkM_q l_sX12_total
theorem l_cX12_knownRows_1 : LkC cX12_knownRows_1 := (LkC_B LkE_V (LkE_CV lX12_rowsKept (LkA_1 LkE_V (LkA_1 LkE_V LkA_0))))
theorem l_bX12_knownRows_1 : LkS bX12_knownRows_1 := (LkS_Set (LkE_2 LkE_V (LkE_If (LkC_B (LkE_A rfl (LkE_F rfl LkE_V) (LkE_C lX12_atRow (LkA_1 LkE_V (LkA_1 LkE_V (LkA_1 LkE_V LkA_0))))) LkE_I) LkE_I LkE_I)))
theorem l_uX12_knownRows_1 : LkS uX12_knownRows_1 := LkS_Inc
theorem l_sX12_knownRows : LkS sX12_knownRows := (LkS_Seq (LkS_Set LkE_I) (LkS_Seq (LkS_Seq (LkS_Set LkE_I) (LkS_While l_cX12_knownRows_1 l_bX12_knownRows_1 l_uX12_knownRows_1)) (LkS_Ret LkE_V)))
theorem lX12_knownRows : LkM mX12_knownRows := LkM_q l_sX12_knownRows
theorem l_cX12_noGreater_1 : LkC cX12_noGreater_1 := (LkC_B LkE_V (LkE_CV lX12_rowsKept (LkA_1 LkE_V (LkA_1 LkE_V LkA_0))))
theorem l_bX12_noGreater_1 : LkS bX12_noGreater_1 := (LkS_Set (LkE_2 LkE_V (LkE_If (LkC_And (LkC_B (LkE_A rfl (LkE_F rfl LkE_V) (LkE_C lX12_atRow (LkA_1 LkE_V (LkA_1 LkE_V (LkA_1 LkE_V LkA_0))))) LkE_I) (LkC_B (LkE_A rfl (LkE_F rfl LkE_V) (LkE_C lX12_atRow (LkA_1 LkE_V (LkA_1 LkE_V (LkA_1 LkE_V LkA_0))))) LkE_V)) LkE_I LkE_I)))
theorem l_uX12_noGreater_1 : LkS uX12_noGreater_1 := LkS_Inc
theorem l_sX12_noGreater : LkS sX12_noGreater := (LkS_Seq (LkS_Set LkE_I) (LkS_Seq (LkS_Seq (LkS_Set LkE_I) (LkS_While l_cX12_noGreater_1 l_bX12_noGreater_1 l_uX12_noGreater_1)) (LkS_Ret LkE_V)))
theorem lX12_noGreater : LkM mX12_noGreater := LkM_q l_sX12_noGreater
theorem l_cX12_share_1 : LkC cX12_share_1 := (LkC_B LkE_V (LkE_CV lX12_rowsKept (LkA_1 LkE_V (LkA_1 LkE_V LkA_0))))
theorem l_bX12_share_1 : LkS bX12_share_1 := (LkS_Seq (LkS_Set (LkE_A rfl (LkE_F rfl LkE_V) (LkE_C lX12_atRow (LkA_1 LkE_V (LkA_1 LkE_V (LkA_1 LkE_V LkA_0)))))) (LkS_Seq (LkS_If (LkC_Or (LkC_B LkE_V LkE_I) (LkC_B (LkE_2 LkE_I (LkE_CV lX12_noGreater (LkA_1 LkE_V (LkA_1 LkE_V (LkA_1 LkE_V (LkA_1 LkE_V LkA_0)))))) (LkE_2 LkE_V LkE_V))) LkS_Cnt LkS_Skip) (LkS_If (LkC_Or (LkC_B LkE_V LkE_I) (LkC_B LkE_V LkE_V)) (LkS_Set LkE_V) LkS_Skip)))
theorem l_uX12_share_1 : LkS uX12_share_1 := LkS_Inc
theorem l_sX12_share : LkS sX12_share := (LkS_Seq (LkS_If (LkC_Or (LkC_Not (LkC_E (LkE_CV lX12_isBoth (LkA_1 LkE_V (LkA_1 LkE_V (LkA_1 LkE_V LkA_0)))))) (LkC_Not (LkC_E (LkE_C lX12_isIn (LkA_1 LkE_V (LkA_1 LkE_I (LkA_1 LkE_I LkA_0))))))) (LkS_Ret LkE_I) LkS_Skip) (LkS_Seq (LkS_Set (LkE_CV lX12_knownRows (LkA_1 LkE_V (LkA_1 LkE_V (LkA_1 LkE_V LkA_0))))) (LkS_Seq (LkS_Set LkE_I) (LkS_Seq (LkS_Seq (LkS_Set LkE_I) (LkS_While l_cX12_share_1 l_bX12_share_1 l_uX12_share_1)) (LkS_Ret (LkE_1 LkE_V))))))
theorem lX12_share : LkM mX12_share := LkM_q l_sX12_share
theorem l_cX12_smooth_1 : LkC cX12_smooth_1 := (LkC_And (LkC_B LkE_V (LkE_2 LkE_V LkE_V)) (LkC_B LkE_V (LkE_CV lX12_rowsKept (LkA_1 LkE_V (LkA_1 LkE_V LkA_0)))))
theorem l_bX12_smooth_1 : LkS bX12_smooth_1 := (LkS_Seq (LkS_Set (LkE_A rfl (LkE_F rfl LkE_V) (LkE_C lX12_atRow (LkA_1 LkE_V (LkA_1 LkE_V (LkA_1 LkE_V LkA_0)))))) (LkS_Seq (LkS_If (LkC_B LkE_V LkE_I) LkS_Cnt LkS_Skip) (LkS_Seq (LkS_Set (LkE_2 LkE_V LkE_V)) LkS_Inc)))
theorem l_uX12_smooth_1 : LkS uX12_smooth_1 := LkS_Inc
theorem l_sX12_smooth : LkS sX12_smooth := (LkS_Seq (LkS_If (LkC_Or (LkC_Not (LkC_E (LkE_CV lX12_isRow (LkA_1 LkE_V (LkA_1 LkE_V (LkA_1 LkE_V (LkA_1 LkE_V LkA_0))))))) (LkC_Not (LkC_E (LkE_C lX12_isIn (LkA_1 LkE_V (LkA_1 LkE_I (LkA_1 LkE_I LkA_0))))))) (LkS_Ret LkE_I) LkS_Skip) (LkS_Seq (LkS_Set LkE_I) (LkS_Seq (LkS_Set LkE_I) (LkS_Seq (LkS_Seq (LkS_Set LkE_V) (LkS_While l_cX12_smooth_1 l_bX12_smooth_1 l_uX12_smooth_1)) (LkS_Ret (LkE_If (LkC_B LkE_V LkE_I) LkE_I (LkE_1 (LkE_D LkE_V LkE_V))))))))
theorem lX12_smooth : LkM mX12_smooth := LkM_q l_sX12_smooth
theorem l_sX12_wayOf : LkS sX12_wayOf := (LkS_Seq (LkS_Set (LkE_A rfl (LkE_F rfl LkE_V) (LkE_C lX12_atRow (LkA_1 LkE_V (LkA_1 LkE_V (LkA_1 LkE_V LkA_0)))))) (LkS_Seq (LkS_Set (LkE_A rfl (LkE_F rfl LkE_V) (LkE_C lX12_atRow (LkA_1 LkE_V (LkA_1 LkE_V (LkA_1 (LkE_2 LkE_V LkE_I) LkA_0)))))) (LkS_Ret (LkE_If (LkC_Or (LkC_Or (LkC_B LkE_V LkE_I) (LkC_B LkE_V LkE_I)) (LkC_B LkE_V LkE_V)) LkE_I (LkE_If (LkC_B LkE_V LkE_V) LkE_I LkE_I)))))
theorem lX12_wayOf : LkM mX12_wayOf := LkM_q l_sX12_wayOf
theorem l_cX12_alike_1 : LkC cX12_alike_1 := (LkC_B (LkE_2 LkE_V LkE_I) (LkE_CV lX12_rowsKept (LkA_1 LkE_V (LkA_1 LkE_V LkA_0))))
theorem l_bX12_alike_1 : LkS bX12_alike_1 := (LkS_Set (LkE_2 LkE_V (LkE_If (LkC_B (LkE_2 (LkE_CV lX12_wayOf (LkA_1 LkE_V (LkA_1 LkE_V (LkA_1 LkE_V (LkA_1 LkE_V LkA_0))))) (LkE_CV lX12_wayOf (LkA_1 LkE_V (LkA_1 LkE_V (LkA_1 LkE_V (LkA_1 LkE_V LkA_0)))))) LkE_I) LkE_I LkE_I)))
theorem l_uX12_alike_1 : LkS uX12_alike_1 := LkS_Inc
theorem l_sX12_alike : LkS sX12_alike := (LkS_Seq (LkS_If (LkC_Or (LkC_Not (LkC_E (LkE_CV lX12_isBoth (LkA_1 LkE_V (LkA_1 LkE_V (LkA_1 LkE_V LkA_0)))))) (LkC_Not (LkC_E (LkE_CV lX12_isMeasure (LkA_1 LkE_V (LkA_1 LkE_V LkA_0)))))) (LkS_Ret LkE_I) LkS_Skip) (LkS_Seq (LkS_Set LkE_I) (LkS_Seq (LkS_Seq (LkS_Set LkE_I) (LkS_While l_cX12_alike_1 l_bX12_alike_1 l_uX12_alike_1)) (LkS_Ret LkE_V))))
theorem lX12_alike : LkM mX12_alike := LkM_q l_sX12_alike
theorem l_sX12_left : LkS sX12_left := (LkS_Seq (LkS_If (LkC_Not (LkC_E (LkE_CV lX12_isArchive (LkA_1 LkE_V (LkA_1 LkE_V LkA_0))))) (LkS_Ret LkE_I) LkS_Skip) (LkS_Ret (LkE_1 (LkE_2 (LkE_CV lX12_unitsOf (LkA_1 LkE_V (LkA_1 LkE_V LkA_0))) (LkE_D (LkE_A rfl (LkE_F rfl LkE_V) LkE_I) (LkE_CV lX12_unitsOf (LkA_1 LkE_V (LkA_1 LkE_V LkA_0))))))))
theorem lX12_left : LkM mX12_left := LkM_q l_sX12_left
theorem l_cX12_gap_1 : LkC cX12_gap_1 := (LkC_B LkE_V (LkE_CV lX12_rowsKept (LkA_1 LkE_V (LkA_1 LkE_V LkA_0))))
theorem l_bX12_gap_1 : LkS bX12_gap_1 := (LkS_Seq (LkS_Set (LkE_If (LkC_B (LkE_A rfl (LkE_F rfl LkE_V) (LkE_C lX12_atRow (LkA_1 LkE_V (LkA_1 LkE_V (LkA_1 LkE_V LkA_0))))) LkE_I) (LkE_2 LkE_V LkE_I) LkE_I)) (LkS_Seq (LkS_If (LkC_B LkE_V LkE_V) LkS_Cnt LkS_Skip) (LkS_Seq (LkS_Set LkE_V) (LkS_Set (LkE_2 (LkE_2 LkE_V LkE_V) LkE_I)))))
theorem l_uX12_gap_1 : LkS uX12_gap_1 := LkS_Inc
theorem l_sX12_gap : LkS sX12_gap := (LkS_Seq (LkS_If (LkC_Or (LkC_Not (LkC_E (LkE_CV lX12_isBoth (LkA_1 LkE_V (LkA_1 LkE_V (LkA_1 LkE_V LkA_0)))))) (LkC_Not (LkC_E (LkE_C lX12_isIn (LkA_1 LkE_V (LkA_1 LkE_I (LkA_1 LkE_I LkA_0))))))) (LkS_Ret LkE_I) LkS_Skip) (LkS_Seq (LkS_Set LkE_I) (LkS_Seq (LkS_Set LkE_I) (LkS_Seq (LkS_Set LkE_I) (LkS_Seq (LkS_Seq (LkS_Set LkE_I) (LkS_While l_cX12_gap_1 l_bX12_gap_1 l_uX12_gap_1)) (LkS_Ret (LkE_If (LkC_B LkE_V LkE_I) LkE_V LkE_V)))))))
theorem lX12_gap : LkM mX12_gap := LkM_q l_sX12_gap
theorem l_cX12_rise_1 : LkC cX12_rise_1 := (LkC_B LkE_V (LkE_CV lX12_rowsKept (LkA_1 LkE_V (LkA_1 LkE_V LkA_0))))
theorem l_bX12_rise_1 : LkS bX12_rise_1 := (LkS_Seq (LkS_Set (LkE_A rfl (LkE_F rfl LkE_V) (LkE_C lX12_atRow (LkA_1 LkE_V (LkA_1 LkE_V (LkA_1 LkE_V LkA_0)))))) (LkS_Seq (LkS_Set (LkE_2 (LkE_2 (LkE_CV lX12_rowsKept (LkA_1 LkE_V (LkA_1 LkE_V LkA_0))) LkE_I) LkE_V)) (LkS_Seq (LkS_If (LkC_B LkE_V LkE_I) LkS_Cnt LkS_Skip) (LkS_Seq (LkS_Set (LkE_2 LkE_V LkE_I)) (LkS_Seq (LkS_Set (LkE_2 LkE_V LkE_V)) (LkS_Seq (LkS_Set (LkE_2 LkE_V LkE_V)) (LkS_Seq (LkS_Set (LkE_2 LkE_V (LkE_2 LkE_V LkE_V))) (LkS_Set (LkE_2 LkE_V (LkE_2 LkE_V LkE_V))))))))))
theorem l_uX12_rise_1 : LkS uX12_rise_1 := LkS_Inc
theorem l_sX12_rise : LkS sX12_rise := (LkS_Seq (LkS_If (LkC_Not (LkC_E (LkE_CV lX12_isBoth (LkA_1 LkE_V (LkA_1 LkE_V (LkA_1 LkE_V LkA_0)))))) (LkS_Ret LkE_I) LkS_Skip) (LkS_Seq (LkS_Set LkE_I) (LkS_Seq (LkS_Set LkE_I) (LkS_Seq (LkS_Set LkE_I) (LkS_Seq (LkS_Set LkE_I) (LkS_Seq (LkS_Set LkE_I) (LkS_Seq (LkS_Seq (LkS_Set LkE_I) (LkS_While l_cX12_rise_1 l_bX12_rise_1 l_uX12_rise_1)) (LkS_Ret (LkE_If (LkC_B LkE_V LkE_I) LkE_I (LkE_1 (LkE_D (LkE_2 (LkE_2 LkE_V LkE_V) (LkE_2 LkE_V LkE_V)) (LkE_2 (LkE_2 LkE_V LkE_V) (LkE_2 LkE_V LkE_V)))))))))))))
theorem lX12_rise : LkM mX12_rise := LkM_q l_sX12_rise
theorem l_sX12_eldestFrom : LkS sX12_eldestFrom := (LkS_Ret (LkE_CV lX12_beginOf (LkA_1 LkE_V (LkA_1 LkE_V (LkA_1 (LkE_2 (LkE_CV lX12_rowsKept (LkA_1 LkE_V (LkA_1 LkE_V LkA_0))) LkE_I) LkA_0)))))
theorem lX12_eldestFrom : LkM mX12_eldestFrom := LkM_q l_sX12_eldestFrom
theorem l_sX12_isBetter : LkS sX12_isBetter := (LkS_Seq (LkS_Set (LkE_B (LkC_B (LkE_CV lX12_eldestFrom (LkA_1 LkE_V (LkA_1 LkE_V LkA_0))) LkE_V))) (LkS_Seq (LkS_Set (LkE_B (LkC_B (LkE_CV lX12_eldestFrom (LkA_1 LkE_V (LkA_1 LkE_V LkA_0))) LkE_V))) (LkS_Seq (LkS_If (LkC_B LkE_V LkE_V) (LkS_Ret LkE_V) LkS_Skip) (LkS_Seq (LkS_If (LkC_And (LkC_Not (LkC_E LkE_V)) (LkC_B (LkE_CV lX12_eldestFrom (LkA_1 LkE_V (LkA_1 LkE_V LkA_0))) (LkE_CV lX12_eldestFrom (LkA_1 LkE_V (LkA_1 LkE_V LkA_0))))) (LkS_Ret (LkE_B (LkC_B (LkE_CV lX12_eldestFrom (LkA_1 LkE_V (LkA_1 LkE_V LkA_0))) (LkE_CV lX12_eldestFrom (LkA_1 LkE_V (LkA_1 LkE_V LkA_0)))))) LkS_Skip) (LkS_Ret (LkE_B (LkC_B (LkE_A rfl (LkE_F rfl LkE_V) (LkE_C lX12_own (LkA_1 (LkE_F rfl LkE_V) (LkA_1 LkE_V LkA_0)))) (LkE_A rfl (LkE_F rfl LkE_V) (LkE_C lX12_own (LkA_1 (LkE_F rfl LkE_V) (LkA_1 LkE_V LkA_0)))))))))))
theorem lX12_isBetter : LkM mX12_isBetter := LkM_q l_sX12_isBetter
theorem l_cX12_best_1 : LkC cX12_best_1 := (LkC_B LkE_V (LkE_CV lX12_archivesNow (LkA_1 LkE_V LkA_0)))
theorem l_bX12_best_1 : LkS bX12_best_1 := (LkS_Seq (LkS_If (LkC_Or (LkC_B (LkE_A rfl (LkE_F rfl LkE_V) (LkE_C lX12_own (LkA_1 (LkE_F rfl LkE_V) (LkA_1 LkE_V LkA_0)))) LkE_V) (LkC_B (LkE_CV lX12_rowsKept (LkA_1 LkE_V (LkA_1 LkE_V LkA_0))) LkE_I)) LkS_Cnt LkS_Skip) (LkS_If (LkC_Or (LkC_B LkE_V LkE_I) (LkC_E (LkE_CV lX12_isBetter (LkA_1 LkE_V (LkA_1 LkE_V (LkA_1 LkE_V (LkA_1 LkE_V LkA_0))))))) (LkS_Set LkE_V) LkS_Skip))
theorem l_uX12_best_1 : LkS uX12_best_1 := LkS_Inc
theorem l_sX12_best : LkS sX12_best := (LkS_Seq (LkS_Set LkE_I) (LkS_Seq (LkS_If (LkC_B LkE_V LkE_I) (LkS_Ret LkE_V) LkS_Skip) (LkS_Seq (LkS_Seq (LkS_Set LkE_I) (LkS_While l_cX12_best_1 l_bX12_best_1 l_uX12_best_1)) (LkS_Ret LkE_V))))
theorem lX12_best : LkM mX12_best := LkM_q l_sX12_best
theorem l_sX12_forecast : LkS sX12_forecast := (LkS_Seq (LkS_If (LkC_Not (LkC_E (LkE_CV lX12_isFollowed (LkA_1 LkE_V (LkA_1 LkE_V LkA_0))))) (LkS_Ret LkE_I) LkS_Skip) (LkS_Sw LkE_V (LkF_1 (LkS_Ret (LkE_1 (LkE_A rfl (LkE_F rfl LkE_V) (LkE_C lX12_atForecast (LkA_1 LkE_V (LkA_1 LkE_I LkA_0)))))) (LkF_1 (LkS_Ret (LkE_1 (LkE_A rfl (LkE_F rfl LkE_V) (LkE_C lX12_atForecast (LkA_1 LkE_V (LkA_1 LkE_I LkA_0)))))) (LkF_1 (LkS_Ret (LkE_1 (LkE_A rfl (LkE_F rfl LkE_V) (LkE_C lX12_atForecast (LkA_1 LkE_V (LkA_1 LkE_I LkA_0)))))) (LkF_1 (LkS_Ret (LkE_A rfl (LkE_F rfl LkE_V) (LkE_C lX12_own (LkA_1 (LkE_F rfl LkE_V) (LkA_1 LkE_V LkA_0))))) (LkF_1 (LkS_Ret (LkE_A rfl (LkE_F rfl LkE_V) (LkE_C lX12_own (LkA_1 (LkE_F rfl LkE_V) (LkA_1 LkE_V LkA_0))))) (LkF_1 (LkS_Ret (LkE_1 (LkE_A rfl (LkE_F rfl LkE_V) (LkE_C lX12_atForecast (LkA_1 LkE_V (LkA_1 LkE_I LkA_0)))))) (LkF_0 (LkS_Ret LkE_I))))))))))
theorem lX12_forecast : LkM mX12_forecast := LkM_q l_sX12_forecast
theorem l_sX12_place : LkS sX12_place := (LkS_Seq (LkS_If (LkC_Or (LkC_Or (LkC_Not (LkC_E (LkE_CV lX12_isFollowed (LkA_1 LkE_V (LkA_1 LkE_V LkA_0))))) (LkC_Not (LkC_E (LkE_C lX12_isIn (LkA_1 LkE_V (LkA_1 LkE_I (LkA_1 (LkE_2 (LkE_A rfl (LkE_F rfl LkE_V) (LkE_C lX12_own (LkA_1 (LkE_F rfl LkE_V) (LkA_1 LkE_V LkA_0)))) LkE_I) LkA_0))))))) (LkC_Not (LkC_E (LkE_C lX12_isIn (LkA_1 LkE_V (LkA_1 LkE_I (LkA_1 LkE_I LkA_0))))))) (LkS_Ret LkE_I) LkS_Skip) (LkS_Ret (LkE_1 (LkE_A rfl (LkE_F rfl LkE_V) (LkE_C lX12_atForecast (LkA_1 LkE_V (LkA_1 (LkE_2 (LkE_If (LkC_B LkE_V LkE_I) LkE_I LkE_I) LkE_V) LkA_0)))))))
theorem lX12_place : LkM mX12_place := LkM_q l_sX12_place
theorem l_sX12_told : LkS sX12_told := (LkS_Seq (LkS_If (LkC_Or (LkC_Or (LkC_Not (LkC_E (LkE_CV lX12_isFollowed (LkA_1 LkE_V (LkA_1 LkE_V LkA_0))))) (LkC_Not (LkC_E (LkE_C lX12_isIn (LkA_1 LkE_V (LkA_1 LkE_I (LkA_1 (LkE_2 (LkE_A rfl (LkE_F rfl LkE_V) (LkE_C lX12_atForecast (LkA_1 LkE_V (LkA_1 LkE_I LkA_0)))) LkE_I) LkA_0))))))) (LkC_Not (LkC_E (LkE_C lX12_isIn (LkA_1 LkE_V (LkA_1 LkE_I (LkA_1 LkE_I LkA_0))))))) (LkS_Ret LkE_I) LkS_Skip) (LkS_Ret (LkE_1 (LkE_A rfl (LkE_F rfl LkE_V) (LkE_C lX12_atForecast (LkA_1 LkE_V (LkA_1 (LkE_2 (LkE_If (LkC_B LkE_V LkE_I) LkE_I LkE_I) LkE_V) LkA_0)))))))
theorem lX12_told : LkM mX12_told := LkM_q l_sX12_told
theorem l_cX12_odd_1 : LkC cX12_odd_1 := (LkC_And (LkC_B LkE_V LkE_V) (LkC_B LkE_V (LkE_A rfl (LkE_F rfl LkE_V) (LkE_C lX12_atForecast (LkA_1 LkE_V (LkA_1 LkE_I LkA_0))))))
theorem l_bX12_odd_1 : LkS bX12_odd_1 := (LkS_Set (LkE_2 LkE_V (LkE_1 (LkE_A rfl (LkE_F rfl LkE_V) (LkE_C lX12_atForecast (LkA_1 LkE_V (LkA_1 (LkE_2 LkE_I LkE_V) LkA_0)))))))
theorem l_uX12_odd_1 : LkS uX12_odd_1 := LkS_Inc
theorem l_sX12_odd : LkS sX12_odd := (LkS_Seq (LkS_If (LkC_Or (LkC_Not (LkC_E (LkE_CV lX12_isFollowed (LkA_1 LkE_V (LkA_1 LkE_V LkA_0))))) (LkC_Not (LkC_E (LkE_C lX12_isIn (LkA_1 LkE_V (LkA_1 LkE_I (LkA_1 LkE_I LkA_0))))))) (LkS_Ret LkE_I) LkS_Skip) (LkS_Seq (LkS_Set LkE_I) (LkS_Seq (LkS_Seq (LkS_Set LkE_I) (LkS_While l_cX12_odd_1 l_bX12_odd_1 l_uX12_odd_1)) (LkS_Ret LkE_V))))
theorem lX12_odd : LkM mX12_odd := LkM_q l_sX12_odd
theorem l_cX12_oddFrom_1 : LkC cX12_oddFrom_1 := (LkC_B LkE_V (LkE_2 LkE_V LkE_V))
theorem l_bX12_oddFrom_1 : LkS bX12_oddFrom_1 := (LkS_Set (LkE_2 LkE_V (LkE_1 (LkE_A rfl (LkE_F rfl LkE_V) (LkE_C lX12_atForecast (LkA_1 LkE_V (LkA_1 (LkE_2 LkE_I LkE_V) LkA_0)))))))
theorem l_uX12_oddFrom_1 : LkS uX12_oddFrom_1 := LkS_Inc
theorem l_sX12_oddFrom : LkS sX12_oddFrom := (LkS_Seq (LkS_Set LkE_I) (LkS_Seq (LkS_Seq (LkS_Set LkE_V) (LkS_While l_cX12_oddFrom_1 l_bX12_oddFrom_1 l_uX12_oddFrom_1)) (LkS_Ret LkE_V)))
theorem lX12_oddFrom : LkM mX12_oddFrom := LkM_q l_sX12_oddFrom
theorem l_cX12_alarms_1 : LkC cX12_alarms_1 := (LkC_B (LkE_2 LkE_V LkE_V) (LkE_A rfl (LkE_F rfl LkE_V) (LkE_C lX12_atForecast (LkA_1 LkE_V (LkA_1 LkE_I LkA_0)))))
theorem l_bX12_alarms_1 : LkS bX12_alarms_1 := (LkS_Set (LkE_2 LkE_V (LkE_If (LkC_B (LkE_CV lX12_oddFrom (LkA_1 LkE_V (LkA_1 LkE_V (LkA_1 LkE_V (LkA_1 LkE_V LkA_0))))) LkE_V) LkE_I LkE_I)))
theorem l_uX12_alarms_1 : LkS uX12_alarms_1 := LkS_Inc
theorem l_sX12_alarms : LkS sX12_alarms := (LkS_Seq (LkS_If (LkC_Or (LkC_Or (LkC_Not (LkC_E (LkE_CV lX12_isFollowed (LkA_1 LkE_V (LkA_1 LkE_V LkA_0))))) (LkC_Not (LkC_E (LkE_C lX12_isIn (LkA_1 LkE_V (LkA_1 LkE_I (LkA_1 LkE_I LkA_0))))))) (LkC_Not (LkC_E (LkE_C lX12_isIn (LkA_1 LkE_V (LkA_1 LkE_I (LkA_1 LkE_I LkA_0))))))) (LkS_Ret LkE_I) LkS_Skip) (LkS_Seq (LkS_Set LkE_I) (LkS_Seq (LkS_Seq (LkS_Set LkE_I) (LkS_While l_cX12_alarms_1 l_bX12_alarms_1 l_uX12_alarms_1)) (LkS_Ret LkE_V))))
theorem lX12_alarms : LkM mX12_alarms := LkM_q l_sX12_alarms
theorem l_cX12_ahead_1 : LkC cX12_ahead_1 := (LkC_B LkE_V LkE_V)
theorem l_bX12_ahead_1 : LkS bX12_ahead_1 := (LkS_Set (LkE_C lX12_held (LkA_1 (LkE_2 LkE_V LkE_V) LkA_0)))
theorem l_uX12_ahead_1 : LkS uX12_ahead_1 := LkS_Inc
theorem l_sX12_ahead : LkS sX12_ahead := (LkS_Seq (LkS_If (LkC_Or (LkC_Or (LkC_Not (LkC_E (LkE_CV lX12_isFollowed (LkA_1 LkE_V (LkA_1 LkE_V LkA_0))))) (LkC_B (LkE_A rfl (LkE_F rfl LkE_V) (LkE_C lX12_atForecast (LkA_1 LkE_V (LkA_1 LkE_I LkA_0)))) LkE_I)) (LkC_Not (LkC_E (LkE_C lX12_isIn (LkA_1 LkE_V (LkA_1 LkE_I (LkA_1 LkE_I LkA_0))))))) (LkS_Ret LkE_I) LkS_Skip) (LkS_Seq (LkS_Set (LkE_A rfl (LkE_F rfl LkE_V) (LkE_C lX12_atForecast (LkA_1 LkE_V (LkA_1 LkE_I LkA_0))))) (LkS_Seq (LkS_Set (LkE_A rfl (LkE_F rfl LkE_V) (LkE_C lX12_atForecast (LkA_1 LkE_V (LkA_1 LkE_I LkA_0))))) (LkS_Seq (LkS_Seq (LkS_Set LkE_I) (LkS_While l_cX12_ahead_1 l_bX12_ahead_1 l_uX12_ahead_1)) (LkS_Ret (LkE_1 (LkE_C lX12_held (LkA_1 (LkE_2 (LkE_2 LkE_V LkE_V) (LkE_A rfl (LkE_F rfl LkE_V) (LkE_C lX12_atForecast (LkA_1 LkE_V (LkA_1 (LkE_2 LkE_I (LkE_CV lX12_placeNow (LkA_1 LkE_V (LkA_1 LkE_V (LkA_1 (LkE_2 LkE_V LkE_I) LkA_0))))) LkA_0))))) LkA_0))))))))
theorem lX12_ahead : LkM mX12_ahead := LkM_q l_sX12_ahead
theorem l_sX12_madeOf : LkS sX12_madeOf := (LkS_Seq (LkS_If (LkC_B LkE_V LkE_I) (LkS_Ret (LkE_If (LkC_B LkE_V LkE_I) LkE_V LkE_V)) LkS_Skip) (LkS_Seq (LkS_If (LkC_Or (LkC_Or (LkC_B LkE_V LkE_I) (LkC_B LkE_V LkE_I)) (LkC_And (LkC_B LkE_V LkE_I) (LkC_B LkE_V LkE_I))) (LkS_Ret LkE_I) LkS_Skip) (LkS_Sw LkE_V (LkF_1 (LkS_Ret (LkE_C lX12_held (LkA_1 (LkE_2 LkE_V LkE_V) LkA_0))) (LkF_1 (LkS_Ret (LkE_C lX12_held (LkA_1 (LkE_2 LkE_V LkE_V) LkA_0))) (LkF_1 (LkS_Ret (LkE_C lX12_held (LkA_1 (LkE_D (LkE_2 LkE_V LkE_V) LkE_I) LkA_0))) (LkF_0 (LkS_Ret (LkE_C lX12_held (LkA_1 (LkE_D (LkE_2 LkE_I LkE_V) LkE_V) LkA_0))))))))))
theorem lX12_madeOf : LkM mX12_madeOf := LkM_q l_sX12_madeOf
theorem l_sX12_unitAt : LkS sX12_unitAt := (LkS_Seq (LkS_If (LkC_B LkE_V LkE_I) (LkS_Ret (LkE_A rfl (LkE_F rfl LkE_V) (LkE_2 LkE_V LkE_I))) LkS_Skip) (LkS_Ret (LkE_If (LkC_B LkE_V LkE_I) (LkE_A rfl (LkE_F rfl LkE_V) (LkE_C lX12_atRow (LkA_1 LkE_V (LkA_1 (LkE_2 LkE_V LkE_I) (LkA_1 LkE_V LkA_0))))) (LkE_2 LkE_I LkE_V))))
theorem lX12_unitAt : LkM mX12_unitAt := LkM_q l_sX12_unitAt
theorem l_cX12_showOf_2 : LkC cX12_showOf_2 := (LkC_B LkE_V (LkE_A rfl (LkE_F rfl LkE_V) (LkE_C lX12_own (LkA_1 (LkE_F rfl LkE_V) (LkA_1 LkE_V LkA_0)))))
theorem l_bX12_showOf_2 : LkS bX12_showOf_2 := (LkS_Seq (LkS_Set (LkE_A rfl (LkE_F rfl LkE_V) (LkE_2 (LkE_2 LkE_I (LkE_F rfl LkE_V)) LkE_V))) (LkS_If (LkC_B LkE_V LkE_I) (LkS_Seq LkS_Inc (LkS_Arr rfl (LkE_F rfl LkE_V) (LkE_2 LkE_V LkE_I) (LkE_C lX12_madeOf (LkA_1 LkE_V (LkA_1 (LkE_A rfl (LkE_F rfl LkE_V) (LkE_2 LkE_V LkE_I)) (LkA_1 (LkE_A rfl (LkE_F rfl LkE_V) LkE_V) LkA_0)))))) (LkS_Seq (LkS_Arr rfl (LkE_F rfl LkE_V) LkE_V (LkE_CV lX12_unitAt (LkA_1 LkE_V (LkA_1 LkE_V (LkA_1 LkE_V (LkA_1 LkE_V LkA_0)))))) LkS_Inc)))
theorem l_uX12_showOf_2 : LkS uX12_showOf_2 := LkS_Inc
theorem l_cX12_showOf_1 : LkC cX12_showOf_1 := (LkC_B LkE_V LkE_V)
theorem l_bX12_showOf_1 : LkS bX12_showOf_1 := (LkS_Seq (LkS_Set LkE_I) (LkS_Seq (LkS_While l_cX12_showOf_2 l_bX12_showOf_2 l_uX12_showOf_2) (LkS_Arr rfl (LkE_F rfl LkE_V) LkE_V (LkE_A rfl (LkE_F rfl LkE_V) LkE_I))))
theorem l_uX12_showOf_1 : LkS uX12_showOf_1 := LkS_Inc
theorem l_sX12_showOf : LkS sX12_showOf := (LkS_Seq (LkS_Set LkE_I) (LkS_Seq (LkS_Seq (LkS_Set LkE_I) (LkS_While l_cX12_showOf_1 l_bX12_showOf_1 l_uX12_showOf_1)) (LkS_Ret (LkE_A rfl (LkE_F rfl LkE_V) LkE_V))))
theorem lX12_showOf : LkM mX12_showOf := LkM_q l_sX12_showOf
theorem l_sX12_isShow : LkS sX12_isShow := (LkS_Ret (LkE_C lX12_isIn (LkA_1 LkE_V (LkA_1 LkE_I (LkA_1 (LkE_2 (LkE_A rfl (LkE_F rfl LkE_V) (LkE_F rfl LkE_V)) LkE_I) LkA_0)))))
theorem lX12_isShow : LkM mX12_isShow := LkM_q l_sX12_isShow
theorem l_sX12_show : LkS sX12_show := (LkS_Ret (LkE_If (LkC_And (LkC_And (LkC_E (LkE_CV lX12_isShow (LkA_1 LkE_V (LkA_1 LkE_V LkA_0)))) (LkC_E (LkE_CV lX12_isArchive (LkA_1 LkE_V (LkA_1 LkE_V LkA_0))))) (LkC_E (LkE_C lX12_isIn (LkA_1 LkE_V (LkA_1 LkE_I (LkA_1 (LkE_2 (LkE_CV lX12_rowsKept (LkA_1 LkE_V (LkA_1 LkE_V LkA_0))) LkE_I) LkA_0)))))) (LkE_1 (LkE_CV lX12_showOf (LkA_1 LkE_V (LkA_1 LkE_V (LkA_1 LkE_V (LkA_1 LkE_V LkA_0)))))) LkE_I))
theorem lX12_show : LkM mX12_show := LkM_q l_sX12_show
theorem l_cX12_shows_1 : LkC cX12_shows_1 := (LkC_B LkE_V (LkE_CV lX12_rowsKept (LkA_1 LkE_V (LkA_1 LkE_V LkA_0))))
theorem l_bX12_shows_1 : LkS bX12_shows_1 := (LkS_Seq (LkS_Set (LkE_CV lX12_showOf (LkA_1 LkE_V (LkA_1 LkE_V (LkA_1 LkE_V (LkA_1 LkE_V LkA_0)))))) (LkS_Seq (LkS_If (LkC_B LkE_V LkE_I) LkS_Cnt LkS_Skip) (LkS_Seq (LkS_If (LkC_Or (LkC_B LkE_V LkE_I) (LkC_B LkE_V LkE_V)) (LkS_Seq (LkS_Set LkE_V) (LkS_Set LkE_V)) LkS_Skip) (LkS_Seq (LkS_If (LkC_Or (LkC_B LkE_V LkE_I) (LkC_B LkE_V LkE_V)) (LkS_Set LkE_V) LkS_Skip) LkS_Inc))))
theorem l_uX12_shows_1 : LkS uX12_shows_1 := LkS_Inc
theorem l_sX12_shows : LkS sX12_shows := (LkS_Seq (LkS_If (LkC_Or (LkC_Or (LkC_Not (LkC_E (LkE_CV lX12_isShow (LkA_1 LkE_V (LkA_1 LkE_V LkA_0))))) (LkC_Not (LkC_E (LkE_CV lX12_isArchive (LkA_1 LkE_V (LkA_1 LkE_V LkA_0)))))) (LkC_Not (LkC_E (LkE_C lX12_isIn (LkA_1 LkE_V (LkA_1 LkE_I (LkA_1 LkE_I LkA_0))))))) (LkS_Ret LkE_I) LkS_Skip) (LkS_Seq (LkS_Set LkE_I) (LkS_Seq (LkS_Set LkE_I) (LkS_Seq (LkS_Set LkE_I) (LkS_Seq (LkS_Set LkE_I) (LkS_Seq (LkS_Seq (LkS_Set LkE_I) (LkS_While l_cX12_shows_1 l_bX12_shows_1 l_uX12_shows_1)) (LkS_Ret (LkE_If (LkC_B LkE_V LkE_I) LkE_V (LkE_If (LkC_B LkE_V LkE_I) (LkE_1 LkE_V) (LkE_If (LkC_B LkE_V LkE_I) (LkE_1 LkE_V) LkE_V))))))))))
theorem lX12_shows : LkM mX12_shows := LkM_q l_sX12_shows
theorem l_cX12_would_1 : LkC cX12_would_1 := (LkC_B LkE_V LkE_I)
theorem l_bX12_would_1 : LkS bX12_would_1 := (LkS_Arr rfl (LkE_F rfl LkE_V) LkE_V (LkE_A rfl (LkE_F rfl LkE_V) LkE_V))
theorem l_uX12_would_1 : LkS uX12_would_1 := LkS_Inc
theorem l_cX12_would_2 : LkC cX12_would_2 := (LkC_B LkE_V LkE_I)
theorem l_bX12_would_2 : LkS bX12_would_2 := (LkS_Arr rfl (LkE_F rfl LkE_V) LkE_V (LkE_A rfl (LkE_F rfl LkE_V) LkE_V))
theorem l_uX12_would_2 : LkS uX12_would_2 := LkS_Inc
theorem l_sX12_would : LkS sX12_would := (LkS_Seq (LkS_If (LkC_Or (LkC_Or (LkC_Not (LkC_E (LkE_CV lX12_canRead (LkA_1 LkE_V (LkA_1 LkE_V LkA_0))))) (LkC_Not (LkC_E (LkE_CV lX12_isMeasure (LkA_1 LkE_V (LkA_1 LkE_V LkA_0)))))) (LkC_Not (LkC_E (LkE_C lX12_isIn (LkA_1 LkE_V (LkA_1 LkE_I (LkA_1 LkE_I LkA_0))))))) (LkS_Ret LkE_I) LkS_Skip) (LkS_Seq (LkS_Seq (LkS_Set LkE_I) (LkS_While l_cX12_would_1 l_bX12_would_1 l_uX12_would_1)) (LkS_Seq (LkS_Do (LkE_CV lX12_give (LkA_1 LkE_V (LkA_1 LkE_I (LkA_1 LkE_I (LkA_1 LkE_I (LkA_1 LkE_I LkA_0))))))) (LkS_Seq (LkS_Arr rfl (LkE_F rfl LkE_V) LkE_V LkE_V) (LkS_Seq (LkS_Set (LkE_CV lX12_goRead (LkA_1 LkE_V (LkA_1 LkE_V LkA_0)))) (LkS_Seq (LkS_Set (LkE_If (LkC_B LkE_V LkE_I) (LkE_A rfl (LkE_F rfl LkE_V) (LkE_C lX12_atMeasure (LkA_1 LkE_V (LkA_1 LkE_I LkA_0)))) (LkE_If (LkC_B LkE_V LkE_I) (LkE_A rfl (LkE_F rfl LkE_V) (LkE_C lX12_atMeasure (LkA_1 LkE_V (LkA_1 LkE_I LkA_0)))) LkE_V))) (LkS_Seq (LkS_Seq (LkS_Set LkE_I) (LkS_While l_cX12_would_2 l_bX12_would_2 l_uX12_would_2)) (LkS_Ret (LkE_1 LkE_V)))))))))
theorem lX12_would : LkM mX12_would := LkM_q l_sX12_would
theorem l_sX12_isEnough : LkS sX12_isEnough := (LkS_Seq (LkS_Set (LkE_C lX12_own (LkA_1 (LkE_F rfl LkE_V) (LkA_1 LkE_V LkA_0)))) (LkS_Seq (LkS_Set (LkE_If (LkC_B (LkE_A rfl (LkE_F rfl LkE_V) LkE_V) LkE_I) (LkE_2 LkE_I LkE_V) (LkE_If (LkC_B (LkE_A rfl (LkE_F rfl LkE_V) LkE_V) LkE_I) (LkE_D (LkE_2 LkE_I LkE_V) LkE_V) (LkE_D (LkE_2 LkE_I (LkE_C lX12_wentOn (LkA_1 LkE_V (LkA_1 (LkE_A rfl (LkE_F rfl LkE_V) (LkE_C lX12_atMeasure (LkA_1 LkE_V (LkA_1 LkE_I LkA_0)))) (LkA_1 (LkE_A rfl (LkE_F rfl LkE_V) LkE_V) (LkA_1 (LkE_A rfl (LkE_F rfl LkE_V) LkE_V) LkA_0)))))) LkE_V)))) (LkS_Ret (LkE_B (LkC_B LkE_V (LkE_2 LkE_I (LkE_A rfl (LkE_F rfl LkE_V) (LkE_C lX12_atMeasure (LkA_1 LkE_V (LkA_1 LkE_I LkA_0))))))))))
theorem lX12_isEnough : LkM mX12_isEnough := LkM_q l_sX12_isEnough
theorem l_cX12_leastIn_1 : LkC cX12_leastIn_1 := (LkC_B LkE_V LkE_V)
theorem l_bX12_leastIn_1 : LkS bX12_leastIn_1 := (LkS_Seq (LkS_Set (LkE_D (LkE_2 LkE_V LkE_V) LkE_I)) (LkS_If (LkC_E (LkE_CV lX12_isEnough (LkA_1 LkE_V (LkA_1 LkE_V (LkA_1 LkE_V (LkA_1 LkE_V LkA_0)))))) (LkS_Set LkE_V) (LkS_Set (LkE_2 LkE_V LkE_I))))
theorem l_uX12_leastIn_1 : LkS uX12_leastIn_1 := LkS_Skip
theorem l_sX12_leastIn : LkS sX12_leastIn := (LkS_Seq (LkS_Set LkE_V) (LkS_Seq (LkS_Set LkE_V) (LkS_Seq (LkS_While l_cX12_leastIn_1 l_bX12_leastIn_1 l_uX12_leastIn_1) (LkS_Ret (LkE_If (LkC_And (LkC_B LkE_V LkE_V) (LkC_B (LkE_CV lX12_rateOf (LkA_1 LkE_V (LkA_1 LkE_V (LkA_1 LkE_V (LkA_1 LkE_V LkA_0))))) LkE_I)) (LkE_1 LkE_V) LkE_I)))))
theorem lX12_leastIn : LkM mX12_leastIn := LkM_q l_sX12_leastIn
theorem l_sX12_fits : LkS sX12_fits := (LkS_Seq (LkS_If (LkC_Or (LkC_Not (LkC_E (LkE_CV lX12_canRead (LkA_1 LkE_V (LkA_1 LkE_V LkA_0))))) (LkC_Not (LkC_E (LkE_CV lX12_isMeasure (LkA_1 LkE_V (LkA_1 LkE_V LkA_0)))))) (LkS_Ret LkE_I) LkS_Skip) (LkS_Seq (LkS_Set (LkE_C lX12_own (LkA_1 (LkE_F rfl LkE_V) (LkA_1 LkE_V LkA_0)))) (LkS_Seq (LkS_Set (LkE_A rfl (LkE_F rfl LkE_V) (LkE_C lX12_atMeasure (LkA_1 LkE_V (LkA_1 LkE_I LkA_0))))) (LkS_Seq (LkS_If (LkC_B (LkE_A rfl (LkE_F rfl LkE_V) LkE_V) LkE_I) (LkS_Ret (LkE_CV lX12_leastIn (LkA_1 LkE_V (LkA_1 LkE_V (LkA_1 LkE_V (LkA_1 LkE_I (LkA_1 LkE_I LkA_0))))))) LkS_Skip) (LkS_Seq (LkS_If (LkC_B LkE_V LkE_I) (LkS_Ret LkE_I) LkS_Skip) (LkS_Seq (LkS_Set (LkE_2 LkE_V (LkE_C lX12_width (LkA_1 (LkE_A rfl (LkE_F rfl LkE_V) LkE_V) LkA_0)))) (LkS_Seq (LkS_Set (LkE_If (LkC_B LkE_V LkE_I) (LkE_CV lX12_leastIn (LkA_1 LkE_V (LkA_1 LkE_V (LkA_1 LkE_V (LkA_1 LkE_I (LkA_1 (LkE_2 LkE_V LkE_I) LkA_0)))))) LkE_I)) (LkS_Seq (LkS_If (LkC_And (LkC_B LkE_V LkE_I) (LkC_B LkE_V LkE_I)) (LkS_Set (LkE_CV lX12_leastIn (LkA_1 LkE_V (LkA_1 LkE_V (LkA_1 LkE_V (LkA_1 (LkE_If (LkC_B LkE_V LkE_I) LkE_V LkE_I) (LkA_1 (LkE_2 LkE_V LkE_I) LkA_0))))))) LkS_Skip) (LkS_Ret (LkE_If (LkC_B LkE_V LkE_I) LkE_V (LkE_CV lX12_leastIn (LkA_1 LkE_V (LkA_1 LkE_V (LkA_1 LkE_V (LkA_1 LkE_V (LkA_1 (LkE_If (LkC_B LkE_I (LkE_2 (LkE_C lX12_width (LkA_1 (LkE_A rfl (LkE_F rfl LkE_V) LkE_V) LkA_0)) LkE_I)) LkE_I (LkE_2 (LkE_C lX12_width (LkA_1 (LkE_A rfl (LkE_F rfl LkE_V) LkE_V) LkA_0)) LkE_I)) LkA_0))))))))))))))))
theorem lX12_fits : LkM mX12_fits := LkM_q l_sX12_fits
theorem l_sX12_isBeyond : LkS sX12_isBeyond := (LkS_Ret (LkE_B (LkC_And (LkC_B LkE_V LkE_I) (LkC_Or (LkC_B LkE_V (LkE_A rfl (LkE_F rfl LkE_V) (LkE_C lX12_atMeasure (LkA_1 LkE_V (LkA_1 LkE_I LkA_0))))) (LkC_B LkE_V (LkE_A rfl (LkE_F rfl LkE_V) (LkE_C lX12_atMeasure (LkA_1 LkE_V (LkA_1 LkE_I LkA_0)))))))))
theorem lX12_isBeyond : LkM mX12_isBeyond := LkM_q l_sX12_isBeyond
theorem l_cX12_law_3 : LkC cX12_law_3 := (LkC_B LkE_V (LkE_CV lX12_many (LkA_1 LkE_V LkA_0)))
theorem l_bX12_law_3 : LkS bX12_law_3 := (LkS_Set (LkE_2 LkE_V (LkE_If (LkC_E (LkE_CV lX12_isBeyond (LkA_1 LkE_V (LkA_1 LkE_V (LkA_1 (LkE_A rfl (LkE_F rfl LkE_V) (LkE_C lX12_atRow (LkA_1 LkE_V (LkA_1 LkE_V (LkA_1 LkE_V LkA_0))))) LkA_0))))) LkE_I LkE_I)))
theorem l_uX12_law_3 : LkS uX12_law_3 := LkS_Inc
theorem l_cX12_law_2 : LkC cX12_law_2 := (LkC_B LkE_V (LkE_CV lX12_rowsKept (LkA_1 LkE_V (LkA_1 LkE_V LkA_0))))
theorem l_bX12_law_2 : LkS bX12_law_2 := (LkS_Seq (LkS_Set LkE_I) (LkS_While l_cX12_law_3 l_bX12_law_3 l_uX12_law_3))
theorem l_uX12_law_2 : LkS uX12_law_2 := LkS_Inc
theorem l_cX12_law_1 : LkC cX12_law_1 := (LkC_B LkE_V (LkE_CV lX12_archivesNow (LkA_1 LkE_V LkA_0)))
theorem l_bX12_law_1 : LkS bX12_law_1 := (LkS_Seq (LkS_If (LkC_B (LkE_A rfl (LkE_F rfl LkE_V) (LkE_C lX12_own (LkA_1 (LkE_F rfl LkE_V) (LkA_1 LkE_V LkA_0)))) LkE_I) LkS_Cnt LkS_Skip) (LkS_Seq (LkS_Set LkE_I) (LkS_While l_cX12_law_2 l_bX12_law_2 l_uX12_law_2)))
theorem l_uX12_law_1 : LkS uX12_law_1 := LkS_Inc
theorem l_sX12_law : LkS sX12_law := (LkS_Seq (LkS_Set LkE_I) (LkS_Seq (LkS_Seq (LkS_Set LkE_I) (LkS_While l_cX12_law_1 l_bX12_law_1 l_uX12_law_1)) (LkS_Ret LkE_V)))
theorem lX12_law : LkM mX12_law := LkM_q l_sX12_law
theorem l_cX12_swapAll_1 : LkC cX12_swapAll_1 := (LkC_B LkE_V LkE_I)
theorem l_bX12_swapAll_1 : LkS bX12_swapAll_1 := (LkS_Seq (LkS_Set (LkE_A rfl (LkE_F rfl LkE_V) (LkE_2 (LkE_2 LkE_I (LkE_F rfl LkE_V)) LkE_V))) (LkS_Seq (LkS_Arr rfl (LkE_F rfl LkE_V) (LkE_2 (LkE_2 LkE_I (LkE_F rfl LkE_V)) LkE_V) (LkE_A rfl (LkE_F rfl LkE_V) LkE_V)) (LkS_Arr rfl (LkE_F rfl LkE_V) LkE_V LkE_V)))
theorem l_uX12_swapAll_1 : LkS uX12_swapAll_1 := LkS_Inc
theorem l_sX12_swapAll : LkS sX12_swapAll := (LkS_Seq (LkS_Seq (LkS_Set LkE_I) (LkS_While l_cX12_swapAll_1 l_bX12_swapAll_1 l_uX12_swapAll_1)) LkS_RetV)
theorem lX12_swapAll : LkM mX12_swapAll := LkM_q l_sX12_swapAll
theorem l_sX12_undo : LkS sX12_undo := (LkS_Seq (LkS_If (LkC_B (LkE_F rfl LkE_V) LkE_I) (LkS_Ret LkE_I) LkS_Skip) (LkS_Seq (LkS_PutC rfl LkE_V LkE_I) (LkS_Seq (LkS_PutC rfl LkE_V LkE_I) (LkS_Seq (LkS_Do (LkE_CV lX12_swapAll (LkA_1 LkE_V LkA_0))) (LkS_Ret LkE_I)))))
theorem lX12_undo : LkM mX12_undo := LkM_q l_sX12_undo
theorem l_sX12_redo : LkS sX12_redo := (LkS_Seq (LkS_If (LkC_B (LkE_F rfl LkE_V) LkE_I) (LkS_Ret LkE_I) LkS_Skip) (LkS_Seq (LkS_Do (LkE_CV lX12_swapAll (LkA_1 LkE_V LkA_0))) (LkS_Seq (LkS_PutC rfl LkE_V LkE_I) (LkS_Seq (LkS_PutC rfl LkE_V LkE_I) (LkS_Ret LkE_I)))))
theorem lX12_redo : LkM mX12_redo := LkM_q l_sX12_redo
theorem l_cX12_image_1 : LkC cX12_image_1 := (LkC_B LkE_V LkE_I)
theorem l_bX12_image_1 : LkS bX12_image_1 := (LkS_Arr rfl (LkE_F rfl LkE_V) (LkE_2 (LkE_2 LkE_I LkE_V) LkE_V) (LkE_A rfl (LkE_F rfl LkE_V) LkE_V))
theorem l_uX12_image_1 : LkS uX12_image_1 := LkS_Inc
theorem l_sX12_image : LkS sX12_image := (LkS_Seq (LkS_If (LkC_Not (LkC_E (LkE_C lX12_isIn (LkA_1 LkE_V (LkA_1 LkE_I (LkA_1 LkE_I LkA_0)))))) (LkS_Ret LkE_I) LkS_Skip) (LkS_Seq (LkS_Seq (LkS_Set LkE_I) (LkS_While l_cX12_image_1 l_bX12_image_1 l_uX12_image_1)) (LkS_Seq (LkS_Arr rfl (LkE_F rfl LkE_V) LkE_V LkE_I) (LkS_Ret (LkE_1 (LkE_A rfl (LkE_F rfl LkE_V) LkE_I))))))
theorem lX12_image : LkM mX12_image := LkM_q l_sX12_image
theorem l_cX12_back_1 : LkC cX12_back_1 := (LkC_B LkE_V LkE_I)
theorem l_bX12_back_1 : LkS bX12_back_1 := (LkS_Arr rfl (LkE_F rfl LkE_V) LkE_V (LkE_A rfl (LkE_F rfl LkE_V) (LkE_2 (LkE_2 LkE_I LkE_V) LkE_V)))
theorem l_uX12_back_1 : LkS uX12_back_1 := LkS_Inc
theorem l_sX12_back : LkS sX12_back := (LkS_Seq (LkS_If (LkC_Or (LkC_Not (LkC_E (LkE_C lX12_isIn (LkA_1 LkE_V (LkA_1 LkE_I (LkA_1 LkE_I LkA_0)))))) (LkC_Not (LkC_E (LkE_A rfl (LkE_F rfl LkE_V) LkE_V)))) (LkS_Ret LkE_I) LkS_Skip) (LkS_Seq (LkS_Seq (LkS_Set LkE_I) (LkS_While l_cX12_back_1 l_bX12_back_1 l_uX12_back_1)) (LkS_Seq (LkS_Put rfl LkE_V LkE_I) (LkS_Seq (LkS_Put rfl LkE_V LkE_I) (LkS_Ret (LkE_1 (LkE_A rfl (LkE_F rfl LkE_V) LkE_I)))))))
theorem lX12_back : LkM mX12_back := LkM_q l_sX12_back
theorem l_cX12_followed_1 : LkC cX12_followed_1 := (LkC_B LkE_V (LkE_CV lX12_many (LkA_1 LkE_V LkA_0)))
theorem l_bX12_followed_1 : LkS bX12_followed_1 := (LkS_If (LkC_E (LkE_CV lX12_isFollowed (LkA_1 LkE_V (LkA_1 LkE_V LkA_0)))) (LkS_Set (LkE_2 LkE_V (LkE_2 LkE_I LkE_V))) LkS_Skip)
theorem l_uX12_followed_1 : LkS uX12_followed_1 := LkS_Inc
theorem l_sX12_followed : LkS sX12_followed := (LkS_Seq (LkS_Set LkE_I) (LkS_Seq (LkS_Seq (LkS_Set LkE_I) (LkS_While l_cX12_followed_1 l_bX12_followed_1 l_uX12_followed_1)) (LkS_Ret LkE_V)))
theorem lX12_followed : LkM mX12_followed := LkM_q l_sX12_followed
theorem l_sX12_about : LkS sX12_about := (LkS_Sw LkE_V (LkF_1 (LkS_Ret (LkE_A rfl (LkE_F rfl LkE_V) (LkE_F rfl LkE_V))) (LkF_1 (LkS_Ret (LkE_CV lX12_many (LkA_1 LkE_V LkA_0))) (LkF_1 (LkS_Ret (LkE_CV lX12_archivesNow (LkA_1 LkE_V LkA_0))) (LkF_1 (LkS_Ret (LkE_A rfl (LkE_F rfl LkE_V) (LkE_F rfl LkE_V))) (LkF_1 (LkS_Ret (LkE_CV lX12_followed (LkA_1 LkE_V LkA_0))) (LkF_1 (LkS_Ret (LkE_1 (LkE_A rfl (LkE_F rfl LkE_V) LkE_I))) (LkF_1 (LkS_Ret (LkE_1 (LkE_A rfl (LkE_F rfl LkE_V) LkE_I))) (LkF_1 (LkS_Ret (LkE_1 (LkE_A rfl (LkE_F rfl LkE_V) LkE_I))) (LkF_1 (LkS_Ret (LkE_A rfl (LkE_F rfl LkE_V) (LkE_F rfl LkE_V))) (LkF_1 (LkS_Ret (LkE_F rfl LkE_V)) (LkF_1 (LkS_Ret (LkE_F rfl LkE_V)) (LkF_1 (LkS_Ret (LkE_F rfl LkE_V)) (LkF_0 (LkS_Ret LkE_I)))))))))))))))
theorem lX12_about : LkM mX12_about := LkM_q l_sX12_about
