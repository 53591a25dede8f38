/-! WHICH CELLS A METHOD MAY WRITE (rows behind the rules laid by wip/whole/gen/gen6.py). W κ k: cell k of a thing of kind κ may be written -/
def Wc : Nat → Int → Bool
  | 12, k => !([0, 1, 4, 8, 9, 12, 13].contains k)
  | 11, k => !([0, 2, 3, 4].contains k)
  | 6, k => !([5, 6, 8].contains k)
  | 7, k => !([3, 4, 5].contains k)
  | 2, k => !([3, 4, 5, 6, 7].contains k)
  | 9, k => !([2, 3, 4].contains k)
  | 5, k => !([3, 4, 5, 6].contains k)
  | 1, _ => true
  | 3, _ => true
  | 4, _ => true
  | 10, _ => true
  | 20, _ => true
  | 23, _ => true
  | 24, _ => true
  | _, _ => false
def Wm : Nat → Int → Bool
  | 13, k => [27, 28, 30, 31, 32, 33, 34, 35, 36, 37, 38, 39, 40, 44, 45, 47, 48, 49, 50, 51, 58, 59].contains k
  | 40, _ => true
  | 41, _ => true
  | 42, _ => true
  | 44, _ => true
  | _, _ => false
def KE (W : Nat → Int → Bool) (e : QE) : Prop := ∀ L S v r, e L S v = some r → ∀ a k, W (S.1 a) k = false → r.2 a k = v a k
def KC (W : Nat → Int → Bool) (e : QC) : Prop := ∀ L S v r, e L S v = some r → ∀ a k, W (S.1 a) k = false → r.2 a k = v a k
def KA (W : Nat → Int → Bool) (e : List QE) : Prop := ∀ L S v r, eAs e L S v = some r → ∀ a k, W (S.1 a) k = false → r.2 a k = v a k
def KS (W : Nat → Int → Bool) (e : QT) : Prop := ∀ L S v r, e L S v = some r → ∀ a k, W (S.1 a) k = false → r.2.2 a k = v a k
def KF (W : Nat → Int → Bool) (cs : List (List Int × QT)) (d : QT) : Prop := ∀ z, KS W (sSwF cs d z)
def KM (W : Nat → Int → Bool) (g : QM) : Prop := ∀ zs S v r, g zs S v = some r → ∀ a k, W (S.1 a) k = false → r.2 a k = v a k
section K
variable {W : Nat → Int → Bool}
theorem KE_I {n : Int} : KE W (eI n) := fun L S v r h a k _ => by cases h; rfl
theorem KE_V {n : Nat} : KE W (eV n) := fun L S v r h a k _ => by cases h; rfl
theorem KE_SL : KE W eSL := fun L S v r h a k _ => by cases h; rfl
theorem KE_SA {e : QE} (he : KE W e) : KE W (eSA e) := by
  intro L S v r h a k hw
  obtain ⟨x, h1, h2⟩ := bs.mp h
  obtain ⟨-, h3⟩ := ite_some.mp h2
  cases h3
  exact he L S v x h1 a k hw
theorem KE_F {ci : Nat} {k : Int} {e : QE} (he : KE W e) : KE W (eF ci k e) := by
  intro L S v r h a k hw
  obtain ⟨x, h1, h2⟩ := bs.mp h
  obtain ⟨-, h3⟩ := ite_some.mp h2
  cases h3
  exact he L S v x h1 a k hw
theorem KE_A {κ : Nat} {e i : QE} (he : KE W e) (hi : KE W i) : KE W (eA κ e i) := by
  intro L S v r h a k hw
  obtain ⟨x, h1, h2⟩ := bs.mp h
  obtain ⟨y, h3, h4⟩ := bs.mp h2
  obtain ⟨-, h5⟩ := ite_some.mp h4
  cases h5
  exact (hi L S x.2 y h3 a k hw).trans (he L S v x h1 a k hw)
theorem KE_N {e : QE} (he : KE W e) : KE W (eN e) := by
  intro L S v r h a k hw
  obtain ⟨x, h1, h2⟩ := bs.mp h
  obtain ⟨-, h3⟩ := ite_some.mp h2
  cases h3
  exact he L S v x h1 a k hw
theorem KE_XN {e : QE} (he : KE W e) : KE W (eXN e) := by
  intro L S v r h a k hw
  obtain ⟨x, h1, h2⟩ := bs.mp h
  obtain ⟨-, h3⟩ := ite_some.mp h2
  cases h3
  exact he L S v x h1 a k hw
theorem KE_1 {o : Int → Int} {e : QE} (he : KE W e) : KE W (e1 o e) := by
  intro L S v r h a k hw
  obtain ⟨x, h1, h2⟩ := bs.mp h
  cases h2
  exact he L S v x h1 a k hw
theorem KE_2 {o : Int → Int → Int} {e i : QE} (he : KE W e) (hi : KE W i) : KE W (e2 o e i) := by
  intro L S v r h a k hw
  obtain ⟨x, h1, h2⟩ := bs.mp h
  obtain ⟨y, h3, h4⟩ := bs.mp h2
  cases h4
  exact (hi L S x.2 y h3 a k hw).trans (he L S v x h1 a k hw)
theorem KE_D {o : Int → Int → Int} {e i : QE} (he : KE W e) (hi : KE W i) : KE W (eD o e i) := by
  intro L S v r h a k hw
  obtain ⟨x, h1, h2⟩ := bs.mp h
  obtain ⟨y, h3, h4⟩ := bs.mp h2
  by_cases h0 : y.1 = 0
  · rw [if_pos h0] at h4; cases h4
  · rw [if_neg h0] at h4
    cases h4
    exact (hi L S x.2 y h3 a k hw).trans (he L S v x h1 a k hw)
theorem KE_B {c : QC} (hc : KC W c) : KE W (eB c) := by
  intro L S v r h a k hw
  obtain ⟨x, h1, h2⟩ := bs.mp h
  cases h2
  exact hc L S v x h1 a k hw
theorem KE_If {c : QC} {e i : QE} (hc : KC W c) (he : KE W e) (hi : KE W i) : KE W (eIf c e i) := by
  intro L S v r h a k hw
  obtain ⟨⟨t, w⟩, h1, h2⟩ := bs.mp h
  cases t
  · exact (hi L S w r h2 a k hw).trans (hc L S v _ h1 a k hw)
  · exact (he L S w r h2 a k hw).trans (hc L S v _ h1 a k hw)
theorem KA_0 : KA W [] := fun L S v r h a k _ => by cases h; rfl
theorem KA_1 {e : QE} {es : List QE} (he : KE W e) (hs : KA W es) : KA W (e :: es) := by
  intro L S v r h a k hw
  obtain ⟨x, h1, h2⟩ := bs.mp h
  obtain ⟨y, h3, h4⟩ := bs.mp h2
  cases h4
  exact (hs L S x.2 y h3 a k hw).trans (he L S v x h1 a k hw)
theorem KE_C {g : QM} {as : List QE} (hg : KM W g) (ha : KA W as) : KE W (eCall g as) := by
  intro L S v r h a k hw
  obtain ⟨x, h1, h2⟩ := bs.mp h
  exact (hg _ S x.2 r h2 a k hw).trans (ha L S v x h1 a k hw)
theorem KE_CV {ci : Nat} {g : QM} {as : List QE} (hg : KM W g) (ha : KA W as) : KE W (eCallV ci g as) := by
  intro L S v r h a k hw
  obtain ⟨x, h1, h2⟩ := bs.mp h
  by_cases h0 : S.1 (x.1.headD (-1)) = ci + 1
  · rw [if_pos h0] at h2
    exact (hg _ S x.2 r h2 a k hw).trans (ha L S v x h1 a k hw)
  · rw [if_neg h0] at h2; cases h2
theorem KC_B {o : Int → Int → Bool} {e i : QE} (he : KE W e) (hi : KE W i) : KC W (cB o e i) := by
  intro L S v r h a k hw
  obtain ⟨x, h1, h2⟩ := bs.mp h
  obtain ⟨y, h3, h4⟩ := bs.mp h2
  cases h4
  exact (hi L S x.2 y h3 a k hw).trans (he L S v x h1 a k hw)
theorem KC_E {e : QE} (he : KE W e) : KC W (cE e) := by
  intro L S v r h a k hw
  obtain ⟨x, h1, h2⟩ := bs.mp h
  cases h2
  exact he L S v x h1 a k hw
theorem KC_And {e i : QC} (he : KC W e) (hi : KC W i) : KC W (cAnd e i) := by
  intro L S v r h a k hw
  obtain ⟨⟨t, w⟩, h1, h2⟩ := bs.mp h
  cases t
  · cases h2; exact he L S v _ h1 a k hw
  · exact (hi L S w r h2 a k hw).trans (he L S v _ h1 a k hw)
theorem KC_Or {e i : QC} (he : KC W e) (hi : KC W i) : KC W (cOr e i) := by
  intro L S v r h a k hw
  obtain ⟨⟨t, w⟩, h1, h2⟩ := bs.mp h
  cases t
  · exact (hi L S w r h2 a k hw).trans (he L S v _ h1 a k hw)
  · cases h2; exact he L S v _ h1 a k hw
theorem KC_Not {e : QC} (he : KC W e) : KC W (cNot e) := by
  intro L S v r h a k hw
  obtain ⟨x, h1, h2⟩ := bs.mp h
  cases h2
  exact he L S v x h1 a k hw
theorem KS_Skip : KS W sSkip := fun L S v r h a k _ => by cases h; rfl
theorem KS_Brk : KS W sBrk := fun L S v r h a k _ => by cases h; rfl
theorem KS_Cnt : KS W sCnt := fun L S v r h a k _ => by cases h; rfl
theorem KS_RetV : KS W sRetV := fun L S v r h a k _ => by cases h; rfl
theorem KS_Inc {k : Nat} {n : Int} : KS W (sInc k n) := fun L S v r h a k _ => by cases h; rfl
theorem KS_Ret {e : QE} (he : KE W e) : KS W (sRet e) := by
  intro L S v r h a k hw
  obtain ⟨x, h1, h2⟩ := bs.mp h
  cases h2
  exact he L S v x h1 a k hw
theorem KS_Set {n : Nat} {e : QE} (he : KE W e) : KS W (sSet n e) := by
  intro L S v r h a k hw
  obtain ⟨x, h1, h2⟩ := bs.mp h
  cases h2
  exact he L S v x h1 a k hw
theorem KS_Do {e : QE} (he : KE W e) : KS W (sDo e) := by
  intro L S v r h a k hw
  obtain ⟨x, h1, h2⟩ := bs.mp h
  cases h2
  exact he L S v x h1 a k hw
theorem KS_Seq {s t : QT} (hs : KS W s) (ht : KS W t) : KS W (sSeq s t) := by
  intro L S v r h a k hw
  obtain ⟨x, h1, h2⟩ := bs.mp h
  by_cases h0 : x.1.1 = 0
  · rw [if_pos h0] at h2
    exact (ht _ S _ r h2 a k hw).trans (hs L S v x h1 a k hw)
  · rw [if_neg h0] at h2
    cases h2
    exact hs L S v _ h1 a k hw
theorem K_vu {S : QS} {v w : QV} {x i z a k : Int} (hW : W (S.1 x) i = true) (hw : W (S.1 a) k = false) (h : w a k = v a k) : vu w x i z a k = v a k := by
  unfold vu
  by_cases e : a = x ∧ k = i
  · rw [e.1, e.2, hW] at hw; cases hw
  · rw [if_neg e]; exact h
theorem KS_Put {ci : Nat} {n : Int} {x e : QE} (hW : W (ci + 1) n = true) (hx : KE W x) (he : KE W e) : KS W (sPut ci n x e) := by
  intro L S v r h a k hw
  obtain ⟨p, h1, h2⟩ := bs.mp h
  obtain ⟨q, h3, h4⟩ := bs.mp h2
  obtain ⟨h5, h6⟩ := ite_some.mp h4
  cases h6
  exact K_vu (by rw [h5]; exact hW) hw ((he L S p.2 q h3 a k hw).trans (hx L S v p h1 a k hw))
theorem KS_PutC {ci : Nat} {n : Int} {x e : QE} {o : Int → Int → Int} (hW : W (ci + 1) n = true) (hx : KE W x) (he : KE W e) : KS W (sPutC ci n x o e) := by
  intro L S v r h a k hw
  obtain ⟨p, h1, h2⟩ := bs.mp h
  by_cases h5 : S.1 p.1 = ci + 1
  · rw [if_pos h5] at h2
    obtain ⟨q, h3, h4⟩ := bs.mp h2
    cases h4
    exact K_vu (by rw [h5]; exact hW) hw ((he L S p.2 q h3 a k hw).trans (hx L S v p h1 a k hw))
  · rw [if_neg h5] at h2; cases h2
theorem KS_Arr {κ : Nat} {x i e : QE} (hW : ∀ j, W κ j = true) (hx : KE W x) (hi : KE W i) (he : KE W e) : KS W (sArr κ x i e) := by
  intro L S v r h a k hw
  obtain ⟨p, h1, h2⟩ := bs.mp h
  obtain ⟨j, h7, h8⟩ := bs.mp h2
  obtain ⟨q, h3, h4⟩ := bs.mp h8
  obtain ⟨h5, h6⟩ := ite_some.mp h4
  cases h6
  exact K_vu (by rw [h5.1]; exact hW _) hw ((he L S j.2 q h3 a k hw).trans ((hi L S p.2 j h7 a k hw).trans (hx L S v p h1 a k hw)))
theorem KS_ArrC {κ : Nat} {x i e : QE} {o : Int → Int → Int} (hW : ∀ j, W κ j = true) (hx : KE W x) (hi : KE W i) (he : KE W e) : KS W (sArrC κ x i o e) := by
  intro L S v r h a k hw
  obtain ⟨p, h1, h2⟩ := bs.mp h
  obtain ⟨j, h7, h8⟩ := bs.mp h2
  by_cases h5 : S.1 p.1 = κ ∧ 0 ≤ j.1 ∧ j.1 < S.2.1 p.1
  · rw [if_pos h5] at h8
    obtain ⟨q, h3, h4⟩ := bs.mp h8
    cases h4
    exact K_vu (by rw [h5.1]; exact hW _) hw ((he L S j.2 q h3 a k hw).trans ((hi L S p.2 j h7 a k hw).trans (hx L S v p h1 a k hw)))
  · rw [if_neg h5] at h8; cases h8
theorem KS_If {c : QC} {s t : QT} (hc : KC W c) (hs : KS W s) (ht : KS W t) : KS W (sIf c s t) := by
  intro L S v r h a k hw
  obtain ⟨⟨b, w⟩, h1, h2⟩ := bs.mp h
  cases b
  · exact (ht L S w r h2 a k hw).trans (hc L S v _ h1 a k hw)
  · exact (hs L S w r h2 a k hw).trans (hc L S v _ h1 a k hw)
theorem KF_0 {d : QT} (hd : KS W d) : KF W [] d := fun _ => hd
theorem KF_1 {ks : List Int} {s d : QT} {cs : List (List Int × QT)} (hs : KS W s) (hc : KF W cs d) : KF W ((ks, s) :: cs) d := by
  intro z
  show KS W (if z ∈ ks then s else sSwF cs d z)
  by_cases h : z ∈ ks
  · rw [if_pos h]; exact hs
  · rw [if_neg h]; exact hc z
theorem KS_Sw {e : QE} {cs : List (List Int × QT)} {d : QT} (he : KE W e) (hc : KF W cs d) : KS W (sSw e cs d) := by
  intro L S v r h a k hw
  obtain ⟨p, h1, h2⟩ := bs.mp h
  obtain ⟨q, h3, h4⟩ := bs.mp h2
  have e : r.2.2 = q.2.2 := by
    by_cases h0 : q.1.1 = 1
    · rw [if_pos h0] at h4; cases h4; rfl
    · rw [if_neg h0] at h4; cases h4; rfl
  rw [e]
  exact (hc _ L S p.2 q h3 a k hw).trans (he L S v p h1 a k hw)
theorem KS_wh {c : QC} {b u : QT} (hc : KC W c) (hb : KS W b) (hu : KS W u) : ∀ n, KS W (sWh c b u n) := by
  intro n
  induction n with
  | zero => intro L S v r h; cases h
  | succ n ih =>
    intro L S v r h a k hw
    obtain ⟨⟨t, w⟩, h1, h2⟩ := bs.mp h
    have e1 := hc L S v _ h1 a k hw
    cases t
    · cases h2; exact e1
    · obtain ⟨x, h3, h4⟩ := bs.mp h2
      have e2 := hb L S w x h3 a k hw
      by_cases h02 : x.1.1 = 0 ∨ x.1.1 = 2
      · rw [if_pos h02] at h4
        obtain ⟨y, h5, h6⟩ := bs.mp h4
        have e3 := hu _ S _ y h5 a k hw
        by_cases h0 : y.1.1 = 0
        · rw [if_pos h0] at h6
          exact (ih _ S _ r h6 a k hw).trans (e3.trans (e2.trans e1))
        · rw [if_neg h0] at h6; cases h6
      · rw [if_neg h02] at h4
        by_cases h0 : x.1.1 = 1
        · rw [if_pos h0] at h4; cases h4; exact e2.trans e1
        · rw [if_neg h0] at h4; cases h4; exact e2.trans e1
theorem KS_While {c : QC} {b u : QT} (hc : KC W c) (hb : KS W b) (hu : KS W u) : KS W (sWhile c b u) := KS_wh hc hb hu _
theorem KS_Copy {κ : Nat} {x i y j n : QE} (hW : ∀ j, W κ j = true) (hx : KE W x) (hi : KE W i) (hy : KE W y) (hj : KE W j) (hn : KE W n) : KS W (sCopy κ x i y j n) := by
  intro L S v r h a k hw
  obtain ⟨r1, h1, h2⟩ := bs.mp h
  obtain ⟨r2, h3, h4⟩ := bs.mp h2
  obtain ⟨r3, h5, h6⟩ := bs.mp h4
  obtain ⟨r4, h7, h8⟩ := bs.mp h6
  obtain ⟨r5, h9, h10⟩ := bs.mp h8
  obtain ⟨h11, h12⟩ := ite_some.mp h10
  cases h12
  show (if a = r3.1 ∧ r4.1 ≤ k ∧ k < r4.1 + r5.1 then _ else r5.2 a k) = v a k
  rw [if_neg (fun q => by rw [q.1, h11.2.1, hW] at hw; cases hw)]
  exact (hn L S _ r5 h9 a k hw).trans ((hj L S _ r4 h7 a k hw).trans ((hy L S _ r3 h5 a k hw).trans ((hi L S _ r2 h3 a k hw).trans (hx L S v r1 h1 a k hw))))
theorem KM_q {τs : List Nat} {s : QT} (hs : KS W s) : KM W (qM τs s) := by
  intro zs S v r h a k hw
  obtain ⟨x, h1, h2⟩ := bs.mp h
  obtain ⟨h3, h4⟩ := ite_some.mp h2
  cases h4
  exact hs _ S v x h1 a k hw
end K
theorem k_cX10_put_1 : KC Wc cX10_put_1 := (KC_B KE_V KE_I)
theorem k_bX10_put_1 : KS Wc bX10_put_1 := (KS_If (KC_B (KE_F KE_V) (KE_N (KE_F KE_V))) (KS_Seq (KS_Arr (fun _ => rfl) (KE_F KE_V) (KE_F KE_V) (KE_1 (KE_2 (KE_2 KE_V KE_V) KE_I))) (KS_PutC rfl KE_V KE_I)) KS_Skip)
theorem k_uX10_put_1 : KS Wc uX10_put_1 := KS_Inc
theorem k_sX10_put : KS Wc sX10_put := (KS_Seq (KS_Seq (KS_Set KE_I) (KS_While k_cX10_put_1 k_bX10_put_1 k_uX10_put_1)) KS_RetV)
theorem kX10_put : KM Wc mX10_put := KM_q k_sX10_put
theorem k_sX11_feed : KS Wc sX11_feed := (KS_Seq (KS_If (KC_B (KE_2 (KE_F (KE_F KE_V)) KE_I) KE_I) (KS_Ret KE_I) KS_Skip) (KS_Seq (KS_Do (KE_CV kX10_put (KA_1 (KE_F KE_V) (KA_1 KE_V KA_0)))) (KS_Seq (KS_Do (KE_CV kX10_put (KA_1 (KE_F KE_V) (KA_1 KE_V KA_0)))) (KS_Seq (KS_Do (KE_CV kX10_put (KA_1 (KE_F KE_V) (KA_1 KE_V KA_0)))) (KS_Seq (KS_Do (KE_CV kX10_put (KA_1 (KE_F KE_V) (KA_1 KE_V KA_0)))) (KS_Seq (KS_Do (KE_CV kX10_put (KA_1 (KE_F KE_V) (KA_1 KE_V KA_0)))) (KS_Ret (KE_F (KE_F KE_V)))))))))
theorem kX11_feed : KM Wc mX11_feed := KM_q k_sX11_feed
theorem k_sX11_end : KS Wc sX11_end := (KS_Seq (KS_If (KC_Or (KC_B KE_V KE_I) (KC_B KE_V (KE_F (KE_F KE_V)))) (KS_Ret KE_I) KS_Skip) (KS_Seq (KS_Put rfl (KE_F KE_V) KE_V) (KS_Ret KE_V)))
theorem kX11_end : KM Wc mX11_end := KM_q k_sX11_end
theorem k_sX11_forgetActs : KS Wc sX11_forgetActs := (KS_Seq (KS_Put rfl KE_V KE_I) (KS_Seq (KS_Put rfl KE_V KE_I) KS_RetV))
theorem kX11_forgetActs : KM Wc mX11_forgetActs := KM_q k_sX11_forgetActs
theorem k_sX11_now : KS Wc sX11_now := (KS_Ret (KE_A (KE_F KE_V) (KE_F KE_V)))
theorem kX11_now : KM Wc mX11_now := KM_q k_sX11_now
theorem k_sX10_isToken : KS Wc sX10_isToken := (KS_Ret (KE_B (KC_And (KC_B KE_V KE_I) (KC_B KE_V (KE_F KE_V)))))
theorem kX10_isToken : KM Wc mX10_isToken := KM_q k_sX10_isToken
theorem k_sX10_placeOf : KS Wc sX10_placeOf := (KS_Ret (KE_If (KC_E (KE_CV kX10_isToken (KA_1 KE_V (KA_1 KE_V KA_0)))) (KE_A (KE_F KE_V) KE_V) (KE_F KE_V)))
theorem kX10_placeOf : KM Wc mX10_placeOf := KM_q k_sX10_placeOf
theorem k_sX5_fail : KS Wc sX5_fail := (KS_Seq (KS_Put rfl KE_V KE_V) (KS_Seq (KS_Put rfl KE_V (KE_CV kX10_placeOf (KA_1 (KE_F KE_V) (KA_1 (KE_F KE_V) KA_0)))) (KS_Ret KE_I)))
theorem kX5_fail : KM Wc mX5_fail := KM_q k_sX5_fail
theorem k_sX10_kindAt : KS Wc sX10_kindAt := (KS_Ret (KE_If (KC_E (KE_CV kX10_isToken (KA_1 KE_V (KA_1 KE_V KA_0)))) (KE_A (KE_F KE_V) KE_V) KE_I))
theorem kX10_kindAt : KM Wc mX10_kindAt := KM_q k_sX10_kindAt
theorem k_sX5_kind : KS Wc sX5_kind := (KS_Ret (KE_CV kX10_kindAt (KA_1 (KE_F KE_V) (KA_1 (KE_F KE_V) KA_0))))
theorem kX5_kind : KM Wc mX5_kind := KM_q k_sX5_kind
theorem k_sX5_howHere : KS Wc sX5_howHere := (KS_Sw (KE_CV kX5_kind (KA_1 KE_V KA_0)) (KF_1 (KS_Ret KE_I) (KF_1 (KS_Ret KE_I) (KF_1 (KS_Ret KE_I) (KF_1 (KS_Ret KE_I) (KF_0 (KS_Ret KE_I)))))))
theorem kX5_howHere : KM Wc mX5_howHere := KM_q k_sX5_howHere
theorem k_sX5_take : KS Wc sX5_take := (KS_Seq (KS_If (KC_B (KE_CV kX5_kind (KA_1 KE_V KA_0)) KE_V) (KS_Ret (KE_CV kX5_fail (KA_1 KE_V (KA_1 KE_I KA_0)))) KS_Skip) (KS_Seq (KS_PutC rfl KE_V KE_I) (KS_Ret KE_I)))
theorem kX5_take : KM Wc mX5_take := KM_q k_sX5_take
theorem k_cX10_numberOf_1 : KC Wc cX10_numberOf_1 := (KC_B KE_V (KE_A (KE_F KE_V) KE_V))
theorem k_bX10_numberOf_1 : KS Wc bX10_numberOf_1 := (KS_Seq (KS_Set (KE_2 (KE_2 KE_V KE_I) (KE_2 (KE_A (KE_F KE_V) KE_V) KE_I))) (KS_If (KC_B KE_V KE_I) (KS_Ret KE_I) KS_Skip))
theorem k_uX10_numberOf_1 : KS Wc uX10_numberOf_1 := KS_Inc
theorem k_sX10_numberOf : KS Wc sX10_numberOf := (KS_Seq (KS_Set KE_I) (KS_Seq (KS_If (KC_E (KE_CV kX10_isToken (KA_1 KE_V (KA_1 KE_V KA_0)))) (KS_Seq (KS_Set (KE_A (KE_F KE_V) KE_V)) (KS_While k_cX10_numberOf_1 k_bX10_numberOf_1 k_uX10_numberOf_1)) KS_Skip) (KS_Ret KE_V)))
theorem kX10_numberOf : KM Wc mX10_numberOf := KM_q k_sX10_numberOf
theorem k_sX5_takeNumber : KS Wc sX5_takeNumber := (KS_Seq (KS_If (KC_B (KE_CV kX5_kind (KA_1 KE_V KA_0)) KE_I) (KS_Seq (KS_Do (KE_CV kX5_fail (KA_1 KE_V (KA_1 KE_I KA_0)))) (KS_Ret KE_I)) KS_Skip) (KS_Seq (KS_Set (KE_CV kX10_numberOf (KA_1 (KE_F KE_V) (KA_1 (KE_F KE_V) KA_0)))) (KS_Seq (KS_If (KC_Or (KC_B KE_V KE_V) (KC_B KE_V KE_V)) (KS_Seq (KS_Do (KE_CV kX5_fail (KA_1 KE_V (KA_1 KE_I KA_0)))) (KS_Ret KE_I)) KS_Skip) (KS_Seq (KS_PutC rfl KE_V KE_I) (KS_Ret KE_V)))))
theorem kX5_takeNumber : KM Wc mX5_takeNumber := KM_q k_sX5_takeNumber
theorem k_sX5_archiveLine : KS Wc sX5_archiveLine := (KS_Seq (KS_If (KC_B (KE_F (KE_F KE_V)) KE_I) (KS_Ret (KE_CV kX5_fail (KA_1 KE_V (KA_1 KE_I KA_0)))) KS_Skip) (KS_Seq (KS_Set (KE_A (KE_F (KE_F KE_V)) (KE_F (KE_F KE_V)))) (KS_Seq (KS_PutC rfl KE_V KE_I) (KS_Seq (KS_Put rfl KE_V (KE_CV kX5_howHere (KA_1 KE_V KA_0))) (KS_Seq (KS_If (KC_B (KE_F KE_V) KE_I) (KS_Ret (KE_CV kX5_fail (KA_1 KE_V (KA_1 KE_I KA_0)))) KS_Skip) (KS_Seq (KS_PutC rfl KE_V KE_I) (KS_Seq (KS_Put rfl KE_V (KE_CV kX5_takeNumber (KA_1 KE_V (KA_1 KE_I (KA_1 KE_I KA_0))))) (KS_Seq (KS_If (KC_Or (KC_B (KE_F KE_V) KE_I) (KC_Not (KC_E (KE_CV kX5_take (KA_1 KE_V (KA_1 KE_I KA_0)))))) (KS_Ret KE_I) KS_Skip) (KS_Seq (KS_Put rfl KE_V (KE_CV kX5_takeNumber (KA_1 KE_V (KA_1 KE_I (KA_1 KE_I KA_0))))) (KS_Seq (KS_If (KC_Or (KC_B (KE_F KE_V) KE_I) (KC_Not (KC_E (KE_CV kX5_take (KA_1 KE_V (KA_1 KE_I KA_0)))))) (KS_Ret KE_I) KS_Skip) (KS_Seq (KS_Put rfl KE_V (KE_CV kX5_takeNumber (KA_1 KE_V (KA_1 KE_I (KA_1 KE_I KA_0))))) (KS_Seq (KS_If (KC_Or (KC_B (KE_F KE_V) KE_I) (KC_Not (KC_E (KE_CV kX5_take (KA_1 KE_V (KA_1 KE_I KA_0)))))) (KS_Ret KE_I) KS_Skip) (KS_Seq (KS_PutC rfl (KE_F KE_V) KE_I) (KS_Ret KE_I))))))))))))))
theorem kX5_archiveLine : KM Wc mX5_archiveLine := KM_q k_sX5_archiveLine
theorem k_cX10_sameWord_1 : KC Wc cX10_sameWord_1 := (KC_B KE_V KE_V)
theorem k_bX10_sameWord_1 : KS Wc bX10_sameWord_1 := (KS_If (KC_B (KE_A (KE_F KE_V) (KE_2 (KE_A (KE_F KE_V) KE_V) KE_V)) (KE_A (KE_F KE_V) (KE_2 (KE_A (KE_F KE_V) KE_V) KE_V))) (KS_Ret KE_I) KS_Skip)
theorem k_uX10_sameWord_1 : KS Wc uX10_sameWord_1 := KS_Inc
theorem k_sX10_sameWord : KS Wc sX10_sameWord := (KS_Seq (KS_If (KC_Or (KC_Not (KC_E (KE_CV kX10_isToken (KA_1 KE_V (KA_1 KE_V KA_0))))) (KC_Not (KC_E (KE_CV kX10_isToken (KA_1 KE_V (KA_1 KE_V KA_0)))))) (KS_Ret KE_I) KS_Skip) (KS_Seq (KS_Set (KE_2 (KE_A (KE_F KE_V) KE_V) (KE_A (KE_F KE_V) KE_V))) (KS_Seq (KS_If (KC_B KE_V (KE_2 (KE_A (KE_F KE_V) KE_V) (KE_A (KE_F KE_V) KE_V))) (KS_Ret KE_I) KS_Skip) (KS_Seq (KS_Seq (KS_Set KE_I) (KS_While k_cX10_sameWord_1 k_bX10_sameWord_1 k_uX10_sameWord_1)) (KS_Ret KE_I)))))
theorem kX10_sameWord : KM Wc mX10_sameWord := KM_q k_sX10_sameWord
theorem k_cX5_bearerHere_1 : KC Wc cX5_bearerHere_1 := (KC_B KE_V (KE_F KE_V))
theorem k_bX5_bearerHere_1 : KS Wc bX5_bearerHere_1 := (KS_If (KC_E (KE_CV kX10_sameWord (KA_1 (KE_F KE_V) (KA_1 (KE_A (KE_F KE_V) KE_V) (KA_1 (KE_F KE_V) KA_0))))) (KS_Ret (KE_A (KE_F KE_V) KE_V)) KS_Skip)
theorem k_uX5_bearerHere_1 : KS Wc uX5_bearerHere_1 := KS_Inc
theorem k_sX5_bearerHere : KS Wc sX5_bearerHere := (KS_Seq (KS_Seq (KS_Set KE_I) (KS_While k_cX5_bearerHere_1 k_bX5_bearerHere_1 k_uX5_bearerHere_1)) (KS_Ret KE_I))
theorem kX5_bearerHere : KM Wc mX5_bearerHere := KM_q k_sX5_bearerHere
theorem k_sX5_forecastNumbers : KS Wc sX5_forecastNumbers := (KS_Seq (KS_Put rfl KE_V (KE_CV kX5_takeNumber (KA_1 KE_V (KA_1 KE_I (KA_1 KE_I KA_0))))) (KS_Seq (KS_If (KC_Or (KC_B (KE_F KE_V) KE_I) (KC_Not (KC_E (KE_CV kX5_take (KA_1 KE_V (KA_1 KE_I KA_0)))))) (KS_Ret KE_I) KS_Skip) (KS_Seq (KS_Put rfl KE_V (KE_CV kX5_takeNumber (KA_1 KE_V (KA_1 KE_I (KA_1 KE_I KA_0))))) (KS_Seq (KS_If (KC_B (KE_F KE_V) KE_I) (KS_Ret KE_I) KS_Skip) (KS_Seq (KS_Put rfl KE_V (KE_CV kX5_takeNumber (KA_1 KE_V (KA_1 KE_I (KA_1 KE_I KA_0))))) (KS_Seq (KS_If (KC_B (KE_F KE_V) KE_I) (KS_Ret KE_I) KS_Skip) (KS_Seq (KS_Put rfl KE_V (KE_CV kX5_takeNumber (KA_1 KE_V (KA_1 KE_I (KA_1 KE_I KA_0))))) (KS_Seq (KS_If (KC_Or (KC_B (KE_F KE_V) KE_I) (KC_Not (KC_E (KE_CV kX5_take (KA_1 KE_V (KA_1 KE_I KA_0)))))) (KS_Ret KE_I) KS_Skip) (KS_Seq (KS_Put rfl KE_V (KE_CV kX5_takeNumber (KA_1 KE_V (KA_1 KE_I (KA_1 KE_I KA_0))))) (KS_Ret (KE_B (KC_B (KE_F KE_V) KE_I))))))))))))
theorem kX5_forecastNumbers : KM Wc mX5_forecastNumbers := KM_q k_sX5_forecastNumbers
theorem k_sX5_forecastLine : KS Wc sX5_forecastLine := (KS_Seq (KS_PutC rfl KE_V KE_I) (KS_Seq (KS_If (KC_B (KE_CV kX5_kind (KA_1 KE_V KA_0)) KE_I) (KS_Ret (KE_CV kX5_fail (KA_1 KE_V (KA_1 KE_I KA_0)))) KS_Skip) (KS_Seq (KS_Set (KE_CV kX5_bearerHere (KA_1 KE_V KA_0))) (KS_Seq (KS_If (KC_Or (KC_Or (KC_B KE_V KE_I) (KC_B KE_V KE_I)) (KC_B (KE_F (KE_A (KE_F (KE_F KE_V)) KE_V)) KE_I)) (KS_Ret (KE_CV kX5_fail (KA_1 KE_V (KA_1 KE_I KA_0)))) KS_Skip) (KS_Seq (KS_PutC rfl KE_V KE_I) (KS_Ret (KE_B (KC_And (KC_And (KC_E (KE_CV kX5_take (KA_1 KE_V (KA_1 KE_I KA_0)))) (KC_E (KE_CV kX5_forecastNumbers (KA_1 KE_V (KA_1 (KE_A (KE_F (KE_F KE_V)) KE_V) KA_0))))) (KC_E (KE_CV kX5_take (KA_1 KE_V (KA_1 KE_I KA_0))))))))))))
theorem kX5_forecastLine : KM Wc mX5_forecastLine := KM_q k_sX5_forecastLine
theorem k_sX2_clear : KS Wc sX2_clear := (KS_Seq (KS_Put rfl KE_V KE_I) (KS_Seq (KS_Put rfl KE_V KE_I) (KS_Seq (KS_Put rfl KE_V KE_I) KS_RetV)))
theorem kX2_clear : KM Wc mX2_clear := KM_q k_sX2_clear
theorem k_sX5_bounds : KS Wc sX5_bounds := (KS_Seq (KS_If (KC_B (KE_CV kX5_kind (KA_1 KE_V KA_0)) KE_I) (KS_Seq (KS_PutC rfl KE_V KE_I) (KS_Seq (KS_Put rfl KE_V (KE_CV kX5_takeNumber (KA_1 KE_V (KA_1 KE_I (KA_1 KE_I KA_0))))) (KS_If (KC_B (KE_F KE_V) KE_I) (KS_Ret KE_I) KS_Skip))) KS_Skip) (KS_Seq (KS_If (KC_B (KE_CV kX5_kind (KA_1 KE_V KA_0)) KE_I) (KS_Seq (KS_PutC rfl KE_V KE_I) (KS_Put rfl KE_V (KE_CV kX5_takeNumber (KA_1 KE_V (KA_1 (KE_F KE_V) (KA_1 KE_I KA_0)))))) KS_Skip) (KS_Ret (KE_B (KC_B (KE_F KE_V) KE_I)))))
theorem kX5_bounds : KM Wc mX5_bounds := KM_q k_sX5_bounds
theorem k_sX5_newName : KS Wc sX5_newName := (KS_Seq (KS_If (KC_B (KE_CV kX5_kind (KA_1 KE_V KA_0)) KE_I) (KS_Ret (KE_CV kX5_fail (KA_1 KE_V (KA_1 KE_I KA_0)))) KS_Skip) (KS_Seq (KS_If (KC_B (KE_CV kX5_bearerHere (KA_1 KE_V KA_0)) KE_I) (KS_Ret (KE_CV kX5_fail (KA_1 KE_V (KA_1 KE_I KA_0)))) KS_Skip) (KS_Seq (KS_PutC rfl KE_V KE_I) (KS_Ret KE_I))))
theorem kX5_newName : KM Wc mX5_newName := KM_q k_sX5_newName
theorem k_sX5_remember : KS Wc sX5_remember := (KS_Seq (KS_If (KC_B (KE_F KE_V) (KE_N (KE_F KE_V))) (KS_Seq (KS_Arr (fun _ => rfl) (KE_F KE_V) (KE_F KE_V) KE_V) (KS_Seq (KS_Arr (fun _ => rfl) (KE_F KE_V) (KE_F KE_V) KE_V) (KS_PutC rfl KE_V KE_I))) KS_Skip) KS_RetV)
theorem kX5_remember : KM Wc mX5_remember := KM_q k_sX5_remember
theorem k_sX5_silence : KS Wc sX5_silence := (KS_Seq (KS_If (KC_Not (KC_E (KE_CV kX5_take (KA_1 KE_V (KA_1 KE_I KA_0))))) (KS_Ret KE_I) KS_Skip) (KS_Seq (KS_Put rfl KE_V (KE_CV kX5_takeNumber (KA_1 KE_V (KA_1 KE_I (KA_1 KE_I KA_0))))) (KS_Ret (KE_B (KC_B (KE_F KE_V) KE_I)))))
theorem kX5_silence : KM Wc mX5_silence := KM_q k_sX5_silence
theorem k_sX5_sort : KS Wc sX5_sort := (KS_Seq (KS_Sw (KE_CV kX5_kind (KA_1 KE_V KA_0)) (KF_1 (KS_Seq (KS_Put rfl KE_V KE_I) KS_Brk) (KF_1 (KS_Seq (KS_Put rfl KE_V KE_I) KS_Brk) (KF_1 (KS_Seq (KS_Put rfl KE_V KE_I) KS_Brk) (KF_0 (KS_Ret (KE_CV kX5_fail (KA_1 KE_V (KA_1 KE_I KA_0))))))))) (KS_Seq (KS_PutC rfl KE_V KE_I) (KS_Ret KE_I)))
theorem kX5_sort : KM Wc mX5_sort := KM_q k_sX5_sort
theorem k_sX5_widths : KS Wc sX5_widths := (KS_Seq (KS_If (KC_B (KE_F KE_V) KE_I) (KS_Ret KE_I) KS_Skip) (KS_Seq (KS_Put rfl KE_V (KE_CV kX5_takeNumber (KA_1 KE_V (KA_1 KE_I (KA_1 KE_I KA_0))))) (KS_Seq (KS_If (KC_B (KE_F KE_V) KE_I) (KS_Ret KE_I) KS_Skip) (KS_Seq (KS_Put rfl KE_V (KE_CV kX5_takeNumber (KA_1 KE_V (KA_1 (KE_2 (KE_F KE_V) KE_I) (KA_1 KE_I KA_0))))) (KS_Ret (KE_B (KC_B (KE_F KE_V) KE_I)))))))
theorem kX5_widths : KM Wc mX5_widths := KM_q k_sX5_widths
theorem k_sX5_measureLine : KS Wc sX5_measureLine := (KS_Seq (KS_If (KC_B (KE_F (KE_F KE_V)) KE_I) (KS_Ret (KE_CV kX5_fail (KA_1 KE_V (KA_1 KE_I KA_0)))) KS_Skip) (KS_Seq (KS_Set (KE_A (KE_F (KE_F KE_V)) (KE_F (KE_F KE_V)))) (KS_Seq (KS_Do (KE_CV kX2_clear (KA_1 KE_V KA_0))) (KS_Seq (KS_PutC rfl KE_V KE_I) (KS_Seq (KS_Set (KE_F KE_V)) (KS_Seq (KS_If (KC_Or (KC_Or (KC_Or (KC_Or (KC_Or (KC_Not (KC_E (KE_CV kX5_newName (KA_1 KE_V KA_0)))) (KC_Not (KC_E (KE_CV kX5_sort (KA_1 KE_V (KA_1 KE_V KA_0)))))) (KC_Not (KC_E (KE_CV kX5_widths (KA_1 KE_V (KA_1 KE_V KA_0)))))) (KC_Not (KC_E (KE_CV kX5_silence (KA_1 KE_V (KA_1 KE_V KA_0)))))) (KC_Not (KC_E (KE_CV kX5_bounds (KA_1 KE_V (KA_1 KE_V KA_0)))))) (KC_Not (KC_E (KE_CV kX5_take (KA_1 KE_V (KA_1 KE_I KA_0)))))) (KS_Ret KE_I) KS_Skip) (KS_Seq (KS_Do (KE_CV kX5_remember (KA_1 KE_V (KA_1 KE_V (KA_1 (KE_F (KE_F KE_V)) KA_0))))) (KS_Seq (KS_PutC rfl (KE_F KE_V) KE_I) (KS_Ret KE_I)))))))))
theorem kX5_measureLine : KM Wc mX5_measureLine := KM_q k_sX5_measureLine
theorem k_sX1_endShow : KS Wc sX1_endShow := (KS_Seq (KS_If (KC_B (KE_F KE_V) (KE_N (KE_F KE_V))) (KS_Seq (KS_Arr (fun _ => rfl) (KE_F KE_V) (KE_F KE_V) (KE_F KE_V)) (KS_PutC rfl KE_V KE_I)) KS_Skip) KS_RetV)
theorem kX1_endShow : KM Wc mX1_endShow := KM_q k_sX1_endShow
theorem k_sX5_await : KS Wc sX5_await := (KS_Seq (KS_If (KC_B (KE_F KE_V) (KE_N (KE_F KE_V))) (KS_Seq (KS_Arr (fun _ => rfl) (KE_F KE_V) (KE_F KE_V) KE_V) (KS_PutC rfl KE_V KE_I)) KS_Skip) KS_RetV)
theorem kX5_await : KM Wc mX5_await := KM_q k_sX5_await
theorem k_sX5_rank : KS Wc sX5_rank := (KS_Sw KE_V (KF_1 (KS_Ret KE_I) (KF_1 (KS_Ret KE_I) (KF_1 (KS_Ret KE_I) (KF_0 (KS_Ret KE_I))))))
theorem kX5_rank : KM Wc mX5_rank := KM_q k_sX5_rank
theorem k_sX1_put : KS Wc sX1_put := (KS_Seq (KS_If (KC_B (KE_F KE_V) (KE_N (KE_F KE_V))) (KS_Seq (KS_Arr (fun _ => rfl) (KE_F KE_V) (KE_F KE_V) KE_V) (KS_Seq (KS_Arr (fun _ => rfl) (KE_F KE_V) (KE_F KE_V) KE_V) (KS_PutC rfl KE_V KE_I))) KS_Skip) KS_RetV)
theorem kX1_put : KM Wc mX1_put := KM_q k_sX1_put
theorem k_cX5_release_1 : KC Wc cX5_release_1 := (KC_And (KC_B (KE_F KE_V) KE_I) (KC_B (KE_C kX5_rank (KA_1 (KE_A (KE_F KE_V) (KE_2 (KE_F KE_V) KE_I)) KA_0)) KE_V))
theorem k_bX5_release_1 : KS Wc bX5_release_1 := (KS_Seq (KS_PutC rfl KE_V KE_I) (KS_Do (KE_CV kX1_put (KA_1 (KE_F (KE_F KE_V)) (KA_1 (KE_A (KE_F KE_V) (KE_F KE_V)) (KA_1 KE_I KA_0))))))
theorem k_uX5_release_1 : KS Wc uX5_release_1 := KS_Skip
theorem k_sX5_release : KS Wc sX5_release := (KS_Seq (KS_While k_cX5_release_1 k_bX5_release_1 k_uX5_release_1) KS_RetV)
theorem kX5_release : KM Wc mX5_release := KM_q k_sX5_release
theorem k_sX5_unit : KS Wc sX5_unit := (KS_Seq (KS_Set (KE_CV kX5_kind (KA_1 KE_V KA_0))) (KS_Seq (KS_If (KC_And (KC_And (KC_B KE_V KE_I) (KC_B KE_V KE_I)) (KC_B KE_V KE_I)) (KS_Ret (KE_CV kX5_fail (KA_1 KE_V (KA_1 KE_I KA_0)))) KS_Skip) (KS_Seq (KS_Set (KE_If (KC_B KE_V KE_I) (KE_CV kX10_numberOf (KA_1 (KE_F KE_V) (KA_1 (KE_F KE_V) KA_0))) KE_I)) (KS_Seq (KS_If (KC_B KE_V KE_I) (KS_Ret (KE_CV kX5_fail (KA_1 KE_V (KA_1 KE_I KA_0)))) KS_Skip) (KS_Seq (KS_Set (KE_If (KC_B KE_V KE_I) (KE_CV kX5_bearerHere (KA_1 KE_V KA_0)) KE_I)) (KS_Seq (KS_If (KC_B KE_V KE_I) (KS_Ret (KE_CV kX5_fail (KA_1 KE_V (KA_1 KE_I KA_0)))) KS_Skip) (KS_Seq (KS_If (KC_Or (KC_B (KE_F (KE_F (KE_F KE_V))) KE_I) (KC_B KE_V KE_I)) (KS_Ret (KE_CV kX5_fail (KA_1 KE_V (KA_1 KE_I KA_0)))) KS_Skip) (KS_Seq (KS_PutC rfl (KE_F (KE_F KE_V)) KE_I) (KS_Seq (KS_If (KC_B KE_V KE_I) (KS_Do (KE_CV kX5_await (KA_1 KE_V (KA_1 KE_V KA_0)))) (KS_If (KC_B KE_V KE_I) (KS_Do (KE_CV kX1_put (KA_1 (KE_F (KE_F KE_V)) (KA_1 KE_I (KA_1 (KE_2 KE_V KE_I) KA_0))))) (KS_If (KC_B KE_V KE_I) (KS_Do (KE_CV kX1_put (KA_1 (KE_F (KE_F KE_V)) (KA_1 KE_I (KA_1 KE_V KA_0))))) (KS_Do (KE_CV kX1_put (KA_1 (KE_F (KE_F KE_V)) (KA_1 KE_I (KA_1 (KE_2 KE_V KE_I) KA_0)))))))) (KS_Ret KE_I))))))))))
theorem kX5_unit : KM Wc mX5_unit := KM_q k_sX5_unit
theorem k_cX5_formula_1 : KC Wc cX5_formula_1 := (KC_B KE_V KE_I)
theorem k_bX5_formula_1 : KS Wc bX5_formula_1 := (KS_Seq (KS_Set (KE_CV kX5_kind (KA_1 KE_V KA_0))) (KS_Seq (KS_If (KC_E KE_V) (KS_Seq (KS_If (KC_Not (KC_E (KE_CV kX5_unit (KA_1 KE_V (KA_1 KE_V KA_0))))) (KS_Ret KE_I) KS_Skip) (KS_Seq (KS_Set (KE_B (KC_B KE_V KE_I))) (KS_Set (KE_2 KE_V (KE_If (KC_E KE_V) KE_I KE_I))))) (KS_If (KC_B (KE_C kX5_rank (KA_1 KE_V KA_0)) KE_I) (KS_Seq (KS_Do (KE_CV kX5_release (KA_1 KE_V (KA_1 (KE_C kX5_rank (KA_1 KE_V KA_0)) KA_0)))) (KS_Seq (KS_Do (KE_CV kX5_await (KA_1 KE_V (KA_1 KE_V KA_0)))) (KS_Set KE_I))) (KS_If (KC_And (KC_B KE_V KE_I) (KC_B KE_V KE_I)) (KS_Seq (KS_Do (KE_CV kX5_release (KA_1 KE_V (KA_1 KE_I KA_0)))) (KS_Seq (KS_PutC rfl KE_V KE_I) KS_Inc)) (KS_Seq (KS_Do (KE_CV kX5_release (KA_1 KE_V (KA_1 KE_I KA_0)))) (KS_Ret (KE_If (KC_B KE_V KE_I) (KE_CV kX5_take (KA_1 KE_V (KA_1 KE_I KA_0))) (KE_CV kX5_fail (KA_1 KE_V (KA_1 KE_I KA_0))))))))) (KS_PutC rfl KE_V KE_I)))
theorem k_uX5_formula_1 : KS Wc uX5_formula_1 := KS_Inc
theorem k_sX5_formula : KS Wc sX5_formula := (KS_Seq (KS_Put rfl KE_V KE_I) (KS_Seq (KS_Set KE_I) (KS_Seq (KS_Set KE_I) (KS_Seq (KS_Seq (KS_Set KE_I) (KS_While k_cX5_formula_1 k_bX5_formula_1 k_uX5_formula_1)) (KS_Ret (KE_CV kX5_fail (KA_1 KE_V (KA_1 KE_I KA_0))))))))
theorem kX5_formula : KM Wc mX5_formula := KM_q k_sX5_formula
theorem k_sX5_showLine : KS Wc sX5_showLine := (KS_Seq (KS_If (KC_B (KE_F (KE_F (KE_F KE_V))) KE_I) (KS_Ret (KE_CV kX5_fail (KA_1 KE_V (KA_1 KE_I KA_0)))) KS_Skip) (KS_Seq (KS_PutC rfl KE_V KE_I) (KS_Seq (KS_Set (KE_F KE_V)) (KS_Seq (KS_If (KC_Or (KC_Or (KC_Not (KC_E (KE_CV kX5_newName (KA_1 KE_V KA_0)))) (KC_Not (KC_E (KE_CV kX5_take (KA_1 KE_V (KA_1 KE_I KA_0)))))) (KC_Not (KC_E (KE_CV kX5_formula (KA_1 KE_V KA_0))))) (KS_Ret KE_I) KS_Skip) (KS_Seq (KS_Do (KE_CV kX5_remember (KA_1 KE_V (KA_1 KE_V (KA_1 (KE_2 KE_I (KE_F (KE_F (KE_F KE_V)))) KA_0))))) (KS_Seq (KS_Do (KE_CV kX1_endShow (KA_1 (KE_F (KE_F KE_V)) KA_0))) (KS_Ret KE_I)))))))
theorem kX5_showLine : KM Wc mX5_showLine := KM_q k_sX5_showLine
theorem k_sX5_stepLine : KS Wc sX5_stepLine := (KS_Seq (KS_PutC rfl KE_V KE_I) (KS_Seq (KS_Set (KE_CV kX5_takeNumber (KA_1 KE_V (KA_1 KE_I (KA_1 KE_I KA_0))))) (KS_Seq (KS_If (KC_B KE_V KE_I) (KS_Ret KE_I) KS_Skip) (KS_Seq (KS_Put rfl (KE_F KE_V) KE_V) (KS_Ret (KE_CV kX5_take (KA_1 KE_V (KA_1 KE_I KA_0))))))))
theorem kX5_stepLine : KM Wc mX5_stepLine := KM_q k_sX5_stepLine
theorem k_sX1_clear : KS Wc sX1_clear := (KS_Seq (KS_Put rfl KE_V KE_I) (KS_Seq (KS_Put rfl KE_V KE_I) (KS_Seq (KS_Put rfl KE_V KE_I) KS_RetV)))
theorem kX1_clear : KM Wc mX1_clear := KM_q k_sX1_clear
theorem k_sX6_clear : KS Wc sX6_clear := (KS_Seq (KS_Put rfl KE_V KE_I) (KS_Seq (KS_Put rfl KE_V KE_I) (KS_Seq (KS_Put rfl KE_V KE_I) (KS_Seq (KS_Do (KE_CV kX1_clear (KA_1 (KE_F KE_V) KA_0))) KS_RetV))))
theorem kX6_clear : KM Wc mX6_clear := KM_q k_sX6_clear
theorem k_cX5_parse_1 : KC Wc cX5_parse_1 := (KC_And (KC_And (KC_B KE_V KE_I) (KC_E KE_V)) (KC_B (KE_CV kX5_kind (KA_1 KE_V KA_0)) KE_I))
theorem k_bX5_parse_1 : KS Wc bX5_parse_1 := (KS_Sw (KE_CV kX5_kind (KA_1 KE_V KA_0)) (KF_1 (KS_Seq (KS_Set (KE_CV kX5_measureLine (KA_1 KE_V KA_0))) KS_Brk) (KF_1 (KS_Seq (KS_Set (KE_CV kX5_archiveLine (KA_1 KE_V KA_0))) KS_Brk) (KF_1 (KS_Seq (KS_Set (KE_CV kX5_forecastLine (KA_1 KE_V KA_0))) KS_Brk) (KF_1 (KS_Seq (KS_Set (KE_CV kX5_showLine (KA_1 KE_V KA_0))) KS_Brk) (KF_0 (KS_Seq (KS_Set (KE_CV kX5_fail (KA_1 KE_V (KA_1 KE_I KA_0)))) KS_Brk)))))))
theorem k_uX5_parse_1 : KS Wc uX5_parse_1 := KS_Inc
theorem k_sX5_parse : KS Wc sX5_parse := (KS_Seq (KS_Put rfl KE_V KE_V) (KS_Seq (KS_Put rfl KE_V KE_V) (KS_Seq (KS_Do (KE_CV kX6_clear (KA_1 (KE_F KE_V) KA_0))) (KS_Seq (KS_Put rfl KE_V KE_I) (KS_Seq (KS_Put rfl KE_V KE_I) (KS_Seq (KS_Put rfl KE_V KE_I) (KS_Seq (KS_Put rfl KE_V KE_I) (KS_Seq (KS_If (KC_B (KE_CV kX5_kind (KA_1 KE_V KA_0)) KE_I) (KS_Ret KE_I) KS_Skip) (KS_Seq (KS_If (KC_B (KE_CV kX5_kind (KA_1 KE_V KA_0)) KE_I) (KS_Ret (KE_CV kX5_fail (KA_1 KE_V (KA_1 KE_I KA_0)))) KS_Skip) (KS_Seq (KS_Set (KE_CV kX5_stepLine (KA_1 KE_V KA_0))) (KS_Seq (KS_Seq (KS_Set KE_I) (KS_While k_cX5_parse_1 k_bX5_parse_1 k_uX5_parse_1)) (KS_Ret KE_V))))))))))))
theorem kX5_parse : KM Wc mX5_parse := KM_q k_sX5_parse
theorem k_sX3_begin : KS Wc sX3_begin := (KS_Seq (KS_Put rfl KE_V (KE_F KE_V)) (KS_Seq (KS_Put rfl KE_V (KE_F KE_V)) (KS_Seq (KS_Put rfl KE_V (KE_F KE_V)) (KS_Seq (KS_Put rfl KE_V KE_I) (KS_Seq (KS_Put rfl KE_V KE_I) (KS_Seq (KS_Put rfl KE_V KE_I) (KS_Seq (KS_Put rfl KE_V KE_I) (KS_Seq (KS_Put rfl KE_V KE_I) (KS_Seq (KS_Put rfl KE_V KE_I) (KS_Seq (KS_Put rfl KE_V KE_I) KS_RetV))))))))))
theorem kX3_begin : KM Wc mX3_begin := KM_q k_sX3_begin
theorem k_cX4_begin_1 : KC Wc cX4_begin_1 := (KC_B KE_V KE_I)
theorem k_bX4_begin_1 : KS Wc bX4_begin_1 := (KS_Seq (KS_Arr (fun _ => rfl) (KE_F KE_V) KE_V KE_I) (KS_Arr (fun _ => rfl) (KE_F KE_V) KE_V KE_I))
theorem k_uX4_begin_1 : KS Wc uX4_begin_1 := KS_Inc
theorem k_sX4_begin : KS Wc sX4_begin := (KS_Seq (KS_Put rfl KE_V KE_I) (KS_Seq (KS_Put rfl KE_V KE_I) (KS_Seq (KS_Put rfl KE_V KE_I) (KS_Seq (KS_Put rfl KE_V KE_I) (KS_Seq (KS_Seq (KS_Set KE_I) (KS_While k_cX4_begin_1 k_bX4_begin_1 k_uX4_begin_1)) KS_RetV)))))
theorem kX4_begin : KM Wc mX4_begin := KM_q k_sX4_begin
theorem k_sX9_clear : KS Wc sX9_clear := (KS_Seq (KS_Put rfl KE_V KE_I) (KS_Seq (KS_Put rfl KE_V KE_I) (KS_Seq (KS_Put rfl KE_V KE_I) (KS_Seq (KS_Put rfl KE_V KE_I) (KS_Seq (KS_Put rfl KE_V KE_I) (KS_Seq (KS_Put rfl KE_V KE_I) KS_RetV))))))
theorem kX9_clear : KM Wc mX9_clear := KM_q k_sX9_clear
theorem k_cX7_clearParts_1 : KC Wc cX7_clearParts_1 := (KC_B KE_V KE_I)
theorem k_bX7_clearParts_1 : KS Wc bX7_clearParts_1 := (KS_Do (KE_CV kX9_clear (KA_1 (KE_A (KE_F KE_V) KE_V) KA_0)))
theorem k_uX7_clearParts_1 : KS Wc uX7_clearParts_1 := KS_Inc
theorem k_sX7_clearParts : KS Wc sX7_clearParts := (KS_Seq (KS_Seq (KS_Set KE_I) (KS_While k_cX7_clearParts_1 k_bX7_clearParts_1 k_uX7_clearParts_1)) KS_RetV)
theorem kX7_clearParts : KM Wc mX7_clearParts := KM_q k_sX7_clearParts
theorem k_cX8_begin_1 : KC Wc cX8_begin_1 := (KC_B KE_V KE_I)
theorem k_bX8_begin_1 : KS Wc bX8_begin_1 := (KS_Seq (KS_Do (KE_CV kX3_begin (KA_1 (KE_A (KE_F KE_V) KE_V) (KA_1 (KE_A (KE_F KE_V) KE_V) KA_0)))) (KS_Do (KE_CV kX4_begin (KA_1 (KE_A (KE_F KE_V) KE_V) KA_0))))
theorem k_uX8_begin_1 : KS Wc uX8_begin_1 := KS_Inc
theorem k_cX8_begin_2 : KC Wc cX8_begin_2 := (KC_B KE_V KE_I)
theorem k_bX8_begin_2 : KS Wc bX8_begin_2 := (KS_Do (KE_CV kX7_clearParts (KA_1 (KE_A (KE_F KE_V) KE_V) KA_0)))
theorem k_uX8_begin_2 : KS Wc uX8_begin_2 := KS_Inc
theorem k_sX8_begin : KS Wc sX8_begin := (KS_Seq (KS_Put rfl KE_V KE_I) (KS_Seq (KS_Put rfl KE_V KE_I) (KS_Seq (KS_Seq (KS_Set KE_I) (KS_While k_cX8_begin_1 k_bX8_begin_1 k_uX8_begin_1)) (KS_Seq (KS_Seq (KS_Set KE_I) (KS_While k_cX8_begin_2 k_bX8_begin_2 k_uX8_begin_2)) KS_RetV))))
theorem kX8_begin : KM Wc mX8_begin := KM_q k_sX8_begin
theorem k_sX10_add : KS Wc sX10_add := (KS_Seq (KS_If (KC_B (KE_F KE_V) (KE_N (KE_F KE_V))) (KS_Seq (KS_Arr (fun _ => rfl) (KE_F KE_V) (KE_F KE_V) KE_V) (KS_Seq (KS_Arr (fun _ => rfl) (KE_F KE_V) (KE_F KE_V) KE_V) (KS_Seq (KS_Arr (fun _ => rfl) (KE_F KE_V) (KE_F KE_V) KE_V) (KS_PutC rfl KE_V KE_I)))) KS_Skip) KS_RetV)
theorem kX10_add : KM Wc mX10_add := KM_q k_sX10_add
theorem k_sX10_isBlank : KS Wc sX10_isBlank := (KS_Ret (KE_B (KC_Or (KC_B KE_V KE_I) (KC_B KE_V KE_I))))
theorem kX10_isBlank : KM Wc mX10_isBlank := KM_q k_sX10_isBlank
theorem k_sX10_isDigit : KS Wc sX10_isDigit := (KS_Ret (KE_B (KC_And (KC_B KE_V KE_I) (KC_B KE_V KE_I))))
theorem kX10_isDigit : KM Wc mX10_isDigit := KM_q k_sX10_isDigit
theorem k_sX10_isLetter : KS Wc sX10_isLetter := (KS_Ret (KE_B (KC_And (KC_B KE_V KE_I) (KC_B KE_V KE_I))))
theorem kX10_isLetter : KM Wc mX10_isLetter := KM_q k_sX10_isLetter
theorem k_cX10_wordKind_1 : KC Wc cX10_wordKind_1 := (KC_B KE_V KE_SL)
theorem k_bX10_wordKind_1 : KS Wc bX10_wordKind_1 := (KS_Seq (KS_Set (KE_SA KE_V)) (KS_If (KC_B KE_V KE_I) (KS_Seq (KS_Set (KE_B (KC_And (KC_And (KC_E KE_V) (KC_B KE_V KE_V)) (KC_B (KE_A (KE_F KE_V) KE_V) KE_V)))) KS_Inc) (KS_If (KC_And (KC_E KE_V) (KC_B KE_V KE_V)) (KS_Ret KE_V) (KS_Seq KS_Inc (KS_Seq (KS_Set KE_V) (KS_Set KE_I))))))
theorem k_uX10_wordKind_1 : KS Wc uX10_wordKind_1 := KS_Inc
theorem k_sX10_wordKind : KS Wc sX10_wordKind := (KS_Seq (KS_Set KE_I) (KS_Seq (KS_Set KE_V) (KS_Seq (KS_Set KE_I) (KS_Seq (KS_Seq (KS_Set KE_I) (KS_While k_cX10_wordKind_1 k_bX10_wordKind_1 k_uX10_wordKind_1)) (KS_Ret KE_I)))))
theorem kX10_wordKind : KM Wc mX10_wordKind := KM_q k_sX10_wordKind
theorem k_sX10_kindOf : KS Wc sX10_kindOf := (KS_Seq (KS_Set (KE_A (KE_F KE_V) KE_V)) (KS_Seq (KS_If (KC_E (KE_C kX10_isLetter (KA_1 KE_V KA_0))) (KS_Ret (KE_CV kX10_wordKind (KA_1 KE_V (KA_1 KE_V (KA_1 KE_V KA_0))))) KS_Skip) (KS_Seq (KS_If (KC_E (KE_C kX10_isDigit (KA_1 KE_V KA_0))) (KS_Ret KE_I) KS_Skip) (KS_Seq (KS_Set (KE_B (KC_Or (KC_Or (KC_Or (KC_Or (KC_Or (KC_Or (KC_Or (KC_B KE_V KE_I) (KC_B KE_V KE_I)) (KC_B KE_V KE_I)) (KC_B KE_V KE_I)) (KC_B KE_V KE_I)) (KC_B KE_V KE_I)) (KC_B KE_V KE_I)) (KC_B KE_V KE_I)))) (KS_Ret (KE_If (KC_E KE_V) KE_V KE_I))))))
theorem kX10_kindOf : KM Wc mX10_kindOf := KM_q k_sX10_kindOf
theorem k_cX10_stopOf_1 : KC Wc cX10_stopOf_1 := (KC_And (KC_B KE_V (KE_F KE_V)) (KC_E (KE_C kX10_isLetter (KA_1 (KE_A (KE_F KE_V) KE_V) KA_0))))
theorem k_bX10_stopOf_1 : KS Wc bX10_stopOf_1 := KS_Inc
theorem k_uX10_stopOf_1 : KS Wc uX10_stopOf_1 := KS_Skip
theorem k_cX10_stopOf_2 : KC Wc cX10_stopOf_2 := (KC_And (KC_B KE_V (KE_F KE_V)) (KC_E (KE_C kX10_isDigit (KA_1 (KE_A (KE_F KE_V) KE_V) KA_0))))
theorem k_bX10_stopOf_2 : KS Wc bX10_stopOf_2 := KS_Inc
theorem k_uX10_stopOf_2 : KS Wc uX10_stopOf_2 := KS_Skip
theorem k_sX10_stopOf : KS Wc sX10_stopOf := (KS_Seq (KS_Set (KE_2 KE_V KE_I)) (KS_Seq (KS_If (KC_E (KE_C kX10_isLetter (KA_1 (KE_A (KE_F KE_V) KE_V) KA_0))) (KS_While k_cX10_stopOf_1 k_bX10_stopOf_1 k_uX10_stopOf_1) (KS_If (KC_E (KE_C kX10_isDigit (KA_1 (KE_A (KE_F KE_V) KE_V) KA_0))) (KS_While k_cX10_stopOf_2 k_bX10_stopOf_2 k_uX10_stopOf_2) KS_Skip)) (KS_Ret KE_V)))
theorem kX10_stopOf : KM Wc mX10_stopOf := KM_q k_sX10_stopOf
theorem k_cX10_scan_1 : KC Wc cX10_scan_1 := (KC_And (KC_B KE_V KE_I) (KC_B KE_V (KE_F KE_V)))
theorem k_bX10_scan_1 : KS Wc bX10_scan_1 := (KS_Seq (KS_Set (KE_2 KE_V KE_I)) (KS_Seq (KS_If (KC_Not (KC_E (KE_C kX10_isBlank (KA_1 (KE_A (KE_F KE_V) KE_V) KA_0)))) (KS_Seq (KS_Set (KE_CV kX10_stopOf (KA_1 KE_V (KA_1 KE_V KA_0)))) (KS_Do (KE_CV kX10_add (KA_1 KE_V (KA_1 (KE_CV kX10_kindOf (KA_1 KE_V (KA_1 KE_V (KA_1 KE_V KA_0)))) (KA_1 KE_V (KA_1 KE_V KA_0))))))) KS_Skip) (KS_Set KE_V)))
theorem k_uX10_scan_1 : KS Wc uX10_scan_1 := KS_Inc
theorem k_sX10_scan : KS Wc sX10_scan := (KS_Seq (KS_Put rfl KE_V KE_I) (KS_Seq (KS_Set KE_I) (KS_Seq (KS_Seq (KS_Set KE_I) (KS_While k_cX10_scan_1 k_bX10_scan_1 k_uX10_scan_1)) KS_RetV)))
theorem kX10_scan : KM Wc mX10_scan := KM_q k_sX10_scan
theorem k_cX11_store_1 : KC Wc cX11_store_1 := (KC_B KE_V KE_I)
theorem k_bX11_store_1 : KS Wc bX11_store_1 := (KS_Arr (fun _ => rfl) (KE_F KE_V) KE_V KE_I)
theorem k_uX11_store_1 : KS Wc uX11_store_1 := KS_Inc
theorem k_sX11_store : KS Wc sX11_store := (KS_Seq (KS_Do (KE_CV kX10_scan (KA_1 (KE_F KE_V) KA_0))) (KS_Seq (KS_Set (KE_CV kX5_parse (KA_1 (KE_F KE_V) (KA_1 (KE_F KE_V) (KA_1 (KE_F KE_V) KA_0))))) (KS_Seq (KS_Put rfl KE_V (KE_F (KE_F KE_V))) (KS_Seq (KS_Put rfl KE_V (KE_F (KE_F KE_V))) (KS_Seq (KS_Put rfl (KE_F KE_V) KE_I) (KS_Seq (KS_If (KC_Not (KC_E KE_V)) (KS_Ret KE_I) KS_Skip) (KS_Seq (KS_Set (KE_F KE_V)) (KS_Seq (KS_Put rfl KE_V (KE_F KE_V)) (KS_Seq (KS_Put rfl KE_V KE_V) (KS_Seq (KS_Do (KE_CV kX8_begin (KA_1 (KE_CV kX11_now (KA_1 KE_V KA_0)) (KA_1 (KE_F KE_V) KA_0)))) (KS_Seq (KS_Do (KE_CV kX11_forgetActs (KA_1 KE_V KA_0))) (KS_Seq (KS_Seq (KS_Set KE_I) (KS_While k_cX11_store_1 k_bX11_store_1 k_uX11_store_1)) (KS_Ret (KE_F (KE_F KE_V)))))))))))))))
theorem kX11_store : KM Wc mX11_store := KM_q k_sX11_store
theorem k_sX11_fault : KS Wc sX11_fault := (KS_Sw KE_V (KF_1 (KS_Ret (KE_F KE_V)) (KF_1 (KS_Ret (KE_F KE_V)) (KF_0 (KS_Ret KE_I)))))
theorem kX11_fault : KM Wc mX11_fault := KM_q k_sX11_fault
theorem k_sX11_canPass : KS Wc sX11_canPass := (KS_Ret (KE_B (KC_And (KC_And (KC_B KE_V KE_I) (KC_B KE_V KE_I)) (KC_B KE_V (KE_2 KE_I (KE_F (KE_CV kX11_now (KA_1 KE_V KA_0))))))))
theorem kX11_canPass : KM Wc mX11_canPass := KM_q k_sX11_canPass
theorem k_sX3_copy : KS Wc sX3_copy := (KS_Seq (KS_Put rfl KE_V (KE_F KE_V)) (KS_Seq (KS_Put rfl KE_V (KE_F KE_V)) (KS_Seq (KS_Put rfl KE_V (KE_F KE_V)) (KS_Seq (KS_Put rfl KE_V (KE_F KE_V)) (KS_Seq (KS_Put rfl KE_V (KE_F KE_V)) (KS_Seq (KS_Put rfl KE_V (KE_F KE_V)) (KS_Seq (KS_Put rfl KE_V (KE_F KE_V)) (KS_Seq (KS_Put rfl KE_V (KE_F KE_V)) (KS_Seq (KS_Put rfl KE_V (KE_F KE_V)) (KS_Seq (KS_Put rfl KE_V (KE_F KE_V)) KS_RetV))))))))))
theorem kX3_copy : KM Wc mX3_copy := KM_q k_sX3_copy
theorem k_sX4_copy : KS Wc sX4_copy := (KS_Seq (KS_Put rfl KE_V (KE_F KE_V)) (KS_Seq (KS_Put rfl KE_V (KE_F KE_V)) (KS_Seq (KS_Put rfl KE_V (KE_F KE_V)) (KS_Seq (KS_Put rfl KE_V (KE_F KE_V)) (KS_Seq (KS_Copy (fun _ => rfl) (KE_F KE_V) KE_I (KE_F KE_V) KE_I KE_I) (KS_Seq (KS_Copy (fun _ => rfl) (KE_F KE_V) KE_I (KE_F KE_V) KE_I KE_I) (KS_Seq (KS_Copy (fun _ => rfl) (KE_F KE_V) KE_I (KE_F KE_V) KE_I KE_I) (KS_Seq (KS_Copy (fun _ => rfl) (KE_F KE_V) KE_I (KE_F KE_V) KE_I KE_I) KS_RetV))))))))
theorem kX4_copy : KM Wc mX4_copy := KM_q k_sX4_copy
theorem k_sX9_copy : KS Wc sX9_copy := (KS_Seq (KS_Put rfl KE_V (KE_F KE_V)) (KS_Seq (KS_Put rfl KE_V (KE_F KE_V)) (KS_Seq (KS_Put rfl KE_V (KE_F KE_V)) (KS_Seq (KS_Put rfl KE_V (KE_F KE_V)) (KS_Seq (KS_Put rfl KE_V (KE_F KE_V)) (KS_Seq (KS_Put rfl KE_V (KE_F KE_V)) KS_RetV))))))
theorem kX9_copy : KM Wc mX9_copy := KM_q k_sX9_copy
theorem k_cX7_copy_1 : KC Wc cX7_copy_1 := (KC_B KE_V KE_I)
theorem k_bX7_copy_1 : KS Wc bX7_copy_1 := (KS_Do (KE_CV kX9_copy (KA_1 (KE_A (KE_F KE_V) KE_V) (KA_1 (KE_A (KE_F KE_V) KE_V) KA_0))))
theorem k_uX7_copy_1 : KS Wc uX7_copy_1 := KS_Inc
theorem k_sX7_copy : KS Wc sX7_copy := (KS_Seq (KS_Copy (fun _ => rfl) (KE_F KE_V) KE_I (KE_F KE_V) KE_I KE_I) (KS_Seq (KS_Seq (KS_Set KE_I) (KS_While k_cX7_copy_1 k_bX7_copy_1 k_uX7_copy_1)) KS_RetV))
theorem kX7_copy : KM Wc mX7_copy := KM_q k_sX7_copy
theorem k_cX8_copy_1 : KC Wc cX8_copy_1 := (KC_B KE_V KE_I)
theorem k_bX8_copy_1 : KS Wc bX8_copy_1 := (KS_Seq (KS_Do (KE_CV kX3_copy (KA_1 (KE_A (KE_F KE_V) KE_V) (KA_1 (KE_A (KE_F KE_V) KE_V) KA_0)))) (KS_Do (KE_CV kX4_copy (KA_1 (KE_A (KE_F KE_V) KE_V) (KA_1 (KE_A (KE_F KE_V) KE_V) KA_0)))))
theorem k_uX8_copy_1 : KS Wc uX8_copy_1 := KS_Inc
theorem k_cX8_copy_2 : KC Wc cX8_copy_2 := (KC_B KE_V KE_I)
theorem k_bX8_copy_2 : KS Wc bX8_copy_2 := (KS_Do (KE_CV kX7_copy (KA_1 (KE_A (KE_F KE_V) KE_V) (KA_1 (KE_A (KE_F KE_V) KE_V) KA_0))))
theorem k_uX8_copy_2 : KS Wc uX8_copy_2 := KS_Inc
theorem k_sX8_copy : KS Wc sX8_copy := (KS_Seq (KS_Put rfl KE_V (KE_F KE_V)) (KS_Seq (KS_Put rfl KE_V (KE_F KE_V)) (KS_Seq (KS_Seq (KS_Set KE_I) (KS_While k_cX8_copy_1 k_bX8_copy_1 k_uX8_copy_1)) (KS_Seq (KS_Seq (KS_Set KE_I) (KS_While k_cX8_copy_2 k_bX8_copy_2 k_uX8_copy_2)) KS_RetV))))
theorem kX8_copy : KM Wc mX8_copy := KM_q k_sX8_copy
theorem k_sX11_newAct : KS Wc sX11_newAct := (KS_Seq (KS_Set (KE_D (KE_2 (KE_F KE_V) KE_I) KE_I)) (KS_Seq (KS_Do (KE_CV kX8_copy (KA_1 (KE_A (KE_F KE_V) KE_V) (KA_1 (KE_A (KE_F KE_V) (KE_F KE_V)) KA_0)))) (KS_Seq (KS_Put rfl KE_V KE_V) (KS_Seq (KS_Put rfl KE_V (KE_2 (KE_2 (KE_F KE_V) KE_I) KE_I)) (KS_Seq (KS_Put rfl KE_V KE_I) (KS_Ret (KE_A (KE_F KE_V) KE_V)))))))
theorem kX11_newAct : KM Wc mX11_newAct := KM_q k_sX11_newAct
theorem k_sX11_quotient_ : KS Wc sX11_quotient_ := (KS_Ret (KE_If (KC_B KE_V KE_I) KE_I (KE_D KE_V KE_V)))
theorem kX11_quotient_ : KM Wc mX11_quotient_ := KM_q k_sX11_quotient_
theorem k_sX11_remainder : KS Wc sX11_remainder := (KS_Ret (KE_If (KC_B KE_V KE_I) KE_I (KE_D KE_V KE_V)))
theorem kX11_remainder : KM Wc mX11_remainder := KM_q k_sX11_remainder
theorem k_sX3_gather : KS Wc sX3_gather := (KS_Seq (KS_If (KC_B (KE_F KE_V) KE_I) (KS_Seq (KS_PutC rfl KE_V (KE_2 (KE_F KE_V) KE_V)) (KS_PutC rfl KE_V KE_V)) KS_Skip) KS_RetV)
theorem kX3_gather : KM Wc mX3_gather := KM_q k_sX3_gather
theorem k_sX2_numberMost : KS Wc sX2_numberMost := (KS_Ret (KE_If (KC_B (KE_F KE_V) KE_I) (KE_2 KE_I (KE_2 (KE_2 KE_I (KE_F KE_V)) KE_I)) KE_I))
theorem kX2_numberMost : KM Wc mX2_numberMost := KM_q k_sX2_numberMost
theorem k_sX11_quotient : KS Wc sX11_quotient := (KS_Ret (KE_If (KC_B KE_V KE_I) KE_I (KE_D KE_V KE_V)))
theorem kX11_quotient : KM Wc mX11_quotient := KM_q k_sX11_quotient
theorem k_sX3_risen : KS Wc sX3_risen := (KS_Seq (KS_Set (KE_2 KE_V (KE_F KE_V))) (KS_Seq (KS_If (KC_B KE_V KE_I) (KS_Ret KE_V) KS_Skip) (KS_Seq (KS_Set (KE_2 KE_V (KE_2 KE_I (KE_F KE_V)))) (KS_Ret (KE_If (KC_B KE_V KE_I) KE_V (KE_2 KE_V (KE_2 KE_I (KE_F KE_V))))))))
theorem kX3_risen : KM Wc mX3_risen := KM_q k_sX3_risen
theorem k_sX3_rateBy : KS Wc sX3_rateBy := (KS_Seq (KS_If (KC_Or (KC_Or (KC_B KE_V (KE_F KE_V)) (KC_B KE_V KE_I)) (KC_B KE_V (KE_CV kX2_numberMost (KA_1 KE_V KA_0)))) (KS_Ret KE_I) KS_Skip) (KS_Seq (KS_If (KC_And (KC_B (KE_F KE_V) KE_I) (KC_B (KE_F KE_V) KE_I)) (KS_Ret KE_I) KS_Skip) (KS_Seq (KS_Set (KE_If (KC_B (KE_F KE_V) KE_I) (KE_CV kX3_risen (KA_1 KE_V (KA_1 KE_V (KA_1 KE_V KA_0)))) KE_V)) (KS_Seq (KS_Set (KE_C kX11_quotient (KA_1 (KE_2 KE_V KE_I) (KA_1 (KE_If (KC_B (KE_F KE_V) KE_I) KE_I KE_V) KA_0)))) (KS_Ret (KE_If (KC_Or (KC_B KE_V (KE_2 (KE_F KE_V) KE_I)) (KC_B KE_V (KE_2 (KE_F KE_V) KE_I))) KE_I (KE_1 KE_V)))))))
theorem kX3_rateBy : KM Wc mX3_rateBy := KM_q k_sX3_rateBy
theorem k_sX3_hear : KS Wc sX3_hear := (KS_Seq (KS_Put rfl KE_V (KE_CV kX3_rateBy (KA_1 KE_V (KA_1 KE_V (KA_1 KE_V (KA_1 KE_V KA_0)))))) (KS_Seq (KS_If (KC_B (KE_F KE_V) KE_I) (KS_Put rfl KE_V (KE_If (KC_Or (KC_B KE_V KE_I) (KC_B KE_V (KE_CV kX2_numberMost (KA_1 KE_V KA_0)))) KE_I KE_V)) KS_Skip) KS_RetV))
theorem kX3_hear : KM Wc mX3_hear := KM_q k_sX3_hear
theorem k_sX11_valueOf : KS Wc sX11_valueOf := (KS_Ret (KE_If (KC_B (KE_2 KE_I (KE_2 KE_V KE_V)) KE_V) KE_I (KE_1 (KE_C kX11_quotient (KA_1 KE_V (KA_1 KE_V KA_0))))))
theorem kX11_valueOf : KM Wc mX11_valueOf := KM_q k_sX11_valueOf
theorem k_sX3_endStep : KS Wc sX3_endStep := (KS_Seq (KS_Put rfl KE_V (KE_C kX11_valueOf (KA_1 (KE_F KE_V) (KA_1 (KE_F KE_V) (KA_1 KE_V KA_0))))) (KS_Seq (KS_Put rfl KE_V KE_I) (KS_Seq (KS_Put rfl KE_V KE_I) (KS_Seq (KS_If (KC_B (KE_F KE_V) KE_I) (KS_Seq (KS_Put rfl KE_V (KE_2 (KE_F KE_V) (KE_F KE_V))) (KS_Put rfl KE_V (KE_2 (KE_F KE_V) (KE_F KE_V)))) KS_Skip) KS_RetV))))
theorem kX3_endStep : KM Wc mX3_endStep := KM_q k_sX3_endStep
theorem k_sX11_held : KS Wc sX11_held := (KS_Seq (KS_If (KC_B KE_V KE_I) (KS_Ret KE_I) KS_Skip) (KS_Ret (KE_If (KC_B KE_V KE_I) KE_I (KE_1 KE_V))))
theorem kX11_held : KM Wc mX11_held := KM_q k_sX11_held
theorem k_sX4_keep : KS Wc sX4_keep := (KS_Seq (KS_Set (KE_D (KE_F KE_V) KE_I)) (KS_Seq (KS_If (KC_B KE_V KE_I) (KS_Seq (KS_Arr (fun _ => rfl) (KE_F KE_V) KE_V KE_V) (KS_Seq (KS_Arr (fun _ => rfl) (KE_F KE_V) KE_V KE_V) (KS_PutC rfl KE_V KE_I))) KS_Skip) KS_RetV))
theorem kX4_keep : KM Wc mX4_keep := KM_q k_sX4_keep
theorem k_sX4_mixed : KS Wc sX4_mixed := (KS_Ret (KE_C kX11_held (KA_1 (KE_D (KE_2 (KE_2 KE_V KE_V) (KE_2 (KE_2 KE_I KE_V) KE_V)) KE_I) KA_0)))
theorem kX4_mixed : KM Wc mX4_mixed := KM_q k_sX4_mixed
theorem k_cX4_tellAhead_1 : KC Wc cX4_tellAhead_1 := (KC_B KE_V KE_V)
theorem k_bX4_tellAhead_1 : KS Wc bX4_tellAhead_1 := (KS_Set (KE_C kX11_held (KA_1 (KE_2 KE_V (KE_F KE_V)) KA_0)))
theorem k_uX4_tellAhead_1 : KS Wc uX4_tellAhead_1 := KS_Inc
theorem k_sX4_tellAhead : KS Wc sX4_tellAhead := (KS_Seq (KS_Set (KE_F KE_V)) (KS_Seq (KS_Seq (KS_Set KE_I) (KS_While k_cX4_tellAhead_1 k_bX4_tellAhead_1 k_uX4_tellAhead_1)) (KS_Seq (KS_Set (KE_If (KC_And (KC_B KE_V KE_I) (KC_B KE_V KE_I)) (KE_A (KE_F KE_V) KE_V) KE_I)) (KS_Ret (KE_C kX11_held (KA_1 (KE_2 (KE_2 KE_V (KE_F KE_V)) KE_V) KA_0))))))
theorem kX4_tellAhead : KM Wc mX4_tellAhead := KM_q k_sX4_tellAhead
theorem k_sX4_follow : KS Wc sX4_follow := (KS_Seq (KS_If (KC_Or (KC_B KE_V KE_I) (KC_B KE_V KE_I)) KS_RetV KS_Skip) (KS_Seq (KS_If (KC_Not (KC_E (KE_F KE_V))) (KS_Seq (KS_Put rfl KE_V (KE_B (KC_B KE_V KE_I))) (KS_Seq (KS_Put rfl KE_V (KE_If (KC_E (KE_F KE_V)) KE_V KE_I)) KS_RetV)) KS_Skip) (KS_Seq (KS_Set (KE_CV kX4_tellAhead (KA_1 KE_V (KA_1 KE_I (KA_1 KE_V KA_0))))) (KS_Seq (KS_If (KC_B KE_V KE_I) (KS_Seq (KS_Do (KE_CV kX4_keep (KA_1 KE_V (KA_1 KE_V (KA_1 KE_I KA_0))))) (KS_Seq (KS_Put rfl KE_V (KE_C kX11_held (KA_1 (KE_2 (KE_F KE_V) (KE_F KE_V)) KA_0))) KS_RetV)) KS_Skip) (KS_Seq (KS_Set (KE_1 (KE_2 KE_V KE_V))) (KS_Seq (KS_Do (KE_CV kX4_keep (KA_1 KE_V (KA_1 KE_V (KA_1 (KE_B (KC_And (KC_B (KE_A (KE_F KE_V) KE_V) KE_I) (KC_B KE_V (KE_2 (KE_F KE_V) (KE_A (KE_F KE_V) KE_V))))) KA_0))))) (KS_Seq (KS_Set (KE_C kX4_mixed (KA_1 (KE_F KE_V) (KA_1 (KE_2 KE_V (KE_A (KE_F KE_V) KE_V)) (KA_1 (KE_2 (KE_F KE_V) (KE_F KE_V)) KA_0))))) (KS_Seq (KS_Put rfl KE_V (KE_C kX4_mixed (KA_1 (KE_F KE_V) (KA_1 (KE_2 KE_V (KE_F KE_V)) (KA_1 (KE_F KE_V) KA_0))))) (KS_Seq (KS_Put rfl KE_V KE_V) (KS_Seq (KS_Arr (fun _ => rfl) (KE_F KE_V) KE_V (KE_C kX4_mixed (KA_1 (KE_F KE_V) (KA_1 (KE_2 KE_V KE_V) (KA_1 (KE_A (KE_F KE_V) KE_V) KA_0))))) (KS_Seq (KS_Arr (fun _ => rfl) (KE_F KE_V) KE_V (KE_C kX4_mixed (KA_1 (KE_F KE_V) (KA_1 KE_V (KA_1 (KE_A (KE_F KE_V) KE_V) KA_0))))) KS_RetV)))))))))))
theorem kX4_follow : KM Wc mX4_follow := KM_q k_sX4_follow
theorem k_sX9_mean : KS Wc sX9_mean := (KS_Ret (KE_If (KC_B (KE_F KE_V) KE_I) KE_I (KE_1 (KE_D (KE_F KE_V) (KE_F KE_V)))))
theorem kX9_mean : KM Wc mX9_mean := KM_q k_sX9_mean
theorem k_sX9_by : KS Wc sX9_by := (KS_Sw KE_V (KF_1 (KS_Ret (KE_CV kX9_mean (KA_1 KE_V KA_0))) (KF_1 (KS_Ret (KE_F KE_V)) (KF_1 (KS_Ret (KE_F KE_V)) (KF_0 (KS_Ret (KE_F KE_V)))))))
theorem kX9_by : KM Wc mX9_by := KM_q k_sX9_by
theorem k_cX7_endRow_1 : KC Wc cX7_endRow_1 := (KC_B KE_V KE_I)
theorem k_bX7_endRow_1 : KS Wc bX7_endRow_1 := (KS_Seq (KS_Set (KE_B (KC_B (KE_2 KE_I (KE_2 (KE_F KE_V) (KE_F (KE_A (KE_F KE_V) KE_V)))) (KE_2 (KE_F KE_V) (KE_F KE_V))))) (KS_Arr (fun _ => rfl) (KE_F KE_V) (KE_2 (KE_2 (KE_D KE_V KE_I) KE_I) KE_V) (KE_If (KC_E KE_V) (KE_CV kX9_by (KA_1 (KE_A (KE_F KE_V) KE_V) (KA_1 (KE_F KE_V) KA_0))) KE_I)))
theorem k_uX7_endRow_1 : KS Wc uX7_endRow_1 := KS_Inc
theorem k_sX7_endRow : KS Wc sX7_endRow := (KS_Seq (KS_If (KC_B KE_V KE_I) KS_RetV KS_Skip) (KS_Seq (KS_Seq (KS_Set KE_I) (KS_While k_cX7_endRow_1 k_bX7_endRow_1 k_uX7_endRow_1)) (KS_Seq (KS_Do (KE_CV kX7_clearParts (KA_1 KE_V KA_0))) KS_RetV)))
theorem kX7_endRow : KM Wc mX7_endRow := KM_q k_sX7_endRow
theorem k_sX9_add : KS Wc sX9_add := (KS_Seq (KS_If (KC_B KE_V KE_I) KS_RetV KS_Skip) (KS_Seq (KS_Put rfl KE_V (KE_If (KC_B (KE_F KE_V) KE_I) KE_V (KE_2 (KE_F KE_V) KE_V))) (KS_Seq (KS_Put rfl KE_V (KE_If (KC_B (KE_F KE_V) KE_I) KE_V (KE_2 (KE_F KE_V) KE_V))) (KS_Seq (KS_Put rfl KE_V KE_V) (KS_Seq (KS_PutC rfl KE_V (KE_2 KE_V KE_V)) (KS_Seq (KS_PutC rfl KE_V KE_V) (KS_Seq (KS_PutC rfl KE_V KE_I) KS_RetV)))))))
theorem kX9_add : KM Wc mX9_add := KM_q k_sX9_add
theorem k_cX8_endStep_2 : KC Wc cX8_endStep_2 := (KC_B KE_V (KE_F KE_V))
theorem k_bX8_endStep_2 : KS Wc bX8_endStep_2 := (KS_Do (KE_CV kX9_add (KA_1 (KE_A (KE_F (KE_A (KE_F KE_V) KE_V)) KE_V) (KA_1 (KE_F KE_V) (KA_1 KE_V KA_0)))))
theorem k_uX8_endStep_2 : KS Wc uX8_endStep_2 := KS_Inc
theorem k_cX8_endStep_1 : KC Wc cX8_endStep_1 := (KC_B KE_V (KE_F KE_V))
theorem k_bX8_endStep_1 : KS Wc bX8_endStep_1 := (KS_Seq (KS_Set (KE_A (KE_F KE_V) KE_V)) (KS_Seq (KS_Set (KE_A (KE_F KE_V) KE_V)) (KS_Seq (KS_Set (KE_F KE_V)) (KS_Seq (KS_Do (KE_CV kX3_endStep (KA_1 KE_V (KA_1 (KE_F KE_V) KA_0)))) (KS_Seq (KS_Seq (KS_Set KE_I) (KS_While k_cX8_endStep_2 k_bX8_endStep_2 k_uX8_endStep_2)) (KS_If (KC_B (KE_F KE_V) KE_I) (KS_Do (KE_CV kX4_follow (KA_1 (KE_A (KE_F KE_V) KE_V) (KA_1 KE_V (KA_1 (KE_C kX11_remainder (KA_1 (KE_2 KE_V KE_I) (KA_1 (KE_F KE_V) KA_0))) (KA_1 (KE_F KE_V) KA_0)))))) KS_Skip))))))
theorem k_uX8_endStep_1 : KS Wc uX8_endStep_1 := KS_Inc
theorem k_cX8_endStep_3 : KC Wc cX8_endStep_3 := (KC_B KE_V (KE_F KE_V))
theorem k_bX8_endStep_3 : KS Wc bX8_endStep_3 := (KS_Seq (KS_Set (KE_A (KE_F KE_V) KE_V)) (KS_If (KC_B (KE_C kX11_remainder (KA_1 KE_V (KA_1 (KE_F KE_V) KA_0))) KE_I) (KS_Do (KE_CV kX7_endRow (KA_1 (KE_A (KE_F KE_V) KE_V) (KA_1 KE_V (KA_1 (KE_2 (KE_C kX11_quotient_ (KA_1 KE_V (KA_1 (KE_F KE_V) KA_0))) KE_I) KA_0))))) KS_Skip))
theorem k_uX8_endStep_3 : KS Wc uX8_endStep_3 := KS_Inc
theorem k_sX8_endStep : KS Wc sX8_endStep := (KS_Seq (KS_Seq (KS_Set KE_I) (KS_While k_cX8_endStep_1 k_bX8_endStep_1 k_uX8_endStep_1)) (KS_Seq (KS_Seq (KS_Set KE_I) (KS_While k_cX8_endStep_3 k_bX8_endStep_3 k_uX8_endStep_3)) KS_RetV))
theorem kX8_endStep : KM Wc mX8_endStep := KM_q k_sX8_endStep
theorem k_cX8_pass_1 : KC Wc cX8_pass_1 := (KC_And (KC_B KE_V (KE_F KE_V)) (KC_B KE_V (KE_N KE_V)))
theorem k_bX8_pass_1 : KS Wc bX8_pass_1 := (KS_Do (KE_CV kX3_hear (KA_1 (KE_A (KE_F KE_V) KE_V) (KA_1 (KE_A (KE_F KE_V) KE_V) (KA_1 KE_V (KA_1 (KE_A KE_V KE_V) KA_0))))))
theorem k_uX8_pass_1 : KS Wc uX8_pass_1 := KS_Inc
theorem k_cX8_pass_3 : KC Wc cX8_pass_3 := (KC_B KE_V (KE_F KE_V))
theorem k_bX8_pass_3 : KS Wc bX8_pass_3 := (KS_Do (KE_CV kX3_gather (KA_1 (KE_A (KE_F KE_V) KE_V) (KA_1 KE_V KA_0))))
theorem k_uX8_pass_3 : KS Wc uX8_pass_3 := KS_Inc
theorem k_cX8_pass_2 : KC Wc cX8_pass_2 := (KC_And (KC_B KE_V KE_V) (KC_B KE_V KE_I))
theorem k_bX8_pass_2 : KS Wc bX8_pass_2 := (KS_Seq (KS_Set (KE_2 KE_V (KE_2 (KE_F KE_V) (KE_C kX11_remainder (KA_1 (KE_F KE_V) (KA_1 (KE_F KE_V) KA_0)))))) (KS_Seq (KS_Seq (KS_Set KE_I) (KS_While k_cX8_pass_3 k_bX8_pass_3 k_uX8_pass_3)) (KS_Seq (KS_PutC rfl KE_V KE_V) (KS_Seq (KS_Set (KE_2 KE_V KE_V)) (KS_If (KC_B (KE_C kX11_remainder (KA_1 (KE_F KE_V) (KA_1 (KE_F KE_V) KA_0))) KE_I) (KS_Seq (KS_Do (KE_CV kX8_endStep (KA_1 KE_V (KA_1 KE_V (KA_1 (KE_C kX11_quotient_ (KA_1 (KE_F KE_V) (KA_1 (KE_F KE_V) KA_0))) KA_0))))) KS_Inc) KS_Skip)))))
theorem k_uX8_pass_2 : KS Wc uX8_pass_2 := KS_Inc
theorem k_sX8_pass : KS Wc sX8_pass := (KS_Seq (KS_Seq (KS_Set KE_I) (KS_While k_cX8_pass_1 k_bX8_pass_1 k_uX8_pass_1)) (KS_Seq (KS_PutC rfl KE_V KE_I) (KS_Seq (KS_Set KE_I) (KS_Seq (KS_Set KE_V) (KS_Seq (KS_Seq (KS_Set KE_I) (KS_While k_cX8_pass_2 k_bX8_pass_2 k_uX8_pass_2)) (KS_Ret KE_V))))))
theorem kX8_pass : KM Wc mX8_pass := KM_q k_sX8_pass
theorem k_sX11_read : KS Wc sX11_read := (KS_Seq (KS_If (KC_Not (KC_E (KE_CV kX11_canPass (KA_1 KE_V (KA_1 KE_V KA_0))))) (KS_Ret KE_I) KS_Skip) (KS_Seq (KS_Arr (fun _ => rfl) (KE_F KE_V) KE_I KE_V) (KS_Seq (KS_Arr (fun _ => rfl) (KE_F KE_V) KE_I KE_V) (KS_Seq (KS_Arr (fun _ => rfl) (KE_F KE_V) KE_I KE_V) (KS_Seq (KS_Arr (fun _ => rfl) (KE_F KE_V) KE_I KE_V) (KS_Ret (KE_CV kX8_pass (KA_1 (KE_CV kX11_newAct (KA_1 KE_V KA_0)) (KA_1 (KE_F KE_V) (KA_1 KE_V (KA_1 (KE_F KE_V) KA_0)))))))))))
theorem kX11_read : KM Wc mX11_read := KM_q k_sX11_read
theorem k_sX11_isMeasure : KS Wc sX11_isMeasure := (KS_Ret (KE_B (KC_And (KC_B KE_V KE_I) (KC_B KE_V (KE_F (KE_F KE_V))))))
theorem kX11_isMeasure : KM Wc mX11_isMeasure := KM_q k_sX11_isMeasure
theorem k_sX3_bound : KS Wc sX3_bound := (KS_Seq (KS_Set (KE_If (KC_B KE_V KE_I) (KE_F KE_V) (KE_If (KC_B KE_V KE_I) (KE_F KE_V) (KE_F KE_V)))) (KS_Seq (KS_If (KC_B KE_V KE_I) (KS_Put rfl KE_V KE_V) (KS_If (KC_B KE_V KE_I) (KS_Put rfl KE_V KE_V) (KS_Put rfl KE_V KE_V))) (KS_Ret KE_V)))
theorem kX3_bound : KM Wc mX3_bound := KM_q k_sX3_bound
theorem k_sX3_canTurn : KS Wc sX3_canTurn := (KS_Sw KE_V (KF_1 (KS_Ret (KE_B (KC_And (KC_B KE_V KE_I) (KC_B KE_V KE_I)))) (KF_1 (KS_Ret (KE_B (KC_And (KC_B KE_V KE_I) (KC_B KE_V (KE_F KE_V))))) (KF_1 (KS_Ret (KE_B (KC_And (KC_B KE_V (KE_F KE_V)) (KC_B KE_V KE_I)))) (KF_0 (KS_Ret KE_I))))))
theorem kX3_canTurn : KM Wc mX3_canTurn := KM_q k_sX3_canTurn
theorem k_sX11_turn : KS Wc sX11_turn := (KS_Seq (KS_If (KC_Or (KC_Not (KC_E (KE_CV kX11_isMeasure (KA_1 KE_V (KA_1 KE_V KA_0))))) (KC_Not (KC_E (KE_CV kX3_canTurn (KA_1 (KE_A (KE_F (KE_CV kX11_now (KA_1 KE_V KA_0))) KE_V) (KA_1 KE_V (KA_1 KE_V KA_0))))))) (KS_Ret KE_I) KS_Skip) (KS_Ret (KE_CV kX3_bound (KA_1 (KE_A (KE_F (KE_CV kX11_newAct (KA_1 KE_V KA_0))) KE_V) (KA_1 KE_V (KA_1 KE_V KA_0))))))
theorem kX11_turn : KM Wc mX11_turn := KM_q k_sX11_turn
theorem k_sX11_undo : KS Wc sX11_undo := (KS_Seq (KS_If (KC_B (KE_F KE_V) KE_I) (KS_Ret KE_I) KS_Skip) (KS_Seq (KS_Put rfl KE_V (KE_D (KE_2 (KE_2 (KE_F KE_V) KE_I) KE_I) KE_I)) (KS_Seq (KS_PutC rfl KE_V KE_I) (KS_Seq (KS_PutC rfl KE_V KE_I) (KS_Ret KE_I)))))
theorem kX11_undo : KM Wc mX11_undo := KM_q k_sX11_undo
theorem k_sX11_redo : KS Wc sX11_redo := (KS_Seq (KS_If (KC_B (KE_F KE_V) KE_I) (KS_Ret KE_I) KS_Skip) (KS_Seq (KS_Put rfl KE_V (KE_D (KE_2 (KE_F KE_V) KE_I) KE_I)) (KS_Seq (KS_PutC rfl KE_V KE_I) (KS_Seq (KS_PutC rfl KE_V KE_I) (KS_Ret KE_I)))))
theorem kX11_redo : KM Wc mX11_redo := KM_q k_sX11_redo
theorem k_sX11_isBox : KS Wc sX11_isBox := (KS_Ret (KE_B (KC_And (KC_B KE_V KE_I) (KC_B KE_V KE_I))))
theorem kX11_isBox : KM Wc mX11_isBox := KM_q k_sX11_isBox
theorem k_sX11_image : KS Wc sX11_image := (KS_Seq (KS_If (KC_Not (KC_E (KE_CV kX11_isBox (KA_1 KE_V (KA_1 KE_V KA_0))))) (KS_Ret KE_I) KS_Skip) (KS_Seq (KS_Do (KE_CV kX8_copy (KA_1 (KE_A (KE_F KE_V) KE_V) (KA_1 (KE_CV kX11_now (KA_1 KE_V KA_0)) KA_0)))) (KS_Seq (KS_Arr (fun _ => rfl) (KE_F KE_V) KE_V KE_I) (KS_Ret (KE_F (KE_CV kX11_now (KA_1 KE_V KA_0)))))))
theorem kX11_image : KM Wc mX11_image := KM_q k_sX11_image
theorem k_sX11_back : KS Wc sX11_back := (KS_Seq (KS_If (KC_Or (KC_Not (KC_E (KE_CV kX11_isBox (KA_1 KE_V (KA_1 KE_V KA_0))))) (KC_Not (KC_E (KE_A (KE_F KE_V) KE_V)))) (KS_Ret KE_I) KS_Skip) (KS_Seq (KS_Do (KE_CV kX8_copy (KA_1 (KE_CV kX11_now (KA_1 KE_V KA_0)) (KA_1 (KE_A (KE_F KE_V) KE_V) KA_0)))) (KS_Seq (KS_Do (KE_CV kX11_forgetActs (KA_1 KE_V KA_0))) (KS_Ret (KE_F (KE_CV kX11_now (KA_1 KE_V KA_0)))))))
theorem kX11_back : KM Wc mX11_back := KM_q k_sX11_back
theorem k_sX11_measure : KS Wc sX11_measure := (KS_Seq (KS_If (KC_Not (KC_E (KE_CV kX11_isMeasure (KA_1 KE_V (KA_1 KE_V KA_0))))) (KS_Ret KE_I) KS_Skip) (KS_Seq (KS_Set (KE_A (KE_F (KE_CV kX11_now (KA_1 KE_V KA_0))) KE_V)) (KS_Sw KE_V (KF_1 (KS_Ret (KE_F KE_V)) (KF_1 (KS_Ret (KE_F KE_V)) (KF_1 (KS_Ret (KE_F KE_V)) (KF_1 (KS_Ret (KE_F (KE_A (KE_F (KE_F KE_V)) KE_V))) (KF_1 (KS_Ret (KE_F KE_V)) (KF_1 (KS_Ret (KE_F KE_V)) (KF_0 (KS_Ret KE_I)))))))))))
theorem kX11_measure : KM Wc mX11_measure := KM_q k_sX11_measure
theorem k_sX11_rate : KS Wc sX11_rate := (KS_Ret (KE_If (KC_E (KE_CV kX11_isMeasure (KA_1 KE_V (KA_1 KE_V KA_0)))) (KE_F (KE_A (KE_F (KE_CV kX11_now (KA_1 KE_V KA_0))) KE_V)) KE_I))
theorem kX11_rate : KM Wc mX11_rate := KM_q k_sX11_rate
theorem k_sX11_value : KS Wc sX11_value := (KS_Ret (KE_If (KC_E (KE_CV kX11_isMeasure (KA_1 KE_V (KA_1 KE_V KA_0)))) (KE_F (KE_A (KE_F (KE_CV kX11_now (KA_1 KE_V KA_0))) KE_V)) KE_I))
theorem kX11_value : KM Wc mX11_value := KM_q k_sX11_value
theorem k_sX11_stepsOver : KS Wc sX11_stepsOver := (KS_Ret (KE_C kX11_quotient_ (KA_1 (KE_F (KE_CV kX11_now (KA_1 KE_V KA_0))) (KA_1 (KE_F (KE_F KE_V)) KA_0))))
theorem kX11_stepsOver : KM Wc mX11_stepsOver := KM_q k_sX11_stepsOver
theorem k_sX11_stepsBy : KS Wc sX11_stepsBy := (KS_Ret (KE_2 (KE_C kX11_quotient_ (KA_1 (KE_2 (KE_F (KE_CV kX11_now (KA_1 KE_V KA_0))) KE_V) (KA_1 (KE_F (KE_F KE_V)) KA_0))) (KE_CV kX11_stepsOver (KA_1 KE_V KA_0))))
theorem kX11_stepsBy : KM Wc mX11_stepsBy := KM_q k_sX11_stepsBy
theorem k_sX11_valueBy : KS Wc sX11_valueBy := (KS_Seq (KS_Set (KE_A (KE_F (KE_CV kX11_now (KA_1 KE_V KA_0))) KE_V)) (KS_Seq (KS_Set (KE_CV kX11_stepsBy (KA_1 KE_V (KA_1 KE_V KA_0)))) (KS_Seq (KS_If (KC_B KE_V KE_I) (KS_Ret (KE_F KE_V)) KS_Skip) (KS_Seq (KS_If (KC_B KE_V KE_I) (KS_Ret KE_V) KS_Skip) (KS_Seq (KS_If (KC_B KE_V KE_I) (KS_Ret (KE_C kX11_valueOf (KA_1 (KE_F KE_V) (KA_1 (KE_F KE_V) (KA_1 (KE_F (KE_F KE_V)) KA_0))))) KS_Skip) (KS_Seq (KS_Set (KE_2 (KE_F (KE_F KE_V)) (KE_C kX11_remainder (KA_1 (KE_F (KE_CV kX11_now (KA_1 KE_V KA_0))) (KA_1 (KE_F (KE_F KE_V)) KA_0))))) (KS_Ret (KE_C kX11_valueOf (KA_1 (KE_2 (KE_F KE_V) (KE_2 KE_V KE_V)) (KA_1 (KE_2 (KE_F KE_V) KE_V) (KA_1 (KE_F (KE_F KE_V)) KA_0)))))))))))
theorem kX11_valueBy : KM Wc mX11_valueBy := KM_q k_sX11_valueBy
theorem k_sX11_would : KS Wc sX11_would := (KS_Seq (KS_If (KC_Or (KC_Not (KC_E (KE_CV kX11_isMeasure (KA_1 KE_V (KA_1 KE_V KA_0))))) (KC_Not (KC_E (KE_CV kX11_canPass (KA_1 KE_V (KA_1 KE_V KA_0)))))) (KS_Ret KE_I) KS_Skip) (KS_Seq (KS_Set (KE_CV kX3_rateBy (KA_1 (KE_A (KE_F (KE_CV kX11_now (KA_1 KE_V KA_0))) KE_V) (KA_1 (KE_A (KE_F (KE_F KE_V)) KE_V) (KA_1 KE_V (KA_1 KE_V KA_0)))))) (KS_Sw KE_V (KF_1 (KS_Ret KE_V) (KF_1 (KS_Ret (KE_CV kX11_valueBy (KA_1 KE_V (KA_1 KE_V (KA_1 KE_V (KA_1 KE_V KA_0)))))) (KF_1 (KS_Ret (KE_CV kX11_stepsBy (KA_1 KE_V (KA_1 KE_V KA_0)))) (KF_0 (KS_Ret KE_I))))))))
theorem kX11_would : KM Wc mX11_would := KM_q k_sX11_would
theorem k_sX3_leastWithin : KS Wc sX3_leastWithin := (KS_Seq (KS_Set (KE_2 KE_V (KE_2 KE_V KE_V))) (KS_Ret (KE_If (KC_And (KC_B KE_V KE_V) (KC_B (KE_2 KE_V KE_V) KE_V)) (KE_1 KE_V) KE_I)))
theorem kX3_leastWithin : KM Wc mX3_leastWithin := KM_q k_sX3_leastWithin
theorem k_sX3_leastCount : KS Wc sX3_leastCount := (KS_Seq (KS_Set (KE_2 (KE_F KE_V) KE_V)) (KS_Seq (KS_Set (KE_2 KE_I (KE_F KE_V))) (KS_Seq (KS_Set (KE_2 KE_I (KE_F KE_V))) (KS_Seq (KS_Set (KE_C kX3_leastWithin (KA_1 KE_I (KA_1 (KE_2 (KE_2 (KE_F KE_V) KE_V) KE_I) (KA_1 (KE_2 KE_V (KE_F KE_V)) (KA_1 KE_V (KA_1 KE_V KA_0))))))) (KS_Seq (KS_If (KC_B KE_V KE_I) (KS_Set (KE_C kX3_leastWithin (KA_1 (KE_2 KE_I (KE_2 (KE_F KE_V) KE_V)) (KA_1 (KE_2 (KE_F KE_V) KE_I) (KA_1 (KE_2 KE_V (KE_F KE_V)) (KA_1 KE_V (KA_1 KE_V KA_0))))))) KS_Skip) (KS_Ret (KE_If (KC_B KE_V KE_I) (KE_C kX3_leastWithin (KA_1 (KE_F KE_V) (KA_1 (KE_CV kX2_numberMost (KA_1 KE_V KA_0)) (KA_1 (KE_1 (KE_F KE_V)) (KA_1 KE_V (KA_1 KE_V KA_0)))))) KE_V)))))))
theorem kX3_leastCount : KM Wc mX3_leastCount := KM_q k_sX3_leastCount
theorem k_sX3_leastFit : KS Wc sX3_leastFit := (KS_Seq (KS_If (KC_B KE_V (KE_F KE_V)) (KS_Ret KE_I) KS_Skip) (KS_Seq (KS_If (KC_B (KE_F KE_V) KE_I) (KS_Ret (KE_F KE_V)) KS_Skip) (KS_Seq (KS_Set (KE_2 (KE_F KE_V) KE_V)) (KS_Seq (KS_If (KC_B (KE_F KE_V) KE_I) (KS_Ret (KE_If (KC_B KE_V KE_I) (KE_1 KE_V) KE_I)) KS_Skip) (KS_Ret (KE_If (KC_B (KE_F KE_V) KE_I) KE_I (KE_CV kX3_leastCount (KA_1 KE_V (KA_1 KE_V (KA_1 KE_V (KA_1 KE_V KA_0)))))))))))
theorem kX3_leastFit : KM Wc mX3_leastFit := KM_q k_sX3_leastFit
theorem k_sX11_fits : KS Wc sX11_fits := (KS_Seq (KS_If (KC_Or (KC_Not (KC_E (KE_CV kX11_isMeasure (KA_1 KE_V (KA_1 KE_V KA_0))))) (KC_Not (KC_E (KE_CV kX11_canPass (KA_1 KE_V (KA_1 KE_V KA_0)))))) (KS_Ret KE_I) KS_Skip) (KS_Ret (KE_CV kX3_leastFit (KA_1 (KE_A (KE_F (KE_CV kX11_now (KA_1 KE_V KA_0))) KE_V) (KA_1 (KE_A (KE_F (KE_F KE_V)) KE_V) (KA_1 KE_V KA_0))))))
theorem kX11_fits : KM Wc mX11_fits := KM_q k_sX11_fits
theorem k_sX11_isArchive : KS Wc sX11_isArchive := (KS_Ret (KE_B (KC_And (KC_B KE_V KE_I) (KC_B KE_V (KE_F (KE_F KE_V))))))
theorem kX11_isArchive : KM Wc mX11_isArchive := KM_q k_sX11_isArchive
theorem k_sX11_rowUnits : KS Wc sX11_rowUnits := (KS_Ret (KE_2 (KE_F (KE_A (KE_F (KE_F KE_V)) KE_V)) (KE_F (KE_F KE_V))))
theorem kX11_rowUnits : KM Wc mX11_rowUnits := KM_q k_sX11_rowUnits
theorem k_sX11_rowsDone : KS Wc sX11_rowsDone := (KS_Ret (KE_C kX11_quotient_ (KA_1 (KE_F (KE_CV kX11_now (KA_1 KE_V KA_0))) (KA_1 (KE_CV kX11_rowUnits (KA_1 KE_V (KA_1 KE_V KA_0))) KA_0))))
theorem kX11_rowsDone : KM Wc mX11_rowsDone := KM_q k_sX11_rowsDone
theorem k_sX11_keptRows : KS Wc sX11_keptRows := (KS_Ret (KE_2 (KE_CV kX11_rowsDone (KA_1 KE_V (KA_1 KE_V KA_0))) (KE_F (KE_A (KE_F (KE_F KE_V)) KE_V))))
theorem kX11_keptRows : KM Wc mX11_keptRows := KM_q k_sX11_keptRows
theorem k_sX11_rowEnd : KS Wc sX11_rowEnd := (KS_Ret (KE_2 (KE_2 (KE_CV kX11_rowsDone (KA_1 KE_V (KA_1 KE_V KA_0))) KE_V) (KE_CV kX11_rowUnits (KA_1 KE_V (KA_1 KE_V KA_0)))))
theorem kX11_rowEnd : KM Wc mX11_rowEnd := KM_q k_sX11_rowEnd
theorem k_sX11_archive : KS Wc sX11_archive := (KS_Seq (KS_If (KC_Not (KC_E (KE_CV kX11_isArchive (KA_1 KE_V (KA_1 KE_V KA_0))))) (KS_Ret KE_I) KS_Skip) (KS_Seq (KS_Set (KE_A (KE_F (KE_F KE_V)) KE_V)) (KS_Sw KE_V (KF_1 (KS_Ret (KE_F KE_V)) (KF_1 (KS_Ret (KE_F KE_V)) (KF_1 (KS_Ret (KE_F KE_V)) (KF_1 (KS_Ret (KE_F KE_V)) (KF_1 (KS_Ret (KE_CV kX11_keptRows (KA_1 KE_V (KA_1 KE_V KA_0)))) (KF_1 (KS_Ret (KE_If (KC_B (KE_CV kX11_keptRows (KA_1 KE_V (KA_1 KE_V KA_0))) KE_I) KE_I (KE_CV kX11_rowEnd (KA_1 KE_V (KA_1 KE_V (KA_1 KE_I KA_0)))))) (KF_1 (KS_Ret (KE_C kX11_remainder (KA_1 (KE_CV kX11_stepsOver (KA_1 KE_V KA_0)) (KA_1 (KE_F KE_V) KA_0)))) (KF_0 (KS_Ret KE_I))))))))))))
theorem kX11_archive : KM Wc mX11_archive := KM_q k_sX11_archive
theorem k_sX11_hasRows : KS Wc sX11_hasRows := (KS_Ret (KE_B (KC_And (KC_E (KE_CV kX11_isArchive (KA_1 KE_V (KA_1 KE_V KA_0)))) (KC_E (KE_CV kX11_isMeasure (KA_1 KE_V (KA_1 KE_V KA_0)))))))
theorem kX11_hasRows : KM Wc mX11_hasRows := KM_q k_sX11_hasRows
theorem k_sX7_rowOf : KS Wc sX7_rowOf := (KS_Seq (KS_Set (KE_B (KC_And (KC_And (KC_B KE_V KE_I) (KC_B KE_V KE_I)) (KC_B KE_V KE_I)))) (KS_Ret (KE_If (KC_E KE_V) (KE_A (KE_F KE_V) (KE_2 (KE_2 (KE_D KE_V KE_I) KE_I) KE_V)) KE_I)))
theorem kX7_rowOf : KM Wc mX7_rowOf := KM_q k_sX7_rowOf
theorem k_sX11_rowTold : KS Wc sX11_rowTold := (KS_Seq (KS_If (KC_Or (KC_B KE_V KE_I) (KC_B KE_V (KE_CV kX11_keptRows (KA_1 KE_V (KA_1 KE_V KA_0))))) (KS_Ret KE_I) KS_Skip) (KS_Ret (KE_CV kX7_rowOf (KA_1 (KE_A (KE_F (KE_CV kX11_now (KA_1 KE_V KA_0))) KE_V) (KA_1 (KE_2 (KE_2 (KE_CV kX11_rowsDone (KA_1 KE_V (KA_1 KE_V KA_0))) KE_I) KE_V) (KA_1 KE_V KA_0))))))
theorem kX11_rowTold : KM Wc mX11_rowTold := KM_q k_sX11_rowTold
theorem k_sX11_row : KS Wc sX11_row := (KS_Ret (KE_If (KC_E (KE_CV kX11_hasRows (KA_1 KE_V (KA_1 KE_V (KA_1 KE_V KA_0))))) (KE_CV kX11_rowTold (KA_1 KE_V (KA_1 KE_V (KA_1 KE_V (KA_1 KE_V KA_0))))) KE_I))
theorem kX11_row : KM Wc mX11_row := KM_q k_sX11_row
theorem k_sX11_rowBegin : KS Wc sX11_rowBegin := (KS_Ret (KE_2 (KE_CV kX11_rowEnd (KA_1 KE_V (KA_1 KE_V (KA_1 KE_V KA_0)))) (KE_CV kX11_rowUnits (KA_1 KE_V (KA_1 KE_V KA_0)))))
theorem kX11_rowBegin : KM Wc mX11_rowBegin := KM_q k_sX11_rowBegin
theorem k_cX11_rowAt_1 : KC Wc cX11_rowAt_1 := (KC_B KE_V KE_V)
theorem k_bX11_rowAt_1 : KS Wc bX11_rowAt_1 := (KS_If (KC_And (KC_B (KE_CV kX11_rowBegin (KA_1 KE_V (KA_1 KE_V (KA_1 KE_V KA_0)))) KE_V) (KC_B KE_V (KE_CV kX11_rowEnd (KA_1 KE_V (KA_1 KE_V (KA_1 KE_V KA_0)))))) (KS_Ret KE_V) KS_Skip)
theorem k_uX11_rowAt_1 : KS Wc uX11_rowAt_1 := KS_Inc
theorem k_sX11_rowAt : KS Wc sX11_rowAt := (KS_Seq (KS_If (KC_Not (KC_E (KE_CV kX11_isArchive (KA_1 KE_V (KA_1 KE_V KA_0))))) (KS_Ret KE_I) KS_Skip) (KS_Seq (KS_Set (KE_CV kX11_keptRows (KA_1 KE_V (KA_1 KE_V KA_0)))) (KS_Seq (KS_Seq (KS_Set KE_I) (KS_While k_cX11_rowAt_1 k_bX11_rowAt_1 k_uX11_rowAt_1)) (KS_Ret KE_I))))
theorem kX11_rowAt : KM Wc mX11_rowAt := KM_q k_sX11_rowAt
theorem k_cX11_tallyWithin_1 : KC Wc cX11_tallyWithin_1 := (KC_B KE_V KE_V)
theorem k_bX11_tallyWithin_1 : KS Wc bX11_tallyWithin_1 := (KS_If (KC_And (KC_B (KE_CV kX11_rowBegin (KA_1 KE_V (KA_1 KE_V (KA_1 KE_V KA_0)))) KE_V) (KC_B (KE_CV kX11_rowEnd (KA_1 KE_V (KA_1 KE_V (KA_1 KE_V KA_0)))) KE_V)) (KS_Seq KS_Inc (KS_Do (KE_CV kX9_add (KA_1 (KE_F KE_V) (KA_1 (KE_CV kX11_rowTold (KA_1 KE_V (KA_1 KE_V (KA_1 KE_V (KA_1 KE_V KA_0))))) (KA_1 KE_I KA_0)))))) KS_Skip)
theorem k_uX11_tallyWithin_1 : KS Wc uX11_tallyWithin_1 := KS_Inc
theorem k_sX11_tallyWithin : KS Wc sX11_tallyWithin := (KS_Seq (KS_Set (KE_CV kX11_keptRows (KA_1 KE_V (KA_1 KE_V KA_0)))) (KS_Seq (KS_Set KE_I) (KS_Seq (KS_Do (KE_CV kX9_clear (KA_1 (KE_F KE_V) KA_0))) (KS_Seq (KS_Seq (KS_Set KE_I) (KS_While k_cX11_tallyWithin_1 k_bX11_tallyWithin_1 k_uX11_tallyWithin_1)) (KS_Ret KE_V)))))
theorem kX11_tallyWithin : KM Wc mX11_tallyWithin := KM_q k_sX11_tallyWithin
theorem k_sX11_over : KS Wc sX11_over := (KS_Seq (KS_If (KC_Not (KC_E (KE_CV kX11_hasRows (KA_1 KE_V (KA_1 KE_V (KA_1 KE_V KA_0)))))) (KS_Ret KE_I) KS_Skip) (KS_Seq (KS_Set (KE_CV kX11_tallyWithin (KA_1 KE_V (KA_1 KE_V (KA_1 KE_V (KA_1 KE_V (KA_1 KE_V KA_0))))))) (KS_Sw KE_V (KF_1 (KS_Ret KE_V) (KF_1 (KS_Ret (KE_F (KE_F KE_V))) (KF_1 (KS_Ret (KE_CV kX9_mean (KA_1 (KE_F KE_V) KA_0))) (KF_1 (KS_Ret (KE_F (KE_F KE_V))) (KF_1 (KS_Ret (KE_F (KE_F KE_V))) (KF_1 (KS_Ret (KE_2 (KE_2 KE_V (KE_F (KE_F KE_V))) (KE_CV kX11_rowUnits (KA_1 KE_V (KA_1 KE_V KA_0))))) (KF_0 (KS_Ret KE_I)))))))))))
theorem kX11_over : KM Wc mX11_over := KM_q k_sX11_over
theorem k_sX11_total : KS Wc sX11_total := (KS_Seq (KS_If (KC_Not (KC_E (KE_CV kX11_hasRows (KA_1 KE_V (KA_1 KE_V (KA_1 KE_V KA_0)))))) (KS_Ret KE_I) KS_Skip) (KS_Seq (KS_Do (KE_CV kX11_tallyWithin (KA_1 KE_V (KA_1 KE_V (KA_1 KE_V (KA_1 KE_V (KA_1 KE_V KA_0))))))) (KS_Ret (KE_D (KE_2 (KE_F (KE_F KE_V)) (KE_CV kX11_rowUnits (KA_1 KE_V (KA_1 KE_V KA_0)))) KE_I))))
theorem kX11_total : KM Wc mX11_total := KM_q k_sX11_total
theorem k_cX11_rowsUpTo_1 : KC Wc cX11_rowsUpTo_1 := (KC_B KE_V KE_V)
theorem k_bX11_rowsUpTo_1 : KS Wc bX11_rowsUpTo_1 := (KS_Seq (KS_Set (KE_CV kX11_rowTold (KA_1 KE_V (KA_1 KE_V (KA_1 KE_V (KA_1 KE_V KA_0)))))) (KS_If (KC_And (KC_B KE_V KE_I) (KC_B KE_V KE_V)) KS_Inc KS_Skip))
theorem k_uX11_rowsUpTo_1 : KS Wc uX11_rowsUpTo_1 := KS_Inc
theorem k_sX11_rowsUpTo : KS Wc sX11_rowsUpTo := (KS_Seq (KS_Set (KE_CV kX11_keptRows (KA_1 KE_V (KA_1 KE_V KA_0)))) (KS_Seq (KS_Set KE_I) (KS_Seq (KS_Seq (KS_Set KE_I) (KS_While k_cX11_rowsUpTo_1 k_bX11_rowsUpTo_1 k_uX11_rowsUpTo_1)) (KS_Ret KE_V))))
theorem kX11_rowsUpTo : KM Wc mX11_rowsUpTo := KM_q k_sX11_rowsUpTo
theorem k_cX11_share_1 : KC Wc cX11_share_1 := (KC_B KE_V KE_V)
theorem k_bX11_share_1 : KS Wc bX11_share_1 := (KS_Seq (KS_Set (KE_CV kX11_rowTold (KA_1 KE_V (KA_1 KE_V (KA_1 KE_V (KA_1 KE_V KA_0)))))) (KS_Seq (KS_Set (KE_B (KC_And (KC_B KE_V KE_I) (KC_B (KE_2 KE_I (KE_CV kX11_rowsUpTo (KA_1 KE_V (KA_1 KE_V (KA_1 KE_V (KA_1 KE_V KA_0)))))) (KE_2 KE_V KE_V))))) (KS_If (KC_And (KC_E KE_V) (KC_Or (KC_B KE_V KE_I) (KC_B KE_V KE_V))) (KS_Set KE_V) KS_Skip)))
theorem k_uX11_share_1 : KS Wc uX11_share_1 := KS_Inc
theorem k_sX11_share : KS Wc sX11_share := (KS_Seq (KS_If (KC_Or (KC_Or (KC_Not (KC_E (KE_CV kX11_hasRows (KA_1 KE_V (KA_1 KE_V (KA_1 KE_V KA_0)))))) (KC_B KE_V KE_I)) (KC_B KE_V KE_I)) (KS_Ret KE_I) KS_Skip) (KS_Seq (KS_Set (KE_CV kX11_rowsUpTo (KA_1 KE_V (KA_1 KE_V (KA_1 KE_V (KA_1 KE_I KA_0)))))) (KS_Seq (KS_Set (KE_CV kX11_keptRows (KA_1 KE_V (KA_1 KE_V KA_0)))) (KS_Seq (KS_Set KE_I) (KS_Seq (KS_Seq (KS_Set KE_I) (KS_While k_cX11_share_1 k_bX11_share_1 k_uX11_share_1)) (KS_Ret KE_V))))))
theorem kX11_share : KM Wc mX11_share := KM_q k_sX11_share
theorem k_cX11_smooth_1 : KC Wc cX11_smooth_1 := (KC_B KE_V (KE_2 KE_V KE_V))
theorem k_bX11_smooth_1 : KS Wc bX11_smooth_1 := (KS_Do (KE_CV kX9_add (KA_1 (KE_F KE_V) (KA_1 (KE_CV kX11_rowTold (KA_1 KE_V (KA_1 KE_V (KA_1 KE_V (KA_1 KE_V KA_0))))) (KA_1 KE_I KA_0)))))
theorem k_uX11_smooth_1 : KS Wc uX11_smooth_1 := KS_Inc
theorem k_sX11_smooth : KS Wc sX11_smooth := (KS_Seq (KS_If (KC_Or (KC_Or (KC_Or (KC_Or (KC_Not (KC_E (KE_CV kX11_hasRows (KA_1 KE_V (KA_1 KE_V (KA_1 KE_V KA_0)))))) (KC_B KE_V KE_I)) (KC_B KE_V KE_I)) (KC_B KE_V KE_I)) (KC_B KE_V (KE_CV kX11_keptRows (KA_1 KE_V (KA_1 KE_V KA_0))))) (KS_Ret KE_I) KS_Skip) (KS_Seq (KS_Do (KE_CV kX9_clear (KA_1 (KE_F KE_V) KA_0))) (KS_Seq (KS_Seq (KS_Set KE_V) (KS_While k_cX11_smooth_1 k_bX11_smooth_1 k_uX11_smooth_1)) (KS_Ret (KE_CV kX9_mean (KA_1 (KE_F KE_V) KA_0))))))
theorem kX11_smooth : KM Wc mX11_smooth := KM_q k_sX11_smooth
theorem k_sX11_wayOf : KS Wc sX11_wayOf := (KS_Seq (KS_Set (KE_CV kX11_rowTold (KA_1 KE_V (KA_1 KE_V (KA_1 KE_V (KA_1 KE_V KA_0)))))) (KS_Seq (KS_Set (KE_CV kX11_rowTold (KA_1 KE_V (KA_1 KE_V (KA_1 KE_V (KA_1 (KE_2 KE_V KE_I) KA_0)))))) (KS_Seq (KS_If (KC_Or (KC_Or (KC_B KE_V KE_I) (KC_B KE_V KE_I)) (KC_B KE_V KE_V)) (KS_Ret KE_I) KS_Skip) (KS_Ret (KE_If (KC_B KE_V KE_V) KE_I KE_I)))))
theorem kX11_wayOf : KM Wc mX11_wayOf := KM_q k_sX11_wayOf
theorem k_cX11_alike_1 : KC Wc cX11_alike_1 := (KC_B (KE_2 KE_V KE_I) KE_V)
theorem k_bX11_alike_1 : KS Wc bX11_alike_1 := (KS_Seq (KS_Set (KE_CV kX11_wayOf (KA_1 KE_V (KA_1 KE_V (KA_1 KE_V (KA_1 KE_V KA_0)))))) (KS_If (KC_And (KC_B KE_V KE_I) (KC_B KE_V (KE_CV kX11_wayOf (KA_1 KE_V (KA_1 KE_V (KA_1 KE_V (KA_1 KE_V KA_0))))))) KS_Inc KS_Skip))
theorem k_uX11_alike_1 : KS Wc uX11_alike_1 := KS_Inc
theorem k_sX11_alike : KS Wc sX11_alike := (KS_Seq (KS_If (KC_Or (KC_Not (KC_E (KE_CV kX11_hasRows (KA_1 KE_V (KA_1 KE_V (KA_1 KE_V KA_0)))))) (KC_Not (KC_E (KE_CV kX11_isMeasure (KA_1 KE_V (KA_1 KE_V KA_0)))))) (KS_Ret KE_I) KS_Skip) (KS_Seq (KS_Set (KE_CV kX11_keptRows (KA_1 KE_V (KA_1 KE_V KA_0)))) (KS_Seq (KS_Set KE_I) (KS_Seq (KS_Seq (KS_Set KE_I) (KS_While k_cX11_alike_1 k_bX11_alike_1 k_uX11_alike_1)) (KS_Ret KE_V)))))
theorem kX11_alike : KM Wc mX11_alike := KM_q k_sX11_alike
theorem k_sX11_left : KS Wc sX11_left := (KS_Seq (KS_If (KC_Not (KC_E (KE_CV kX11_isArchive (KA_1 KE_V (KA_1 KE_V KA_0))))) (KS_Ret KE_I) KS_Skip) (KS_Ret (KE_2 (KE_CV kX11_rowUnits (KA_1 KE_V (KA_1 KE_V KA_0))) (KE_C kX11_remainder (KA_1 (KE_F (KE_CV kX11_now (KA_1 KE_V KA_0))) (KA_1 (KE_CV kX11_rowUnits (KA_1 KE_V (KA_1 KE_V KA_0))) KA_0))))))
theorem kX11_left : KM Wc mX11_left := KM_q k_sX11_left
theorem k_cX11_gap_1 : KC Wc cX11_gap_1 := (KC_B KE_V KE_V)
theorem k_bX11_gap_1 : KS Wc bX11_gap_1 := (KS_Seq (KS_Set (KE_If (KC_B (KE_CV kX11_rowTold (KA_1 KE_V (KA_1 KE_V (KA_1 KE_V (KA_1 KE_V KA_0))))) KE_I) (KE_2 KE_V KE_I) KE_I)) (KS_If (KC_B KE_V KE_V) (KS_Seq (KS_Set KE_V) (KS_Set (KE_2 (KE_2 KE_V KE_V) KE_I))) KS_Skip))
theorem k_uX11_gap_1 : KS Wc uX11_gap_1 := KS_Inc
theorem k_sX11_gap : KS Wc sX11_gap := (KS_Seq (KS_If (KC_Not (KC_E (KE_CV kX11_hasRows (KA_1 KE_V (KA_1 KE_V (KA_1 KE_V KA_0)))))) (KS_Ret KE_I) KS_Skip) (KS_Seq (KS_Set (KE_CV kX11_keptRows (KA_1 KE_V (KA_1 KE_V KA_0)))) (KS_Seq (KS_Set KE_I) (KS_Seq (KS_Set KE_I) (KS_Seq (KS_Set KE_I) (KS_Seq (KS_Seq (KS_Set KE_I) (KS_While k_cX11_gap_1 k_bX11_gap_1 k_uX11_gap_1)) (KS_Sw KE_V (KF_1 (KS_Ret KE_V) (KF_1 (KS_Ret KE_V) (KF_0 (KS_Ret KE_I)))))))))))
theorem kX11_gap : KM Wc mX11_gap := KM_q k_sX11_gap
theorem k_cX11_rise_1 : KC Wc cX11_rise_1 := (KC_B KE_V KE_V)
theorem k_bX11_rise_1 : KS Wc bX11_rise_1 := (KS_Seq (KS_Set (KE_CV kX11_rowTold (KA_1 KE_V (KA_1 KE_V (KA_1 KE_V (KA_1 (KE_2 (KE_2 KE_V KE_I) KE_V) KA_0)))))) (KS_If (KC_B KE_V KE_I) (KS_Seq (KS_Set (KE_2 KE_V KE_I)) (KS_Seq (KS_Set (KE_2 KE_V KE_V)) (KS_Seq (KS_Set (KE_2 KE_V KE_V)) (KS_Seq (KS_Set (KE_2 KE_V (KE_2 KE_V KE_V))) (KS_Set (KE_2 KE_V (KE_2 KE_V KE_V))))))) KS_Skip))
theorem k_uX11_rise_1 : KS Wc uX11_rise_1 := KS_Inc
theorem k_sX11_rise : KS Wc sX11_rise := (KS_Seq (KS_If (KC_Not (KC_E (KE_CV kX11_hasRows (KA_1 KE_V (KA_1 KE_V (KA_1 KE_V KA_0)))))) (KS_Ret KE_I) KS_Skip) (KS_Seq (KS_Set (KE_CV kX11_keptRows (KA_1 KE_V (KA_1 KE_V KA_0)))) (KS_Seq (KS_Set KE_I) (KS_Seq (KS_Set KE_I) (KS_Seq (KS_Set KE_I) (KS_Seq (KS_Set KE_I) (KS_Seq (KS_Set KE_I) (KS_Seq (KS_Seq (KS_Set KE_I) (KS_While k_cX11_rise_1 k_bX11_rise_1 k_uX11_rise_1)) (KS_Seq (KS_If (KC_B KE_V KE_I) (KS_Ret KE_I) KS_Skip) (KS_Ret (KE_1 (KE_C kX11_quotient (KA_1 (KE_2 (KE_2 KE_V KE_V) (KE_2 KE_V KE_V)) (KA_1 (KE_2 (KE_2 KE_V KE_V) (KE_2 KE_V KE_V)) KA_0))))))))))))))
theorem kX11_rise : KM Wc mX11_rise := KM_q k_sX11_rise
theorem k_sX11_tellsBetter : KS Wc sX11_tellsBetter := (KS_Seq (KS_Set (KE_CV kX11_rowBegin (KA_1 KE_V (KA_1 KE_V (KA_1 (KE_2 (KE_CV kX11_keptRows (KA_1 KE_V (KA_1 KE_V KA_0))) KE_I) KA_0))))) (KS_Seq (KS_Set (KE_CV kX11_rowBegin (KA_1 KE_V (KA_1 KE_V (KA_1 (KE_2 (KE_CV kX11_keptRows (KA_1 KE_V (KA_1 KE_V KA_0))) KE_I) KA_0))))) (KS_Seq (KS_If (KC_B (KE_B (KC_B KE_V KE_V)) (KE_B (KC_B KE_V KE_V))) (KS_Ret (KE_B (KC_B KE_V KE_V))) KS_Skip) (KS_Seq (KS_If (KC_And (KC_B KE_V KE_V) (KC_B KE_V KE_V)) (KS_Ret (KE_B (KC_B KE_V KE_V))) KS_Skip) (KS_Ret (KE_B (KC_B (KE_F (KE_A (KE_F (KE_F KE_V)) KE_V)) (KE_F (KE_A (KE_F (KE_F KE_V)) KE_V)))))))))
theorem kX11_tellsBetter : KM Wc mX11_tellsBetter := KM_q k_sX11_tellsBetter
theorem k_cX11_best_1 : KC Wc cX11_best_1 := (KC_B KE_V (KE_F (KE_F KE_V)))
theorem k_bX11_best_1 : KS Wc bX11_best_1 := (KS_Seq (KS_Set (KE_B (KC_And (KC_B (KE_F (KE_A (KE_F (KE_F KE_V)) KE_V)) KE_V) (KC_B (KE_CV kX11_keptRows (KA_1 KE_V (KA_1 KE_V KA_0))) KE_I)))) (KS_If (KC_And (KC_E KE_V) (KC_Or (KC_B KE_V KE_I) (KC_E (KE_CV kX11_tellsBetter (KA_1 KE_V (KA_1 KE_V (KA_1 KE_V (KA_1 KE_V KA_0)))))))) (KS_Set KE_V) KS_Skip))
theorem k_uX11_best_1 : KS Wc uX11_best_1 := KS_Inc
theorem k_sX11_best : KS Wc sX11_best := (KS_Seq (KS_If (KC_Or (KC_Or (KC_B KE_V KE_I) (KC_B KE_V KE_I)) (KC_B KE_V KE_I)) (KS_Ret KE_I) KS_Skip) (KS_Seq (KS_Set KE_I) (KS_Seq (KS_Seq (KS_Set KE_I) (KS_While k_cX11_best_1 k_bX11_best_1 k_uX11_best_1)) (KS_Ret KE_V))))
theorem kX11_best : KM Wc mX11_best := KM_q k_sX11_best
theorem k_cX11_rowsBeyond_1 : KC Wc cX11_rowsBeyond_1 := (KC_B KE_V KE_V)
theorem k_bX11_rowsBeyond_1 : KS Wc bX11_rowsBeyond_1 := (KS_Seq (KS_Set (KE_CV kX11_rowTold (KA_1 KE_V (KA_1 KE_V (KA_1 KE_V (KA_1 KE_V KA_0)))))) (KS_If (KC_And (KC_B KE_V KE_I) (KC_Or (KC_B KE_V (KE_F KE_V)) (KC_B KE_V (KE_F KE_V)))) KS_Inc KS_Skip))
theorem k_uX11_rowsBeyond_1 : KS Wc uX11_rowsBeyond_1 := KS_Inc
theorem k_sX11_rowsBeyond : KS Wc sX11_rowsBeyond := (KS_Seq (KS_Set (KE_A (KE_F (KE_CV kX11_now (KA_1 KE_V KA_0))) KE_V)) (KS_Seq (KS_Set (KE_CV kX11_keptRows (KA_1 KE_V (KA_1 KE_V KA_0)))) (KS_Seq (KS_Set KE_I) (KS_Seq (KS_Seq (KS_Set KE_I) (KS_While k_cX11_rowsBeyond_1 k_bX11_rowsBeyond_1 k_uX11_rowsBeyond_1)) (KS_Ret KE_V)))))
theorem kX11_rowsBeyond : KM Wc mX11_rowsBeyond := KM_q k_sX11_rowsBeyond
theorem k_cX11_law_2 : KC Wc cX11_law_2 := (KC_B KE_V (KE_F (KE_F KE_V)))
theorem k_bX11_law_2 : KS Wc bX11_law_2 := (KS_Set (KE_2 KE_V (KE_CV kX11_rowsBeyond (KA_1 KE_V (KA_1 KE_V (KA_1 KE_V KA_0))))))
theorem k_uX11_law_2 : KS Wc uX11_law_2 := KS_Inc
theorem k_cX11_law_1 : KC Wc cX11_law_1 := (KC_B KE_V (KE_F (KE_F KE_V)))
theorem k_bX11_law_1 : KS Wc bX11_law_1 := (KS_If (KC_B (KE_F (KE_A (KE_F (KE_F KE_V)) KE_V)) KE_I) (KS_Seq (KS_Set KE_I) (KS_While k_cX11_law_2 k_bX11_law_2 k_uX11_law_2)) KS_Skip)
theorem k_uX11_law_1 : KS Wc uX11_law_1 := KS_Inc
theorem k_sX11_law : KS Wc sX11_law := (KS_Seq (KS_Set KE_I) (KS_Seq (KS_Seq (KS_Set KE_I) (KS_While k_cX11_law_1 k_bX11_law_1 k_uX11_law_1)) (KS_Ret KE_V)))
theorem kX11_law : KM Wc mX11_law := KM_q k_sX11_law
theorem k_sX11_hasForecast : KS Wc sX11_hasForecast := (KS_Ret (KE_B (KC_And (KC_E (KE_CV kX11_isMeasure (KA_1 KE_V (KA_1 KE_V KA_0)))) (KC_B (KE_F (KE_A (KE_F (KE_F KE_V)) KE_V)) KE_I))))
theorem kX11_hasForecast : KM Wc mX11_hasForecast := KM_q k_sX11_hasForecast
theorem k_sX4_kept : KS Wc sX4_kept := (KS_Ret (KE_2 (KE_F KE_V) KE_I))
theorem kX4_kept : KM Wc mX4_kept := KM_q k_sX4_kept
theorem k_sX11_forecast : KS Wc sX11_forecast := (KS_Seq (KS_If (KC_Not (KC_E (KE_CV kX11_hasForecast (KA_1 KE_V (KA_1 KE_V KA_0))))) (KS_Ret KE_I) KS_Skip) (KS_Seq (KS_Set (KE_A (KE_F (KE_CV kX11_now (KA_1 KE_V KA_0))) KE_V)) (KS_Sw KE_V (KF_1 (KS_Ret (KE_F KE_V)) (KF_1 (KS_Ret (KE_F KE_V)) (KF_1 (KS_Ret (KE_If (KC_E (KE_F KE_V)) KE_I KE_I)) (KF_1 (KS_Ret (KE_F (KE_A (KE_F (KE_F KE_V)) KE_V))) (KF_1 (KS_Ret (KE_F (KE_A (KE_F (KE_F KE_V)) KE_V))) (KF_1 (KS_Ret (KE_CV kX4_kept (KA_1 KE_V KA_0))) (KF_0 (KS_Ret KE_I)))))))))))
theorem kX11_forecast : KM Wc mX11_forecast := KM_q k_sX11_forecast
theorem k_sX11_place : KS Wc sX11_place := (KS_Seq (KS_If (KC_Or (KC_Or (KC_Not (KC_E (KE_CV kX11_hasForecast (KA_1 KE_V (KA_1 KE_V KA_0))))) (KC_B KE_V KE_I)) (KC_B KE_V (KE_F (KE_A (KE_F (KE_F KE_V)) KE_V)))) (KS_Ret KE_I) KS_Skip) (KS_Seq (KS_Set (KE_A (KE_F (KE_CV kX11_now (KA_1 KE_V KA_0))) KE_V)) (KS_Sw KE_V (KF_1 (KS_Ret (KE_A (KE_F KE_V) KE_V)) (KF_1 (KS_Ret (KE_A (KE_F KE_V) KE_V)) (KF_0 (KS_Ret KE_I)))))))
theorem kX11_place : KM Wc mX11_place := KM_q k_sX11_place
theorem k_sX4_slotOf : KS Wc sX4_slotOf := (KS_Ret (KE_If (KC_And (KC_B KE_V KE_I) (KC_B KE_V (KE_CV kX4_kept (KA_1 KE_V KA_0)))) (KE_D (KE_2 (KE_2 (KE_F KE_V) KE_I) KE_V) KE_I) KE_I))
theorem kX4_slotOf : KM Wc mX4_slotOf := KM_q k_sX4_slotOf
theorem k_sX4_isOdd : KS Wc sX4_isOdd := (KS_Seq (KS_Set (KE_CV kX4_slotOf (KA_1 KE_V (KA_1 KE_V KA_0)))) (KS_Ret (KE_B (KC_And (KC_B KE_V KE_I) (KC_E (KE_A (KE_F KE_V) KE_V))))))
theorem kX4_isOdd : KM Wc mX4_isOdd := KM_q k_sX4_isOdd
theorem k_sX4_toldOf : KS Wc sX4_toldOf := (KS_Seq (KS_Set (KE_CV kX4_slotOf (KA_1 KE_V (KA_1 KE_V KA_0)))) (KS_Ret (KE_If (KC_B KE_V KE_I) KE_I (KE_A (KE_F KE_V) KE_V))))
theorem kX4_toldOf : KM Wc mX4_toldOf := KM_q k_sX4_toldOf
theorem k_sX11_told : KS Wc sX11_told := (KS_Seq (KS_If (KC_Or (KC_Or (KC_Not (KC_E (KE_CV kX11_hasForecast (KA_1 KE_V (KA_1 KE_V KA_0))))) (KC_B KE_V KE_I)) (KC_B KE_V (KE_CV kX4_kept (KA_1 (KE_A (KE_F (KE_CV kX11_now (KA_1 KE_V KA_0))) KE_V) KA_0)))) (KS_Ret KE_I) KS_Skip) (KS_Seq (KS_Set (KE_A (KE_F (KE_CV kX11_now (KA_1 KE_V KA_0))) KE_V)) (KS_Sw KE_V (KF_1 (KS_Ret (KE_CV kX4_toldOf (KA_1 KE_V (KA_1 KE_V KA_0)))) (KF_1 (KS_Ret (KE_If (KC_E (KE_CV kX4_isOdd (KA_1 KE_V (KA_1 KE_V KA_0)))) KE_I KE_I)) (KF_0 (KS_Ret KE_I)))))))
theorem kX11_told : KM Wc mX11_told := KM_q k_sX11_told
theorem k_cX4_oddFrom_1 : KC Wc cX4_oddFrom_1 := (KC_B KE_V (KE_2 KE_V KE_V))
theorem k_bX4_oddFrom_1 : KS Wc bX4_oddFrom_1 := (KS_If (KC_E (KE_CV kX4_isOdd (KA_1 KE_V (KA_1 KE_V KA_0)))) KS_Inc KS_Skip)
theorem k_uX4_oddFrom_1 : KS Wc uX4_oddFrom_1 := KS_Inc
theorem k_sX4_oddFrom : KS Wc sX4_oddFrom := (KS_Seq (KS_Set KE_I) (KS_Seq (KS_Seq (KS_Set KE_V) (KS_While k_cX4_oddFrom_1 k_bX4_oddFrom_1 k_uX4_oddFrom_1)) (KS_Ret KE_V)))
theorem kX4_oddFrom : KM Wc mX4_oddFrom := KM_q k_sX4_oddFrom
theorem k_sX11_odd : KS Wc sX11_odd := (KS_Seq (KS_If (KC_Or (KC_Or (KC_Not (KC_E (KE_CV kX11_hasForecast (KA_1 KE_V (KA_1 KE_V KA_0))))) (KC_B KE_V KE_I)) (KC_B KE_V KE_I)) (KS_Ret KE_I) KS_Skip) (KS_Ret (KE_CV kX4_oddFrom (KA_1 (KE_A (KE_F (KE_CV kX11_now (KA_1 KE_V KA_0))) KE_V) (KA_1 KE_I (KA_1 KE_V KA_0))))))
theorem kX11_odd : KM Wc mX11_odd := KM_q k_sX11_odd
theorem k_cX11_alarms_1 : KC Wc cX11_alarms_1 := (KC_B (KE_2 KE_V KE_V) (KE_CV kX4_kept (KA_1 KE_V KA_0)))
theorem k_bX11_alarms_1 : KS Wc bX11_alarms_1 := (KS_If (KC_B (KE_CV kX4_oddFrom (KA_1 KE_V (KA_1 KE_V (KA_1 KE_V KA_0)))) KE_V) KS_Inc KS_Skip)
theorem k_uX11_alarms_1 : KS Wc uX11_alarms_1 := KS_Inc
theorem k_sX11_alarms : KS Wc sX11_alarms := (KS_Seq (KS_If (KC_Or (KC_Or (KC_Or (KC_Or (KC_Not (KC_E (KE_CV kX11_hasForecast (KA_1 KE_V (KA_1 KE_V KA_0))))) (KC_B KE_V KE_I)) (KC_B KE_V KE_I)) (KC_B KE_V KE_I)) (KC_B KE_V KE_I)) (KS_Ret KE_I) KS_Skip) (KS_Seq (KS_Set (KE_A (KE_F (KE_CV kX11_now (KA_1 KE_V KA_0))) KE_V)) (KS_Seq (KS_Set KE_I) (KS_Seq (KS_Seq (KS_Set KE_I) (KS_While k_cX11_alarms_1 k_bX11_alarms_1 k_uX11_alarms_1)) (KS_Ret KE_V)))))
theorem kX11_alarms : KM Wc mX11_alarms := KM_q k_sX11_alarms
theorem k_sX11_ahead : KS Wc sX11_ahead := (KS_Seq (KS_If (KC_Or (KC_Or (KC_Or (KC_Not (KC_E (KE_CV kX11_hasForecast (KA_1 KE_V (KA_1 KE_V KA_0))))) (KC_B KE_V KE_I)) (KC_B KE_V KE_I)) (KC_Not (KC_E (KE_F (KE_A (KE_F (KE_CV kX11_now (KA_1 KE_V KA_0))) KE_V))))) (KS_Ret KE_I) KS_Skip) (KS_Seq (KS_Set (KE_C kX11_remainder (KA_1 (KE_2 (KE_2 (KE_CV kX11_stepsOver (KA_1 KE_V KA_0)) KE_V) KE_I) (KA_1 (KE_F (KE_A (KE_F (KE_F KE_V)) KE_V)) KA_0)))) (KS_Ret (KE_CV kX4_tellAhead (KA_1 (KE_A (KE_F (KE_CV kX11_now (KA_1 KE_V KA_0))) KE_V) (KA_1 KE_V (KA_1 KE_V KA_0)))))))
theorem kX11_ahead : KM Wc mX11_ahead := KM_q k_sX11_ahead
theorem k_sX11_isShow : KS Wc sX11_isShow := (KS_Ret (KE_B (KC_And (KC_B KE_V KE_I) (KC_B KE_V (KE_F (KE_F (KE_F KE_V)))))))
theorem kX11_isShow : KM Wc mX11_isShow := KM_q k_sX11_isShow
theorem k_sX1_pop : KS Wc sX1_pop := (KS_Seq (KS_If (KC_B (KE_F KE_V) KE_I) (KS_Ret KE_I) KS_Skip) (KS_Seq (KS_PutC rfl KE_V KE_I) (KS_Ret (KE_A (KE_F KE_V) (KE_F KE_V)))))
theorem kX1_pop : KM Wc mX1_pop := KM_q k_sX1_pop
theorem k_sX1_joined : KS Wc sX1_joined := (KS_Seq (KS_If (KC_B KE_V KE_I) (KS_Ret (KE_1 (KE_If (KC_B KE_V KE_I) KE_V KE_V))) KS_Skip) (KS_Seq (KS_If (KC_Or (KC_B KE_V KE_I) (KC_B KE_V KE_I)) (KS_Ret KE_I) KS_Skip) (KS_Sw KE_V (KF_1 (KS_Ret (KE_C kX11_held (KA_1 (KE_2 KE_V KE_V) KA_0))) (KF_1 (KS_Ret (KE_C kX11_held (KA_1 (KE_2 KE_V KE_V) KA_0))) (KF_1 (KS_Ret (KE_C kX11_held (KA_1 (KE_D (KE_2 KE_V KE_V) KE_I) KA_0))) (KF_0 (KS_Ret (KE_If (KC_B KE_V KE_I) KE_I (KE_C kX11_held (KA_1 (KE_D (KE_2 KE_V KE_I) KE_V) KA_0)))))))))))
theorem kX1_joined : KM Wc mX1_joined := KM_q k_sX1_joined
theorem k_sX1_push : KS Wc sX1_push := (KS_Seq (KS_If (KC_B (KE_F KE_V) (KE_N (KE_F KE_V))) (KS_Seq (KS_Arr (fun _ => rfl) (KE_F KE_V) (KE_F KE_V) KE_V) (KS_PutC rfl KE_V KE_I)) KS_Skip) KS_RetV)
theorem kX1_push : KM Wc mX1_push := KM_q k_sX1_push
theorem k_sX1_run : KS Wc sX1_run := (KS_Seq (KS_Sw KE_V (KF_1 (KS_Seq (KS_Do (KE_CV kX1_push (KA_1 KE_V (KA_1 KE_V KA_0)))) KS_Brk) (KF_1 (KS_Seq (KS_Do (KE_CV kX1_push (KA_1 KE_V (KA_1 (KE_CV kX7_rowOf (KA_1 KE_V (KA_1 KE_V (KA_1 KE_V KA_0)))) KA_0)))) KS_Brk) (KF_1 (KS_Seq (KS_Do (KE_CV kX1_push (KA_1 KE_V (KA_1 (KE_If (KC_And (KC_B KE_V KE_I) (KC_B KE_V (KE_N (KE_F KE_V)))) (KE_A (KE_F KE_V) KE_V) KE_I) KA_0)))) KS_Brk) (KF_0 (KS_Seq (KS_Set (KE_CV kX1_pop (KA_1 KE_V KA_0))) (KS_Seq (KS_Set (KE_CV kX1_pop (KA_1 KE_V KA_0))) (KS_Seq (KS_Do (KE_CV kX1_push (KA_1 KE_V (KA_1 (KE_C kX1_joined (KA_1 KE_V (KA_1 KE_V (KA_1 KE_V KA_0)))) KA_0)))) KS_Brk)))))))) KS_RetV)
theorem kX1_run : KM Wc mX1_run := KM_q k_sX1_run
theorem k_cX1_tell_2 : KC Wc cX1_tell_2 := (KC_B KE_V (KE_A (KE_F KE_V) KE_V))
theorem k_bX1_tell_2 : KS Wc bX1_tell_2 := (KS_Do (KE_CV kX1_run (KA_1 KE_V (KA_1 (KE_A (KE_F KE_V) KE_V) (KA_1 (KE_A (KE_F KE_V) KE_V) (KA_1 KE_V (KA_1 KE_V KA_0)))))))
theorem k_uX1_tell_2 : KS Wc uX1_tell_2 := KS_Inc
theorem k_cX1_tell_1 : KC Wc cX1_tell_1 := (KC_B KE_V KE_V)
theorem k_bX1_tell_1 : KS Wc bX1_tell_1 := (KS_Seq (KS_Put rfl KE_V KE_I) (KS_Seq (KS_While k_cX1_tell_2 k_bX1_tell_2 k_uX1_tell_2) (KS_Arr (fun _ => rfl) (KE_F KE_V) KE_V (KE_CV kX1_pop (KA_1 KE_V KA_0)))))
theorem k_uX1_tell_1 : KS Wc uX1_tell_1 := KS_Inc
theorem k_sX1_tell : KS Wc sX1_tell := (KS_Seq (KS_If (KC_Or (KC_B KE_V KE_I) (KC_B KE_V (KE_F KE_V))) (KS_Ret KE_I) KS_Skip) (KS_Seq (KS_Set KE_I) (KS_Seq (KS_Seq (KS_Set KE_I) (KS_While k_cX1_tell_1 k_bX1_tell_1 k_uX1_tell_1)) (KS_Ret (KE_A (KE_F KE_V) KE_V)))))
theorem kX1_tell : KM Wc mX1_tell := KM_q k_sX1_tell
theorem k_sX11_showOf : KS Wc sX11_showOf := (KS_Seq (KS_If (KC_Or (KC_B KE_V KE_I) (KC_B KE_V (KE_CV kX11_keptRows (KA_1 KE_V (KA_1 KE_V KA_0))))) (KS_Ret KE_I) KS_Skip) (KS_Ret (KE_CV kX1_tell (KA_1 (KE_F (KE_F KE_V)) (KA_1 KE_V (KA_1 (KE_A (KE_F (KE_CV kX11_now (KA_1 KE_V KA_0))) KE_V) (KA_1 (KE_2 (KE_2 (KE_CV kX11_rowsDone (KA_1 KE_V (KA_1 KE_V KA_0))) KE_I) KE_V) KA_0)))))))
theorem kX11_showOf : KM Wc mX11_showOf := KM_q k_sX11_showOf
theorem k_sX11_show : KS Wc sX11_show := (KS_Seq (KS_If (KC_Or (KC_Not (KC_E (KE_CV kX11_isShow (KA_1 KE_V (KA_1 KE_V KA_0))))) (KC_Not (KC_E (KE_CV kX11_isArchive (KA_1 KE_V (KA_1 KE_V KA_0)))))) (KS_Ret KE_I) KS_Skip) (KS_Ret (KE_CV kX11_showOf (KA_1 KE_V (KA_1 KE_V (KA_1 KE_V (KA_1 KE_V KA_0)))))))
theorem kX11_show : KM Wc mX11_show := KM_q k_sX11_show
theorem k_cX11_shows_1 : KC Wc cX11_shows_1 := (KC_B KE_V KE_V)
theorem k_bX11_shows_1 : KS Wc bX11_shows_1 := (KS_Seq (KS_Set (KE_CV kX11_showOf (KA_1 KE_V (KA_1 KE_V (KA_1 KE_V (KA_1 KE_V KA_0)))))) (KS_Seq (KS_If (KC_And (KC_B KE_V KE_I) (KC_Or (KC_B (KE_F (KE_F KE_V)) KE_I) (KC_B KE_V (KE_F (KE_F KE_V))))) (KS_Set KE_V) KS_Skip) (KS_Do (KE_CV kX9_add (KA_1 (KE_F KE_V) (KA_1 KE_V (KA_1 KE_I KA_0)))))))
theorem k_uX11_shows_1 : KS Wc uX11_shows_1 := KS_Inc
theorem k_sX11_shows : KS Wc sX11_shows := (KS_Seq (KS_If (KC_Or (KC_Not (KC_E (KE_CV kX11_isShow (KA_1 KE_V (KA_1 KE_V KA_0))))) (KC_Not (KC_E (KE_CV kX11_isArchive (KA_1 KE_V (KA_1 KE_V KA_0)))))) (KS_Ret KE_I) KS_Skip) (KS_Seq (KS_Set (KE_CV kX11_keptRows (KA_1 KE_V (KA_1 KE_V KA_0)))) (KS_Seq (KS_Set KE_I) (KS_Seq (KS_Do (KE_CV kX9_clear (KA_1 (KE_F KE_V) KA_0))) (KS_Seq (KS_Seq (KS_Set KE_I) (KS_While k_cX11_shows_1 k_bX11_shows_1 k_uX11_shows_1)) (KS_Sw KE_V (KF_1 (KS_Ret (KE_F (KE_F KE_V))) (KF_1 (KS_Ret (KE_F (KE_F KE_V))) (KF_1 (KS_Ret (KE_F (KE_F KE_V))) (KF_1 (KS_Ret KE_V) (KF_0 (KS_Ret KE_I))))))))))))
theorem kX11_shows : KM Wc mX11_shows := KM_q k_sX11_shows
theorem k_cX11_forecastBits_1 : KC Wc cX11_forecastBits_1 := (KC_B KE_V (KE_F (KE_F KE_V)))
theorem k_bX11_forecastBits_1 : KS Wc bX11_forecastBits_1 := (KS_If (KC_E (KE_CV kX11_hasForecast (KA_1 KE_V (KA_1 KE_V KA_0)))) (KS_Set (KE_2 KE_V (KE_2 KE_I KE_V))) KS_Skip)
theorem k_uX11_forecastBits_1 : KS Wc uX11_forecastBits_1 := KS_Inc
theorem k_sX11_forecastBits : KS Wc sX11_forecastBits := (KS_Seq (KS_Set KE_I) (KS_Seq (KS_Seq (KS_Set KE_I) (KS_While k_cX11_forecastBits_1 k_bX11_forecastBits_1 k_uX11_forecastBits_1)) (KS_Ret KE_V)))
theorem kX11_forecastBits : KM Wc mX11_forecastBits := KM_q k_sX11_forecastBits
theorem k_sX11_about : KS Wc sX11_about := (KS_Sw KE_V (KF_1 (KS_Ret (KE_F (KE_F KE_V))) (KF_1 (KS_Ret (KE_F (KE_F KE_V))) (KF_1 (KS_Ret (KE_F (KE_F KE_V))) (KF_1 (KS_Ret (KE_F (KE_F (KE_F KE_V)))) (KF_1 (KS_Ret (KE_CV kX11_forecastBits (KA_1 KE_V KA_0))) (KF_1 (KS_Ret (KE_F (KE_CV kX11_now (KA_1 KE_V KA_0)))) (KF_1 (KS_Ret (KE_CV kX11_stepsOver (KA_1 KE_V KA_0))) (KF_1 (KS_Ret (KE_F (KE_CV kX11_now (KA_1 KE_V KA_0)))) (KF_1 (KS_Ret (KE_F (KE_F (KE_F KE_V)))) (KF_1 (KS_Ret (KE_F KE_V)) (KF_1 (KS_Ret (KE_F KE_V)) (KF_1 (KS_Ret (KE_F (KE_F KE_V))) (KF_0 (KS_Ret KE_I)))))))))))))))
theorem kX11_about : KM Wc mX11_about := KM_q k_sX11_about
theorem k_sX12_isIn : KS Wm sX12_isIn := (KS_Ret (KE_B (KC_And (KC_B KE_V KE_V) (KC_B KE_V KE_V))))
theorem kX12_isIn : KM Wm mX12_isIn := KM_q k_sX12_isIn
theorem k_sX12_held : KS Wm sX12_held := (KS_Ret (KE_If (KC_B KE_V KE_I) KE_I (KE_If (KC_B KE_V KE_I) KE_I KE_V)))
theorem kX12_held : KM Wm mX12_held := KM_q k_sX12_held
theorem k_sX12_own : KS Wm sX12_own := (KS_Ret (KE_2 (KE_2 KE_I KE_V) KE_V))
theorem kX12_own : KM Wm mX12_own := KM_q k_sX12_own
theorem k_cX12_clearBank_1 : KC Wm cX12_clearBank_1 := (KC_B KE_V KE_I)
theorem k_bX12_clearBank_1 : KS Wm bX12_clearBank_1 := (KS_Arr (fun _ => rfl) (KE_F KE_V) (KE_C kX12_own (KA_1 KE_V (KA_1 KE_V KA_0))) KE_I)
theorem k_uX12_clearBank_1 : KS Wm uX12_clearBank_1 := KS_Inc
theorem k_sX12_clearBank : KS Wm sX12_clearBank := (KS_Seq (KS_Arr (fun _ => rfl) (KE_F KE_V) KE_V KE_I) (KS_Seq (KS_Arr (fun _ => rfl) (KE_F KE_V) KE_V KE_I) (KS_Seq (KS_Arr (fun _ => rfl) (KE_F KE_V) KE_V KE_I) (KS_Seq (KS_Arr (fun _ => rfl) (KE_F KE_V) KE_V KE_I) (KS_Seq (KS_Arr (fun _ => rfl) (KE_F KE_V) KE_V KE_I) (KS_Seq (KS_Arr (fun _ => rfl) (KE_F KE_V) KE_V KE_I) (KS_Seq (KS_Seq (KS_Set KE_I) (KS_While k_cX12_clearBank_1 k_bX12_clearBank_1 k_uX12_clearBank_1)) KS_RetV)))))))
theorem kX12_clearBank : KM Wm mX12_clearBank := KM_q k_sX12_clearBank
theorem k_cX12_feed_1 : KC Wm cX12_feed_1 := (KC_B KE_V KE_I)
theorem k_bX12_feed_1 : KS Wm bX12_feed_1 := (KS_Seq (KS_Set (KE_If (KC_B KE_V KE_I) KE_V (KE_If (KC_B KE_V KE_I) KE_V (KE_If (KC_B KE_V KE_I) KE_V (KE_If (KC_B KE_V KE_I) KE_V KE_V))))) (KS_Arr (fun _ => rfl) (KE_F KE_V) (KE_2 (KE_F KE_V) KE_V) (KE_1 (KE_2 KE_V (KE_2 KE_I (KE_2 KE_I (KE_2 KE_V KE_I)))))))
theorem k_uX12_feed_1 : KS Wm uX12_feed_1 := KS_Inc
theorem k_sX12_feed : KS Wm sX12_feed := (KS_Seq (KS_If (KC_B (KE_2 (KE_F KE_V) KE_I) KE_I) (KS_Ret KE_I) KS_Skip) (KS_Seq (KS_Seq (KS_Set KE_I) (KS_While k_cX12_feed_1 k_bX12_feed_1 k_uX12_feed_1)) (KS_Seq (KS_PutC rfl KE_V KE_I) (KS_Ret (KE_F KE_V)))))
theorem kX12_feed : KM Wm mX12_feed := KM_q k_sX12_feed
theorem k_sX12_end : KS Wm sX12_end := (KS_Seq (KS_If (KC_Or (KC_B KE_V KE_I) (KC_B KE_V (KE_F KE_V))) (KS_Ret KE_I) KS_Skip) (KS_Seq (KS_Put rfl KE_V KE_V) (KS_Ret KE_V)))
theorem kX12_end : KM Wm mX12_end := KM_q k_sX12_end
theorem k_sX12_signAt : KS Wm sX12_signAt := (KS_Ret (KE_If (KC_B KE_V (KE_F KE_V)) (KE_A (KE_F KE_V) KE_V) KE_I))
theorem kX12_signAt : KM Wm mX12_signAt := KM_q k_sX12_signAt
theorem k_sX12_isLetter : KS Wm sX12_isLetter := (KS_Ret (KE_B (KC_And (KC_B KE_V KE_I) (KC_B KE_V KE_I))))
theorem kX12_isLetter : KM Wm mX12_isLetter := KM_q k_sX12_isLetter
theorem k_sX12_isDigit : KS Wm sX12_isDigit := (KS_Ret (KE_B (KC_And (KC_B KE_V KE_I) (KC_B KE_V KE_I))))
theorem kX12_isDigit : KM Wm mX12_isDigit := KM_q k_sX12_isDigit
theorem k_sX12_isSign : KS Wm sX12_isSign := (KS_Ret (KE_B (KC_Or (KC_Or (KC_Or (KC_Or (KC_Or (KC_Or (KC_Or (KC_B KE_V KE_I) (KC_B KE_V KE_I)) (KC_B KE_V KE_I)) (KC_B KE_V KE_I)) (KC_B KE_V KE_I)) (KC_B KE_V KE_I)) (KC_B KE_V KE_I)) (KC_B KE_V KE_I))))
theorem kX12_isSign : KM Wm mX12_isSign := KM_q k_sX12_isSign
theorem k_sX12_isBlank : KS Wm sX12_isBlank := (KS_Ret (KE_B (KC_And (KC_B KE_V (KE_F KE_V)) (KC_Or (KC_B (KE_A (KE_F KE_V) KE_V) KE_I) (KC_B (KE_A (KE_F KE_V) KE_V) KE_I)))))
theorem kX12_isBlank : KM Wm mX12_isBlank := KM_q k_sX12_isBlank
theorem k_cX12_scanNumber_1 : KC Wm cX12_scanNumber_1 := (KC_E (KE_C kX12_isDigit (KA_1 (KE_CV kX12_signAt (KA_1 KE_V (KA_1 (KE_F KE_V) KA_0))) KA_0)))
theorem k_bX12_scanNumber_1 : KS Wm bX12_scanNumber_1 := (KS_Seq (KS_Put rfl KE_V (KE_If (KC_B (KE_F KE_V) KE_I) (KE_F KE_V) (KE_2 (KE_2 (KE_2 KE_I (KE_F KE_V)) (KE_CV kX12_signAt (KA_1 KE_V (KA_1 (KE_F KE_V) KA_0)))) KE_I))) (KS_PutC rfl KE_V KE_I))
theorem k_uX12_scanNumber_1 : KS Wm uX12_scanNumber_1 := KS_Skip
theorem k_sX12_scanNumber : KS Wm sX12_scanNumber := (KS_Seq (KS_Put rfl KE_V KE_I) (KS_Seq (KS_Put rfl KE_V KE_I) (KS_Seq (KS_Put rfl KE_V (KE_F KE_V)) (KS_Seq (KS_While k_cX12_scanNumber_1 k_bX12_scanNumber_1 k_uX12_scanNumber_1) KS_RetV))))
theorem kX12_scanNumber : KM Wm mX12_scanNumber := KM_q k_sX12_scanNumber
theorem k_cX12_isSame_1 : KC Wm cX12_isSame_1 := (KC_B KE_V (KE_2 KE_V KE_V))
theorem k_bX12_isSame_1 : KS Wm bX12_isSame_1 := (KS_If (KC_B (KE_A (KE_F KE_V) (KE_2 KE_V KE_V)) (KE_A (KE_F KE_V) (KE_2 (KE_F KE_V) KE_V))) (KS_Ret KE_I) KS_Skip)
theorem k_uX12_isSame_1 : KS Wm uX12_isSame_1 := KS_Inc
theorem k_sX12_isSame : KS Wm sX12_isSame := (KS_Seq (KS_If (KC_B (KE_2 KE_V KE_V) (KE_2 (KE_F KE_V) (KE_F KE_V))) (KS_Ret KE_I) KS_Skip) (KS_Seq (KS_Seq (KS_Set KE_I) (KS_While k_cX12_isSame_1 k_bX12_isSame_1 k_uX12_isSame_1)) (KS_Ret KE_I)))
theorem kX12_isSame : KM Wm mX12_isSame := KM_q k_sX12_isSame
theorem k_cX12_scanWord_1 : KC Wm cX12_scanWord_1 := (KC_E (KE_C kX12_isLetter (KA_1 (KE_CV kX12_signAt (KA_1 KE_V (KA_1 (KE_F KE_V) KA_0))) KA_0)))
theorem k_bX12_scanWord_1 : KS Wm bX12_scanWord_1 := (KS_PutC rfl KE_V KE_I)
theorem k_uX12_scanWord_1 : KS Wm uX12_scanWord_1 := KS_Skip
theorem k_cX12_scanWord_3 : KC Wm cX12_scanWord_3 := (KC_B (KE_A (KE_F KE_V) KE_V) KE_I)
theorem k_bX12_scanWord_3 : KS Wm bX12_scanWord_3 := KS_Inc
theorem k_uX12_scanWord_3 : KS Wm uX12_scanWord_3 := KS_Skip
theorem k_cX12_scanWord_2 : KC Wm cX12_scanWord_2 := (KC_B KE_V KE_I)
theorem k_bX12_scanWord_2 : KS Wm bX12_scanWord_2 := (KS_Seq (KS_Set KE_V) (KS_Seq (KS_While k_cX12_scanWord_3 k_bX12_scanWord_3 k_uX12_scanWord_3) (KS_Seq (KS_If (KC_E (KE_CV kX12_isSame (KA_1 KE_V (KA_1 KE_V (KA_1 KE_V KA_0))))) (KS_Put rfl KE_V KE_V) KS_Skip) (KS_Set (KE_2 KE_V KE_I)))))
theorem k_uX12_scanWord_2 : KS Wm uX12_scanWord_2 := KS_Inc
theorem k_sX12_scanWord : KS Wm sX12_scanWord := (KS_Seq (KS_Put rfl KE_V KE_I) (KS_Seq (KS_Put rfl KE_V (KE_F KE_V)) (KS_Seq (KS_While k_cX12_scanWord_1 k_bX12_scanWord_1 k_uX12_scanWord_1) (KS_Seq (KS_Put rfl KE_V KE_I) (KS_Seq (KS_Set KE_I) (KS_Seq (KS_Seq (KS_Set KE_I) (KS_While k_cX12_scanWord_2 k_bX12_scanWord_2 k_uX12_scanWord_2)) KS_RetV))))))
theorem kX12_scanWord : KM Wm mX12_scanWord := KM_q k_sX12_scanWord
theorem k_cX12_scan_1 : KC Wm cX12_scan_1 := (KC_E (KE_CV kX12_isBlank (KA_1 KE_V (KA_1 (KE_F KE_V) KA_0))))
theorem k_bX12_scan_1 : KS Wm bX12_scan_1 := (KS_PutC rfl KE_V KE_I)
theorem k_uX12_scan_1 : KS Wm uX12_scan_1 := KS_Skip
theorem k_sX12_scan : KS Wm sX12_scan := (KS_Seq (KS_Put rfl KE_V (KE_F KE_V)) (KS_Seq (KS_While k_cX12_scan_1 k_bX12_scan_1 k_uX12_scan_1) (KS_Seq (KS_Put rfl KE_V (KE_2 (KE_F KE_V) KE_I)) (KS_Seq (KS_Set (KE_CV kX12_signAt (KA_1 KE_V (KA_1 (KE_F KE_V) KA_0)))) (KS_Seq (KS_If (KC_B (KE_F KE_V) (KE_F KE_V)) (KS_Seq (KS_Put rfl KE_V (KE_F KE_V)) (KS_Put rfl KE_V KE_I)) (KS_If (KC_E (KE_C kX12_isLetter (KA_1 KE_V KA_0))) (KS_Do (KE_CV kX12_scanWord (KA_1 KE_V KA_0))) (KS_If (KC_E (KE_C kX12_isDigit (KA_1 KE_V KA_0))) (KS_Do (KE_CV kX12_scanNumber (KA_1 KE_V KA_0))) (KS_Put rfl KE_V (KE_If (KC_E (KE_C kX12_isSign (KA_1 KE_V KA_0))) KE_I KE_I))))) KS_RetV)))))
theorem kX12_scan : KM Wm mX12_scan := KM_q k_sX12_scan
theorem k_sX12_fail : KS Wm sX12_fail := (KS_Seq (KS_If (KC_B (KE_F KE_V) KE_I) KS_RetV KS_Skip) (KS_Seq (KS_Put rfl KE_V KE_V) (KS_Seq (KS_Put rfl KE_V (KE_F KE_V)) KS_RetV)))
theorem kX12_fail : KM Wm mX12_fail := KM_q k_sX12_fail
theorem k_sX12_isAt : KS Wm sX12_isAt := (KS_Ret (KE_B (KC_And (KC_And (KC_B (KE_F KE_V) KE_I) (KC_B (KE_F KE_V) KE_I)) (KC_B (KE_CV kX12_signAt (KA_1 KE_V (KA_1 (KE_F KE_V) KA_0))) KE_V))))
theorem kX12_isAt : KM Wm mX12_isAt := KM_q k_sX12_isAt
theorem k_sX12_isWord : KS Wm sX12_isWord := (KS_Ret (KE_B (KC_And (KC_And (KC_B (KE_F KE_V) KE_I) (KC_B (KE_F KE_V) KE_I)) (KC_B (KE_F KE_V) KE_V))))
theorem kX12_isWord : KM Wm mX12_isWord := KM_q k_sX12_isWord
theorem k_sX12_need : KS Wm sX12_need := (KS_Seq (KS_If (KC_E (KE_CV kX12_isAt (KA_1 KE_V (KA_1 KE_V KA_0)))) (KS_Do (KE_CV kX12_scan (KA_1 KE_V KA_0))) (KS_Do (KE_CV kX12_fail (KA_1 KE_V (KA_1 KE_I KA_0))))) KS_RetV)
theorem kX12_need : KM Wm mX12_need := KM_q k_sX12_need
theorem k_sX12_needWord : KS Wm sX12_needWord := (KS_Seq (KS_If (KC_E (KE_CV kX12_isWord (KA_1 KE_V (KA_1 KE_V KA_0)))) (KS_Do (KE_CV kX12_scan (KA_1 KE_V KA_0))) (KS_Do (KE_CV kX12_fail (KA_1 KE_V (KA_1 KE_I KA_0))))) KS_RetV)
theorem kX12_needWord : KM Wm mX12_needWord := KM_q k_sX12_needWord
theorem k_sX12_numeral : KS Wm sX12_numeral := (KS_Seq (KS_If (KC_B (KE_F KE_V) KE_I) (KS_Do (KE_CV kX12_fail (KA_1 KE_V (KA_1 KE_I KA_0)))) (KS_If (KC_Not (KC_E (KE_C kX12_isIn (KA_1 (KE_F KE_V) (KA_1 KE_V (KA_1 KE_V KA_0)))))) (KS_Do (KE_CV kX12_fail (KA_1 KE_V (KA_1 KE_I KA_0)))) KS_Skip)) (KS_Seq (KS_Set (KE_F KE_V)) (KS_Seq (KS_If (KC_B (KE_F KE_V) KE_I) (KS_Do (KE_CV kX12_scan (KA_1 KE_V KA_0))) KS_Skip) (KS_Ret KE_V))))
theorem kX12_numeral : KM Wm mX12_numeral := KM_q k_sX12_numeral
theorem k_sX12_isName : KS Wm sX12_isName := (KS_Ret (KE_B (KC_And (KC_And (KC_B (KE_F KE_V) KE_I) (KC_B (KE_F KE_V) KE_I)) (KC_B (KE_F KE_V) KE_I))))
theorem kX12_isName : KM Wm mX12_isName := KM_q k_sX12_isName
theorem k_cX12_isNamed_1 : KC Wm cX12_isNamed_1 := (KC_B KE_V (KE_A (KE_F KE_V) KE_V))
theorem k_bX12_isNamed_1 : KS Wm bX12_isNamed_1 := (KS_If (KC_B (KE_A (KE_F KE_V) (KE_2 (KE_A (KE_F KE_V) KE_V) KE_V)) (KE_A (KE_F KE_V) (KE_2 (KE_F KE_V) KE_V))) (KS_Ret KE_I) KS_Skip)
theorem k_uX12_isNamed_1 : KS Wm uX12_isNamed_1 := KS_Inc
theorem k_sX12_isNamed : KS Wm sX12_isNamed := (KS_Seq (KS_If (KC_B (KE_A (KE_F KE_V) KE_V) (KE_2 (KE_F KE_V) (KE_F KE_V))) (KS_Ret KE_I) KS_Skip) (KS_Seq (KS_Seq (KS_Set KE_I) (KS_While k_cX12_isNamed_1 k_bX12_isNamed_1 k_uX12_isNamed_1)) (KS_Ret KE_I)))
theorem kX12_isNamed : KM Wm mX12_isNamed := KM_q k_sX12_isNamed
theorem k_cX12_nameHere_1 : KC Wm cX12_nameHere_1 := (KC_B KE_V (KE_F KE_V))
theorem k_bX12_nameHere_1 : KS Wm bX12_nameHere_1 := (KS_If (KC_E (KE_CV kX12_isNamed (KA_1 KE_V (KA_1 KE_V KA_0)))) (KS_Ret (KE_A (KE_F KE_V) KE_V)) KS_Skip)
theorem k_uX12_nameHere_1 : KS Wm uX12_nameHere_1 := KS_Inc
theorem k_sX12_nameHere : KS Wm sX12_nameHere := (KS_Seq (KS_Seq (KS_Set KE_I) (KS_While k_cX12_nameHere_1 k_bX12_nameHere_1 k_uX12_nameHere_1)) (KS_Ret KE_I))
theorem kX12_nameHere : KM Wm mX12_nameHere := KM_q k_sX12_nameHere
theorem k_sX12_newName : KS Wm sX12_newName := (KS_Seq (KS_If (KC_Not (KC_E (KE_CV kX12_isName (KA_1 KE_V KA_0)))) (KS_Do (KE_CV kX12_fail (KA_1 KE_V (KA_1 KE_I KA_0)))) (KS_If (KC_B (KE_CV kX12_nameHere (KA_1 KE_V KA_0)) KE_I) (KS_Do (KE_CV kX12_fail (KA_1 KE_V (KA_1 KE_I KA_0)))) KS_Skip)) (KS_Seq (KS_If (KC_B (KE_F KE_V) KE_I) KS_RetV KS_Skip) (KS_Seq (KS_Arr (fun _ => rfl) (KE_F KE_V) (KE_F KE_V) (KE_F KE_V)) (KS_Seq (KS_Arr (fun _ => rfl) (KE_F KE_V) (KE_F KE_V) (KE_2 (KE_F KE_V) (KE_F KE_V))) (KS_Seq (KS_Arr (fun _ => rfl) (KE_F KE_V) (KE_F KE_V) KE_V) (KS_Seq (KS_PutC rfl KE_V KE_I) (KS_Seq (KS_Do (KE_CV kX12_scan (KA_1 KE_V KA_0))) KS_RetV)))))))
theorem kX12_newName : KM Wm mX12_newName := KM_q k_sX12_newName
theorem k_sX12_readArchive : KS Wm sX12_readArchive := (KS_Seq (KS_If (KC_B (KE_A (KE_F KE_V) KE_V) KE_I) (KS_Do (KE_CV kX12_fail (KA_1 KE_V (KA_1 KE_I KA_0)))) KS_Skip) (KS_Seq (KS_If (KC_B (KE_F KE_V) KE_I) KS_RetV KS_Skip) (KS_Seq (KS_Do (KE_CV kX12_scan (KA_1 KE_V KA_0))) (KS_Seq (KS_Set (KE_C kX12_own (KA_1 KE_V (KA_1 (KE_A (KE_F KE_V) KE_V) KA_0)))) (KS_Seq (KS_Arr (fun _ => rfl) (KE_F KE_V) KE_V (KE_If (KC_E (KE_CV kX12_isWord (KA_1 KE_V (KA_1 KE_I KA_0)))) KE_I (KE_If (KC_E (KE_CV kX12_isWord (KA_1 KE_V (KA_1 KE_I KA_0)))) KE_I (KE_If (KC_E (KE_CV kX12_isWord (KA_1 KE_V (KA_1 KE_I KA_0)))) KE_I KE_I)))) (KS_Seq (KS_If (KC_And (KC_B (KE_A (KE_F KE_V) KE_V) KE_I) (KC_Not (KC_E (KE_CV kX12_isWord (KA_1 KE_V (KA_1 KE_I KA_0)))))) (KS_Do (KE_CV kX12_fail (KA_1 KE_V (KA_1 KE_I KA_0)))) KS_Skip) (KS_Seq (KS_If (KC_B (KE_F KE_V) KE_I) KS_RetV KS_Skip) (KS_Seq (KS_Do (KE_CV kX12_scan (KA_1 KE_V KA_0))) (KS_Seq (KS_Arr (fun _ => rfl) (KE_F KE_V) KE_V (KE_CV kX12_numeral (KA_1 KE_V (KA_1 KE_I (KA_1 KE_I KA_0))))) (KS_Seq (KS_Do (KE_CV kX12_needWord (KA_1 KE_V (KA_1 KE_I KA_0)))) (KS_Seq (KS_Arr (fun _ => rfl) (KE_F KE_V) KE_V (KE_CV kX12_numeral (KA_1 KE_V (KA_1 KE_I (KA_1 KE_I KA_0))))) (KS_Seq (KS_Do (KE_CV kX12_needWord (KA_1 KE_V (KA_1 KE_I KA_0)))) (KS_Seq (KS_Arr (fun _ => rfl) (KE_F KE_V) KE_V (KE_CV kX12_numeral (KA_1 KE_V (KA_1 KE_I (KA_1 KE_I KA_0))))) (KS_Seq (KS_ArrC (fun _ => rfl) (KE_F KE_V) KE_V KE_I) KS_RetV))))))))))))))
theorem kX12_readArchive : KM Wm mX12_readArchive := KM_q k_sX12_readArchive
theorem k_sX12_readForecast : KS Wm sX12_readForecast := (KS_Seq (KS_Do (KE_CV kX12_scan (KA_1 KE_V KA_0))) (KS_Seq (KS_Set (KE_If (KC_E (KE_CV kX12_isName (KA_1 KE_V KA_0))) (KE_CV kX12_nameHere (KA_1 KE_V KA_0)) KE_I)) (KS_Seq (KS_If (KC_Not (KC_E (KE_CV kX12_isName (KA_1 KE_V KA_0)))) (KS_Do (KE_CV kX12_fail (KA_1 KE_V (KA_1 KE_I KA_0)))) (KS_If (KC_Or (KC_Not (KC_E (KE_C kX12_isIn (KA_1 KE_V (KA_1 KE_I (KA_1 KE_I KA_0)))))) (KC_E (KE_A (KE_F KE_V) (KE_C kX12_own (KA_1 KE_V (KA_1 KE_V KA_0)))))) (KS_Do (KE_CV kX12_fail (KA_1 KE_V (KA_1 KE_I KA_0)))) KS_Skip)) (KS_Seq (KS_If (KC_B (KE_F KE_V) KE_I) KS_RetV KS_Skip) (KS_Seq (KS_Set (KE_C kX12_own (KA_1 KE_V (KA_1 KE_V KA_0)))) (KS_Seq (KS_Arr (fun _ => rfl) (KE_F KE_V) KE_V KE_I) (KS_Seq (KS_Do (KE_CV kX12_scan (KA_1 KE_V KA_0))) (KS_Seq (KS_Do (KE_CV kX12_needWord (KA_1 KE_V (KA_1 KE_I KA_0)))) (KS_Seq (KS_Arr (fun _ => rfl) (KE_F KE_V) KE_V (KE_CV kX12_numeral (KA_1 KE_V (KA_1 KE_I (KA_1 KE_I KA_0))))) (KS_Seq (KS_Do (KE_CV kX12_needWord (KA_1 KE_V (KA_1 KE_I KA_0)))) (KS_Seq (KS_Arr (fun _ => rfl) (KE_F KE_V) KE_V (KE_CV kX12_numeral (KA_1 KE_V (KA_1 KE_I (KA_1 KE_I KA_0))))) (KS_Seq (KS_Arr (fun _ => rfl) (KE_F KE_V) KE_V (KE_CV kX12_numeral (KA_1 KE_V (KA_1 KE_I (KA_1 KE_I KA_0))))) (KS_Seq (KS_Arr (fun _ => rfl) (KE_F KE_V) KE_V (KE_CV kX12_numeral (KA_1 KE_V (KA_1 KE_I (KA_1 KE_I KA_0))))) (KS_Seq (KS_Do (KE_CV kX12_needWord (KA_1 KE_V (KA_1 KE_I KA_0)))) (KS_Seq (KS_Arr (fun _ => rfl) (KE_F KE_V) KE_V (KE_CV kX12_numeral (KA_1 KE_V (KA_1 KE_I (KA_1 KE_I KA_0))))) KS_RetV)))))))))))))))
theorem kX12_readForecast : KM Wm mX12_readForecast := KM_q k_sX12_readForecast
theorem k_sX12_readMeasure : KS Wm sX12_readMeasure := (KS_Seq (KS_If (KC_B (KE_A (KE_F KE_V) KE_V) KE_I) (KS_Do (KE_CV kX12_fail (KA_1 KE_V (KA_1 KE_I KA_0)))) KS_Skip) (KS_Seq (KS_If (KC_B (KE_F KE_V) KE_I) KS_RetV KS_Skip) (KS_Seq (KS_Do (KE_CV kX12_scan (KA_1 KE_V KA_0))) (KS_Seq (KS_Set (KE_C kX12_own (KA_1 KE_V (KA_1 (KE_A (KE_F KE_V) KE_V) KA_0)))) (KS_Seq (KS_Set (KE_A (KE_F KE_V) KE_V)) (KS_Seq (KS_Set (KE_F KE_V)) (KS_Seq (KS_Do (KE_CV kX12_newName (KA_1 KE_V (KA_1 KE_V KA_0)))) (KS_Seq (KS_If (KC_B (KE_F KE_V) KE_I) KS_RetV KS_Skip) (KS_Seq (KS_Arr (fun _ => rfl) (KE_F KE_V) KE_V (KE_If (KC_E (KE_CV kX12_isWord (KA_1 KE_V (KA_1 KE_I KA_0)))) KE_I (KE_If (KC_E (KE_CV kX12_isWord (KA_1 KE_V (KA_1 KE_I KA_0)))) KE_I KE_I))) (KS_Seq (KS_If (KC_And (KC_B (KE_A (KE_F KE_V) KE_V) KE_I) (KC_Not (KC_E (KE_CV kX12_isWord (KA_1 KE_V (KA_1 KE_I KA_0)))))) (KS_Do (KE_CV kX12_fail (KA_1 KE_V (KA_1 KE_I KA_0)))) KS_Skip) (KS_Seq (KS_If (KC_B (KE_F KE_V) KE_I) KS_RetV KS_Skip) (KS_Seq (KS_Do (KE_CV kX12_scan (KA_1 KE_V KA_0))) (KS_Seq (KS_If (KC_B (KE_A (KE_F KE_V) KE_V) KE_I) (KS_Seq (KS_Arr (fun _ => rfl) (KE_F KE_V) KE_V (KE_CV kX12_numeral (KA_1 KE_V (KA_1 KE_I (KA_1 KE_I KA_0))))) (KS_Arr (fun _ => rfl) (KE_F KE_V) KE_V (KE_CV kX12_numeral (KA_1 KE_V (KA_1 (KE_2 (KE_A (KE_F KE_V) KE_V) KE_I) (KA_1 KE_I KA_0)))))) KS_Skip) (KS_Seq (KS_Do (KE_CV kX12_needWord (KA_1 KE_V (KA_1 KE_I KA_0)))) (KS_Seq (KS_Arr (fun _ => rfl) (KE_F KE_V) KE_V (KE_CV kX12_numeral (KA_1 KE_V (KA_1 KE_I (KA_1 KE_I KA_0))))) (KS_Seq (KS_Arr (fun _ => rfl) (KE_F KE_V) KE_V KE_I) (KS_Seq (KS_Arr (fun _ => rfl) (KE_F KE_V) KE_V KE_I) (KS_Seq (KS_If (KC_E (KE_CV kX12_isWord (KA_1 KE_V (KA_1 KE_I KA_0)))) (KS_Seq (KS_Do (KE_CV kX12_scan (KA_1 KE_V KA_0))) (KS_Arr (fun _ => rfl) (KE_F KE_V) KE_V (KE_CV kX12_numeral (KA_1 KE_V (KA_1 KE_I (KA_1 KE_I KA_0)))))) KS_Skip) (KS_Seq (KS_If (KC_E (KE_CV kX12_isWord (KA_1 KE_V (KA_1 KE_I KA_0)))) (KS_Seq (KS_Do (KE_CV kX12_scan (KA_1 KE_V KA_0))) (KS_Arr (fun _ => rfl) (KE_F KE_V) KE_V (KE_CV kX12_numeral (KA_1 KE_V (KA_1 (KE_A (KE_F KE_V) KE_V) (KA_1 KE_I KA_0)))))) KS_Skip) (KS_Seq (KS_If (KC_And (KC_B (KE_F KE_V) KE_I) (KC_B (KE_F KE_V) KE_V)) (KS_ArrC (fun _ => rfl) (KE_F KE_V) KE_V KE_I) KS_Skip) KS_RetV))))))))))))))))))))
theorem kX12_readMeasure : KM Wm mX12_readMeasure := KM_q k_sX12_readMeasure
theorem k_sX12_between : KS Wm sX12_between := (KS_Ret (KE_If (KC_E (KE_CV kX12_isWord (KA_1 KE_V (KA_1 KE_I KA_0)))) KE_I (KE_If (KC_E (KE_CV kX12_isAt (KA_1 KE_V (KA_1 KE_I KA_0)))) KE_I (KE_If (KC_E (KE_CV kX12_isAt (KA_1 KE_V (KA_1 KE_I KA_0)))) KE_I (KE_If (KC_E (KE_CV kX12_isAt (KA_1 KE_V (KA_1 KE_I KA_0)))) KE_I (KE_If (KC_E (KE_CV kX12_isAt (KA_1 KE_V (KA_1 KE_I KA_0)))) KE_I KE_I))))))
theorem kX12_between : KM Wm mX12_between := KM_q k_sX12_between
theorem k_sX12_lay : KS Wm sX12_lay := (KS_Seq (KS_Arr (fun _ => rfl) (KE_F KE_V) (KE_2 (KE_2 KE_I KE_V) (KE_A (KE_F KE_V) KE_V)) KE_V) (KS_Seq (KS_ArrC (fun _ => rfl) (KE_F KE_V) KE_V KE_I) KS_RetV))
theorem kX12_lay : KM Wm mX12_lay := KM_q k_sX12_lay
theorem k_sX12_layWaiting : KS Wm sX12_layWaiting := (KS_Seq (KS_PutC rfl KE_V KE_I) (KS_Seq (KS_Do (KE_CV kX12_lay (KA_1 KE_V (KA_1 KE_V (KA_1 (KE_A (KE_F KE_V) (KE_F KE_V)) KA_0))))) KS_RetV))
theorem kX12_layWaiting : KM Wm mX12_layWaiting := KM_q k_sX12_layWaiting
theorem k_sX12_bindsBy : KS Wm sX12_bindsBy := (KS_Ret (KE_If (KC_B KE_V KE_I) KE_I (KE_If (KC_B KE_V KE_I) KE_I (KE_If (KC_Or (KC_B KE_V KE_I) (KC_B KE_V KE_I)) KE_I KE_I))))
theorem kX12_bindsBy : KM Wm mX12_bindsBy := KM_q k_sX12_bindsBy
theorem k_cX12_push_1 : KC Wm cX12_push_1 := (KC_And (KC_And (KC_B (KE_F KE_V) KE_I) (KC_B KE_V KE_I)) (KC_B (KE_C kX12_bindsBy (KA_1 (KE_A (KE_F KE_V) (KE_2 (KE_F KE_V) KE_I)) KA_0)) (KE_C kX12_bindsBy (KA_1 KE_V KA_0))))
theorem k_bX12_push_1 : KS Wm bX12_push_1 := (KS_Do (KE_CV kX12_layWaiting (KA_1 KE_V (KA_1 KE_V KA_0))))
theorem k_uX12_push_1 : KS Wm uX12_push_1 := KS_Skip
theorem k_sX12_push : KS Wm sX12_push := (KS_Seq (KS_While k_cX12_push_1 k_bX12_push_1 k_uX12_push_1) (KS_Seq (KS_Arr (fun _ => rfl) (KE_F KE_V) (KE_F KE_V) KE_V) (KS_Seq (KS_PutC rfl KE_V KE_I) KS_RetV)))
theorem kX12_push : KM Wm mX12_push := KM_q k_sX12_push
theorem k_sX12_readUnit : KS Wm sX12_readUnit := (KS_Seq (KS_Set (KE_CV kX12_isAt (KA_1 KE_V (KA_1 KE_I KA_0)))) (KS_Seq (KS_If (KC_And (KC_And (KC_Not (KC_E KE_V)) (KC_Not (KC_E (KE_CV kX12_isName (KA_1 KE_V KA_0))))) (KC_B (KE_F KE_V) KE_I)) (KS_Do (KE_CV kX12_fail (KA_1 KE_V (KA_1 KE_I KA_0)))) (KS_If (KC_And (KC_B (KE_F KE_V) KE_I) (KC_B (KE_F KE_V) KE_I)) (KS_Do (KE_CV kX12_fail (KA_1 KE_V (KA_1 KE_I KA_0)))) (KS_If (KC_And (KC_E (KE_CV kX12_isName (KA_1 KE_V KA_0))) (KC_B (KE_CV kX12_nameHere (KA_1 KE_V KA_0)) KE_I)) (KS_Do (KE_CV kX12_fail (KA_1 KE_V (KA_1 KE_I KA_0)))) (KS_If (KC_Or (KC_B (KE_A (KE_F KE_V) KE_V) KE_I) (KC_B (KE_F KE_V) KE_I)) (KS_Do (KE_CV kX12_fail (KA_1 KE_V (KA_1 KE_I KA_0)))) KS_Skip)))) (KS_Seq (KS_If (KC_B (KE_F KE_V) KE_I) (KS_Ret KE_I) KS_Skip) (KS_Seq (KS_ArrC (fun _ => rfl) (KE_F KE_V) KE_V KE_I) (KS_Seq (KS_If (KC_E KE_V) (KS_Seq (KS_Do (KE_CV kX12_push (KA_1 KE_V (KA_1 KE_V (KA_1 KE_I KA_0))))) (KS_PutC rfl KE_V KE_I)) (KS_Do (KE_CV kX12_lay (KA_1 KE_V (KA_1 KE_V (KA_1 (KE_If (KC_B (KE_F KE_V) KE_I) (KE_F KE_V) (KE_If (KC_B (KE_CV kX12_nameHere (KA_1 KE_V KA_0)) KE_I) (KE_2 KE_I (KE_CV kX12_nameHere (KA_1 KE_V KA_0))) (KE_2 (KE_2 KE_I (KE_CV kX12_nameHere (KA_1 KE_V KA_0))) KE_I))) KA_0)))))) (KS_Seq (KS_Do (KE_CV kX12_scan (KA_1 KE_V KA_0))) (KS_Ret KE_V)))))))
theorem kX12_readUnit : KM Wm mX12_readUnit := KM_q k_sX12_readUnit
theorem k_cX12_readUnits_2 : KC Wm cX12_readUnits_2 := (KC_B (KE_A (KE_F KE_V) (KE_2 (KE_F KE_V) KE_I)) KE_I)
theorem k_bX12_readUnits_2 : KS Wm bX12_readUnits_2 := (KS_Do (KE_CV kX12_layWaiting (KA_1 KE_V (KA_1 KE_V KA_0))))
theorem k_uX12_readUnits_2 : KS Wm uX12_readUnits_2 := KS_Skip
theorem k_cX12_readUnits_1 : KC Wm cX12_readUnits_1 := (KC_And (KC_B (KE_F KE_V) KE_I) (KC_E KE_V))
theorem k_bX12_readUnits_1 : KS Wm bX12_readUnits_1 := (KS_If (KC_E KE_V) (KS_Set (KE_CV kX12_readUnit (KA_1 KE_V (KA_1 KE_V KA_0)))) (KS_If (KC_And (KC_E (KE_CV kX12_isAt (KA_1 KE_V (KA_1 KE_I KA_0)))) (KC_B (KE_F KE_V) KE_I)) (KS_Seq (KS_While k_cX12_readUnits_2 k_bX12_readUnits_2 k_uX12_readUnits_2) (KS_Seq (KS_PutC rfl KE_V KE_I) (KS_Seq (KS_PutC rfl KE_V KE_I) (KS_Do (KE_CV kX12_scan (KA_1 KE_V KA_0)))))) (KS_If (KC_B (KE_CV kX12_between (KA_1 KE_V KA_0)) KE_I) (KS_Seq (KS_Do (KE_CV kX12_push (KA_1 KE_V (KA_1 KE_V (KA_1 (KE_CV kX12_between (KA_1 KE_V KA_0)) KA_0))))) (KS_Seq (KS_Do (KE_CV kX12_scan (KA_1 KE_V KA_0))) (KS_Set KE_I))) (KS_Set KE_I))))
theorem k_uX12_readUnits_1 : KS Wm uX12_readUnits_1 := KS_Skip
theorem k_cX12_readUnits_3 : KC Wm cX12_readUnits_3 := (KC_And (KC_B (KE_F KE_V) KE_I) (KC_B (KE_F KE_V) KE_I))
theorem k_bX12_readUnits_3 : KS Wm bX12_readUnits_3 := (KS_Do (KE_CV kX12_layWaiting (KA_1 KE_V (KA_1 KE_V KA_0))))
theorem k_uX12_readUnits_3 : KS Wm uX12_readUnits_3 := KS_Skip
theorem k_sX12_readUnits : KS Wm sX12_readUnits := (KS_Seq (KS_Put rfl KE_V KE_I) (KS_Seq (KS_Put rfl KE_V KE_I) (KS_Seq (KS_Set KE_I) (KS_Seq (KS_Set KE_I) (KS_Seq (KS_While k_cX12_readUnits_1 k_bX12_readUnits_1 k_uX12_readUnits_1) (KS_Seq (KS_If (KC_And (KC_B (KE_F KE_V) KE_I) (KC_B (KE_F KE_V) KE_I)) (KS_Do (KE_CV kX12_fail (KA_1 KE_V (KA_1 KE_I KA_0)))) KS_Skip) (KS_Seq (KS_While k_cX12_readUnits_3 k_bX12_readUnits_3 k_uX12_readUnits_3) KS_RetV)))))))
theorem kX12_readUnits : KM Wm mX12_readUnits := KM_q k_sX12_readUnits
theorem k_sX12_readShow : KS Wm sX12_readShow := (KS_Seq (KS_If (KC_B (KE_A (KE_F KE_V) KE_V) KE_I) (KS_Do (KE_CV kX12_fail (KA_1 KE_V (KA_1 KE_I KA_0)))) KS_Skip) (KS_Seq (KS_If (KC_B (KE_F KE_V) KE_I) KS_RetV KS_Skip) (KS_Seq (KS_Do (KE_CV kX12_scan (KA_1 KE_V KA_0))) (KS_Seq (KS_If (KC_Not (KC_E (KE_CV kX12_isName (KA_1 KE_V KA_0)))) (KS_Do (KE_CV kX12_fail (KA_1 KE_V (KA_1 KE_I KA_0)))) (KS_If (KC_B (KE_CV kX12_nameHere (KA_1 KE_V KA_0)) KE_I) (KS_Do (KE_CV kX12_fail (KA_1 KE_V (KA_1 KE_I KA_0)))) KS_Skip)) (KS_Seq (KS_If (KC_B (KE_F KE_V) KE_I) KS_RetV KS_Skip) (KS_Seq (KS_Set (KE_F KE_V)) (KS_Seq (KS_Set (KE_2 (KE_F KE_V) (KE_F KE_V))) (KS_Seq (KS_Do (KE_CV kX12_scan (KA_1 KE_V KA_0))) (KS_Seq (KS_Do (KE_CV kX12_need (KA_1 KE_V (KA_1 KE_I KA_0)))) (KS_Seq (KS_Do (KE_CV kX12_readUnits (KA_1 KE_V (KA_1 KE_V KA_0)))) (KS_Seq (KS_Arr (fun _ => rfl) (KE_F KE_V) (KE_C kX12_own (KA_1 KE_V (KA_1 (KE_A (KE_F KE_V) KE_V) KA_0))) (KE_A (KE_F KE_V) KE_V)) (KS_Seq (KS_Arr (fun _ => rfl) (KE_F KE_V) (KE_F KE_V) KE_V) (KS_Seq (KS_Arr (fun _ => rfl) (KE_F KE_V) (KE_F KE_V) KE_V) (KS_Seq (KS_Arr (fun _ => rfl) (KE_F KE_V) (KE_F KE_V) (KE_2 KE_I (KE_A (KE_F KE_V) KE_V))) (KS_Seq (KS_If (KC_B (KE_F KE_V) KE_I) KS_RetV KS_Skip) (KS_Seq (KS_PutC rfl KE_V KE_I) (KS_Seq (KS_ArrC (fun _ => rfl) (KE_F KE_V) KE_V KE_I) KS_RetV)))))))))))))))))
theorem kX12_readShow : KM Wm mX12_readShow := KM_q k_sX12_readShow
theorem k_sX12_readLine : KS Wm sX12_readLine := (KS_Seq (KS_If (KC_E (KE_CV kX12_isWord (KA_1 KE_V (KA_1 KE_I KA_0)))) (KS_Do (KE_CV kX12_readMeasure (KA_1 KE_V (KA_1 KE_V KA_0)))) (KS_If (KC_E (KE_CV kX12_isWord (KA_1 KE_V (KA_1 KE_I KA_0)))) (KS_Do (KE_CV kX12_readArchive (KA_1 KE_V (KA_1 KE_V KA_0)))) (KS_If (KC_E (KE_CV kX12_isWord (KA_1 KE_V (KA_1 KE_I KA_0)))) (KS_Do (KE_CV kX12_readForecast (KA_1 KE_V (KA_1 KE_V KA_0)))) (KS_If (KC_E (KE_CV kX12_isWord (KA_1 KE_V (KA_1 KE_I KA_0)))) (KS_Do (KE_CV kX12_readShow (KA_1 KE_V (KA_1 KE_V KA_0)))) (KS_Do (KE_CV kX12_fail (KA_1 KE_V (KA_1 KE_I KA_0)))))))) KS_RetV)
theorem kX12_readLine : KM Wm mX12_readLine := KM_q k_sX12_readLine
theorem k_cX12_readAll_1 : KC Wm cX12_readAll_1 := (KC_And (KC_B (KE_F KE_V) KE_I) (KC_B (KE_F KE_V) KE_I))
theorem k_bX12_readAll_1 : KS Wm bX12_readAll_1 := (KS_Seq (KS_Do (KE_CV kX12_readLine (KA_1 KE_V (KA_1 KE_V KA_0)))) (KS_Do (KE_CV kX12_need (KA_1 KE_V (KA_1 KE_I KA_0)))))
theorem k_uX12_readAll_1 : KS Wm uX12_readAll_1 := KS_Skip
theorem k_sX12_readAll : KS Wm sX12_readAll := (KS_Seq (KS_Do (KE_CV kX12_scan (KA_1 KE_V KA_0))) (KS_Seq (KS_If (KC_B (KE_F KE_V) KE_I) KS_RetV KS_Skip) (KS_Seq (KS_Do (KE_CV kX12_needWord (KA_1 KE_V (KA_1 KE_I KA_0)))) (KS_Seq (KS_Arr (fun _ => rfl) (KE_F KE_V) KE_V (KE_CV kX12_numeral (KA_1 KE_V (KA_1 KE_I (KA_1 KE_I KA_0))))) (KS_Seq (KS_Do (KE_CV kX12_need (KA_1 KE_V (KA_1 KE_I KA_0)))) (KS_Seq (KS_While k_cX12_readAll_1 k_bX12_readAll_1 k_uX12_readAll_1) KS_RetV))))))
theorem kX12_readAll : KM Wm mX12_readAll := KM_q k_sX12_readAll
theorem k_sX12_many : KS Wm sX12_many := (KS_Ret (KE_A (KE_F KE_V) (KE_F KE_V)))
theorem kX12_many : KM Wm mX12_many := KM_q k_sX12_many
theorem k_sX12_atMeasure : KS Wm sX12_atMeasure := (KS_Ret (KE_2 (KE_2 KE_I (KE_2 KE_I KE_V)) KE_V))
theorem kX12_atMeasure : KM Wm mX12_atMeasure := KM_q k_sX12_atMeasure
theorem k_cX12_startAnew_1 : KC Wm cX12_startAnew_1 := (KC_B KE_V KE_I)
theorem k_bX12_startAnew_1 : KS Wm bX12_startAnew_1 := (KS_Arr (fun _ => rfl) (KE_F KE_V) KE_V KE_I)
theorem k_uX12_startAnew_1 : KS Wm uX12_startAnew_1 := KS_Inc
theorem k_cX12_startAnew_2 : KC Wm cX12_startAnew_2 := (KC_B KE_V (KE_CV kX12_many (KA_1 KE_V KA_0)))
theorem k_bX12_startAnew_2 : KS Wm bX12_startAnew_2 := (KS_Seq (KS_Set (KE_C kX12_own (KA_1 (KE_F KE_V) (KA_1 KE_V KA_0)))) (KS_Seq (KS_Arr (fun _ => rfl) (KE_F KE_V) (KE_C kX12_atMeasure (KA_1 KE_V (KA_1 KE_I KA_0))) (KE_A (KE_F KE_V) KE_V)) (KS_Seq (KS_Arr (fun _ => rfl) (KE_F KE_V) (KE_C kX12_atMeasure (KA_1 KE_V (KA_1 KE_I KA_0))) (KE_A (KE_F KE_V) KE_V)) (KS_Seq (KS_Arr (fun _ => rfl) (KE_F KE_V) (KE_C kX12_atMeasure (KA_1 KE_V (KA_1 KE_I KA_0))) (KE_A (KE_F KE_V) KE_V)) (KS_Seq (KS_Arr (fun _ => rfl) (KE_F KE_V) (KE_C kX12_atMeasure (KA_1 KE_V (KA_1 KE_I KA_0))) KE_I) (KS_Seq (KS_Arr (fun _ => rfl) (KE_F KE_V) (KE_C kX12_atMeasure (KA_1 KE_V (KA_1 KE_I KA_0))) KE_I) (KS_Seq (KS_Arr (fun _ => rfl) (KE_F KE_V) (KE_C kX12_atMeasure (KA_1 KE_V (KA_1 KE_I KA_0))) KE_I) (KS_Seq (KS_Arr (fun _ => rfl) (KE_F KE_V) (KE_C kX12_atMeasure (KA_1 KE_V (KA_1 KE_I KA_0))) KE_I) (KS_Arr (fun _ => rfl) (KE_F KE_V) (KE_C kX12_atMeasure (KA_1 KE_V (KA_1 KE_I KA_0))) KE_I)))))))))
theorem k_uX12_startAnew_2 : KS Wm uX12_startAnew_2 := KS_Inc
theorem k_cX12_startAnew_3 : KC Wm cX12_startAnew_3 := (KC_B KE_V KE_I)
theorem k_bX12_startAnew_3 : KS Wm bX12_startAnew_3 := (KS_Arr (fun _ => rfl) (KE_F KE_V) KE_V KE_I)
theorem k_uX12_startAnew_3 : KS Wm uX12_startAnew_3 := KS_Inc
theorem k_sX12_startAnew : KS Wm sX12_startAnew := (KS_Seq (KS_Seq (KS_Set KE_I) (KS_While k_cX12_startAnew_1 k_bX12_startAnew_1 k_uX12_startAnew_1)) (KS_Seq (KS_Seq (KS_Set KE_I) (KS_While k_cX12_startAnew_2 k_bX12_startAnew_2 k_uX12_startAnew_2)) (KS_Seq (KS_Put rfl KE_V KE_I) (KS_Seq (KS_Put rfl KE_V KE_I) (KS_Seq (KS_Seq (KS_Set KE_I) (KS_While k_cX12_startAnew_3 k_bX12_startAnew_3 k_uX12_startAnew_3)) KS_RetV)))))
theorem kX12_startAnew : KM Wm mX12_startAnew := KM_q k_sX12_startAnew
theorem k_sX12_store : KS Wm sX12_store := (KS_Seq (KS_Set (KE_2 KE_I (KE_F KE_V))) (KS_Seq (KS_Put rfl KE_V (KE_F KE_V)) (KS_Seq (KS_Put rfl KE_V KE_I) (KS_Seq (KS_Put rfl KE_V KE_I) (KS_Seq (KS_Put rfl KE_V KE_I) (KS_Seq (KS_Put rfl KE_V KE_I) (KS_Seq (KS_Put rfl KE_V KE_I) (KS_Seq (KS_Do (KE_CV kX12_clearBank (KA_1 KE_V (KA_1 KE_V KA_0)))) (KS_Seq (KS_Do (KE_CV kX12_readAll (KA_1 KE_V (KA_1 KE_V KA_0)))) (KS_Seq (KS_Put rfl KE_V (KE_F KE_V)) (KS_Seq (KS_Put rfl KE_V (KE_F KE_V)) (KS_Seq (KS_If (KC_B (KE_F KE_V) KE_I) (KS_Ret KE_I) KS_Skip) (KS_Seq (KS_Put rfl KE_V KE_V) (KS_Seq (KS_Do (KE_CV kX12_startAnew (KA_1 KE_V KA_0))) (KS_Ret (KE_CV kX12_many (KA_1 KE_V KA_0)))))))))))))))))
theorem kX12_store : KM Wm mX12_store := KM_q k_sX12_store
theorem k_sX12_fault : KS Wm sX12_fault := (KS_Ret (KE_If (KC_B KE_V KE_I) (KE_F KE_V) (KE_If (KC_B KE_V KE_I) (KE_F KE_V) KE_I)))
theorem kX12_fault : KM Wm mX12_fault := KM_q k_sX12_fault
theorem k_sX12_archivesNow : KS Wm sX12_archivesNow := (KS_Ret (KE_A (KE_F KE_V) (KE_F KE_V)))
theorem kX12_archivesNow : KM Wm mX12_archivesNow := KM_q k_sX12_archivesNow
theorem k_sX12_isMeasure : KS Wm sX12_isMeasure := (KS_Ret (KE_C kX12_isIn (KA_1 KE_V (KA_1 KE_I (KA_1 (KE_2 (KE_CV kX12_many (KA_1 KE_V KA_0)) KE_I) KA_0)))))
theorem kX12_isMeasure : KM Wm mX12_isMeasure := KM_q k_sX12_isMeasure
theorem k_sX12_isArchive : KS Wm sX12_isArchive := (KS_Ret (KE_C kX12_isIn (KA_1 KE_V (KA_1 KE_I (KA_1 (KE_2 (KE_CV kX12_archivesNow (KA_1 KE_V KA_0)) KE_I) KA_0)))))
theorem kX12_isArchive : KM Wm mX12_isArchive := KM_q k_sX12_isArchive
theorem k_sX12_isBoth : KS Wm sX12_isBoth := (KS_Ret (KE_B (KC_And (KC_E (KE_CV kX12_isArchive (KA_1 KE_V (KA_1 KE_V KA_0)))) (KC_E (KE_CV kX12_isMeasure (KA_1 KE_V (KA_1 KE_V KA_0)))))))
theorem kX12_isBoth : KM Wm mX12_isBoth := KM_q k_sX12_isBoth
theorem k_sX12_isFollowed : KS Wm sX12_isFollowed := (KS_Ret (KE_B (KC_And (KC_E (KE_CV kX12_isMeasure (KA_1 KE_V (KA_1 KE_V KA_0)))) (KC_E (KE_A (KE_F KE_V) (KE_C kX12_own (KA_1 (KE_F KE_V) (KA_1 KE_V KA_0))))))))
theorem kX12_isFollowed : KM Wm mX12_isFollowed := KM_q k_sX12_isFollowed
theorem k_sX12_atGather : KS Wm sX12_atGather := (KS_Ret (KE_2 (KE_2 KE_I (KE_2 KE_I (KE_2 (KE_2 KE_I KE_V) KE_V))) KE_V))
theorem kX12_atGather : KM Wm mX12_atGather := KM_q k_sX12_atGather
theorem k_sX12_atRow : KS Wm sX12_atRow := (KS_Ret (KE_2 (KE_2 KE_I (KE_2 KE_I (KE_2 (KE_2 KE_I KE_V) KE_V))) KE_V))
theorem kX12_atRow : KM Wm mX12_atRow := KM_q k_sX12_atRow
theorem k_sX12_atForecast : KS Wm sX12_atForecast := (KS_Ret (KE_2 (KE_2 KE_I (KE_2 KE_I KE_V)) KE_V))
theorem kX12_atForecast : KM Wm mX12_atForecast := KM_q k_sX12_atForecast
theorem k_sX12_width : KS Wm sX12_width := (KS_Ret (KE_2 KE_I KE_V))
theorem kX12_width : KM Wm mX12_width := KM_q k_sX12_width
theorem k_sX12_isNumber : KS Wm sX12_isNumber := (KS_Seq (KS_Set (KE_C kX12_own (KA_1 (KE_F KE_V) (KA_1 KE_V KA_0)))) (KS_Ret (KE_B (KC_And (KC_E (KE_C kX12_isIn (KA_1 KE_V (KA_1 KE_I (KA_1 KE_I KA_0))))) (KC_Or (KC_B (KE_A (KE_F KE_V) KE_V) KE_I) (KC_B KE_V (KE_C kX12_width (KA_1 (KE_A (KE_F KE_V) KE_V) KA_0))))))))
theorem kX12_isNumber : KM Wm mX12_isNumber := KM_q k_sX12_isNumber
theorem k_sX12_wentOn : KS Wm sX12_wentOn := (KS_Seq (KS_If (KC_B KE_V KE_V) (KS_Ret (KE_2 KE_V KE_V)) KS_Skip) (KS_Seq (KS_Set (KE_2 (KE_2 KE_V KE_V) (KE_C kX12_width (KA_1 KE_V KA_0)))) (KS_Ret (KE_If (KC_B KE_V KE_I) KE_V (KE_2 (KE_2 KE_V KE_V) (KE_C kX12_width (KA_1 KE_V KA_0)))))))
theorem kX12_wentOn : KM Wm mX12_wentOn := KM_q k_sX12_wentOn
theorem k_sX12_rateOf : KS Wm sX12_rateOf := (KS_Seq (KS_Set (KE_C kX12_own (KA_1 (KE_F KE_V) (KA_1 KE_V KA_0)))) (KS_Seq (KS_Set (KE_A (KE_F KE_V) (KE_C kX12_atMeasure (KA_1 KE_V (KA_1 KE_I KA_0))))) (KS_Seq (KS_If (KC_Or (KC_Or (KC_B KE_V (KE_A (KE_F KE_V) (KE_C kX12_atMeasure (KA_1 KE_V (KA_1 KE_I KA_0))))) (KC_Not (KC_E (KE_CV kX12_isNumber (KA_1 KE_V (KA_1 KE_V (KA_1 KE_V KA_0))))))) (KC_And (KC_B (KE_A (KE_F KE_V) KE_V) KE_I) (KC_B KE_V KE_I))) (KS_Ret KE_I) KS_Skip) (KS_Seq (KS_Set (KE_2 KE_I KE_V)) (KS_Seq (KS_If (KC_B (KE_A (KE_F KE_V) KE_V) KE_I) (KS_Set (KE_D (KE_2 KE_I KE_V) KE_V)) KS_Skip) (KS_Seq (KS_If (KC_B (KE_A (KE_F KE_V) KE_V) KE_I) (KS_Set (KE_D (KE_2 KE_I (KE_C kX12_wentOn (KA_1 KE_V (KA_1 KE_V (KA_1 (KE_A (KE_F KE_V) KE_V) (KA_1 (KE_A (KE_F KE_V) KE_V) KA_0)))))) KE_V)) KS_Skip) (KS_Ret (KE_If (KC_E (KE_C kX12_isIn (KA_1 KE_V (KA_1 (KE_2 KE_I (KE_A (KE_F KE_V) (KE_C kX12_atMeasure (KA_1 KE_V (KA_1 KE_I KA_0))))) (KA_1 (KE_2 KE_I (KE_A (KE_F KE_V) (KE_C kX12_atMeasure (KA_1 KE_V (KA_1 KE_I KA_0))))) KA_0))))) KE_V KE_I))))))))
theorem kX12_rateOf : KM Wm mX12_rateOf := KM_q k_sX12_rateOf
theorem k_sX12_canRead : KS Wm sX12_canRead := (KS_Ret (KE_B (KC_And (KC_E (KE_C kX12_isIn (KA_1 KE_V (KA_1 KE_I (KA_1 KE_I KA_0))))) (KC_B (KE_2 (KE_A (KE_F KE_V) KE_I) KE_V) KE_I))))
theorem kX12_canRead : KM Wm mX12_canRead := KM_q k_sX12_canRead
theorem k_sX12_gatheredBy : KS Wm sX12_gatheredBy := (KS_Seq (KS_Set (KE_C kX12_own (KA_1 (KE_F KE_V) (KA_1 KE_V KA_0)))) (KS_Seq (KS_If (KC_Or (KC_B (KE_A (KE_F KE_V) (KE_C kX12_atGather (KA_1 KE_V (KA_1 KE_V (KA_1 KE_I KA_0))))) KE_I) (KC_B (KE_2 KE_I (KE_A (KE_F KE_V) (KE_C kX12_atGather (KA_1 KE_V (KA_1 KE_V (KA_1 KE_I KA_0)))))) (KE_2 (KE_A (KE_F KE_V) KE_V) (KE_A (KE_F KE_V) KE_V)))) (KS_Ret KE_I) KS_Skip) (KS_Sw (KE_A (KE_F KE_V) KE_V) (KF_1 (KS_Ret (KE_D (KE_A (KE_F KE_V) (KE_C kX12_atGather (KA_1 KE_V (KA_1 KE_V (KA_1 KE_I KA_0))))) (KE_A (KE_F KE_V) (KE_C kX12_atGather (KA_1 KE_V (KA_1 KE_V (KA_1 KE_I KA_0))))))) (KF_1 (KS_Ret (KE_A (KE_F KE_V) (KE_C kX12_atGather (KA_1 KE_V (KA_1 KE_V (KA_1 KE_I KA_0)))))) (KF_1 (KS_Ret (KE_A (KE_F KE_V) (KE_C kX12_atGather (KA_1 KE_V (KA_1 KE_V (KA_1 KE_I KA_0)))))) (KF_0 (KS_Ret (KE_A (KE_F KE_V) (KE_C kX12_atGather (KA_1 KE_V (KA_1 KE_V (KA_1 KE_I KA_0)))))))))))))
theorem kX12_gatheredBy : KM Wm mX12_gatheredBy := KM_q k_sX12_gatheredBy
theorem k_sX12_rowsKept : KS Wm sX12_rowsKept := (KS_Ret (KE_1 (KE_A (KE_F KE_V) (KE_2 KE_I KE_V))))
theorem kX12_rowsKept : KM Wm mX12_rowsKept := KM_q k_sX12_rowsKept
theorem k_cX12_closeRow_2 : KC Wm cX12_closeRow_2 := (KC_B KE_V KE_I)
theorem k_bX12_closeRow_2 : KS Wm bX12_closeRow_2 := (KS_Arr (fun _ => rfl) (KE_F KE_V) (KE_C kX12_atRow (KA_1 KE_V (KA_1 KE_V (KA_1 KE_V KA_0)))) (KE_A (KE_F KE_V) (KE_C kX12_atRow (KA_1 KE_V (KA_1 KE_V (KA_1 (KE_2 KE_V KE_I) KA_0))))))
theorem k_uX12_closeRow_2 : KS Wm uX12_closeRow_2 := KS_Inc
theorem k_cX12_closeRow_3 : KC Wm cX12_closeRow_3 := (KC_B KE_V KE_I)
theorem k_bX12_closeRow_3 : KS Wm bX12_closeRow_3 := (KS_Arr (fun _ => rfl) (KE_F KE_V) (KE_C kX12_atGather (KA_1 KE_V (KA_1 KE_V (KA_1 KE_V KA_0)))) KE_I)
theorem k_uX12_closeRow_3 : KS Wm uX12_closeRow_3 := KS_Inc
theorem k_cX12_closeRow_1 : KC Wm cX12_closeRow_1 := (KC_B KE_V (KE_CV kX12_many (KA_1 KE_V KA_0)))
theorem k_bX12_closeRow_1 : KS Wm bX12_closeRow_1 := (KS_Seq (KS_Seq (KS_Set KE_I) (KS_While k_cX12_closeRow_2 k_bX12_closeRow_2 k_uX12_closeRow_2)) (KS_Seq (KS_Arr (fun _ => rfl) (KE_F KE_V) (KE_C kX12_atRow (KA_1 KE_V (KA_1 KE_V (KA_1 KE_I KA_0)))) (KE_CV kX12_gatheredBy (KA_1 KE_V (KA_1 KE_V (KA_1 KE_V KA_0))))) (KS_Seq (KS_Set KE_I) (KS_While k_cX12_closeRow_3 k_bX12_closeRow_3 k_uX12_closeRow_3))))
theorem k_uX12_closeRow_1 : KS Wm uX12_closeRow_1 := KS_Inc
theorem k_sX12_closeRow : KS Wm sX12_closeRow := (KS_Seq (KS_If (KC_B (KE_CV kX12_rowsKept (KA_1 KE_V (KA_1 KE_V KA_0))) (KE_A (KE_F KE_V) (KE_C kX12_own (KA_1 (KE_F KE_V) (KA_1 KE_V KA_0))))) (KS_ArrC (fun _ => rfl) (KE_F KE_V) (KE_2 KE_I KE_V) KE_I) KS_Skip) (KS_Seq (KS_Seq (KS_Set KE_I) (KS_While k_cX12_closeRow_1 k_bX12_closeRow_1 k_uX12_closeRow_1)) KS_RetV))
theorem kX12_closeRow : KM Wm mX12_closeRow := KM_q k_sX12_closeRow
theorem k_cX12_keepTold_1 : KC Wm cX12_keepTold_1 := (KC_B KE_V KE_I)
theorem k_bX12_keepTold_1 : KS Wm bX12_keepTold_1 := (KS_Seq (KS_Arr (fun _ => rfl) (KE_F KE_V) (KE_C kX12_atForecast (KA_1 KE_V (KA_1 (KE_2 KE_I KE_V) KA_0))) (KE_A (KE_F KE_V) (KE_C kX12_atForecast (KA_1 KE_V (KA_1 (KE_2 (KE_2 KE_I KE_V) KE_I) KA_0))))) (KS_Arr (fun _ => rfl) (KE_F KE_V) (KE_C kX12_atForecast (KA_1 KE_V (KA_1 (KE_2 KE_I KE_V) KA_0))) (KE_A (KE_F KE_V) (KE_C kX12_atForecast (KA_1 KE_V (KA_1 (KE_2 (KE_2 KE_I KE_V) KE_I) KA_0))))))
theorem k_uX12_keepTold_1 : KS Wm uX12_keepTold_1 := KS_Inc
theorem k_sX12_keepTold : KS Wm sX12_keepTold := (KS_Seq (KS_Seq (KS_Set KE_I) (KS_While k_cX12_keepTold_1 k_bX12_keepTold_1 k_uX12_keepTold_1)) (KS_Seq (KS_Arr (fun _ => rfl) (KE_F KE_V) (KE_C kX12_atForecast (KA_1 KE_V (KA_1 KE_I KA_0))) KE_V) (KS_Seq (KS_Arr (fun _ => rfl) (KE_F KE_V) (KE_C kX12_atForecast (KA_1 KE_V (KA_1 KE_I KA_0))) (KE_If (KC_E KE_V) KE_I KE_I)) (KS_Seq (KS_If (KC_B (KE_A (KE_F KE_V) (KE_C kX12_atForecast (KA_1 KE_V (KA_1 KE_I KA_0)))) KE_I) (KS_ArrC (fun _ => rfl) (KE_F KE_V) (KE_C kX12_atForecast (KA_1 KE_V (KA_1 KE_I KA_0))) KE_I) KS_Skip) KS_RetV))))
theorem kX12_keepTold : KM Wm mX12_keepTold := KM_q k_sX12_keepTold
theorem k_sX12_mixed : KS Wm sX12_mixed := (KS_Ret (KE_C kX12_held (KA_1 (KE_D (KE_2 (KE_2 KE_V KE_V) (KE_2 (KE_2 KE_I KE_V) KE_V)) KE_I) KA_0)))
theorem kX12_mixed : KM Wm mX12_mixed := KM_q k_sX12_mixed
theorem k_sX12_learn : KS Wm sX12_learn := (KS_Seq (KS_Set (KE_C kX12_own (KA_1 (KE_F KE_V) (KA_1 KE_V KA_0)))) (KS_Seq (KS_Set (KE_A (KE_F KE_V) (KE_C kX12_atForecast (KA_1 KE_V (KA_1 KE_I KA_0))))) (KS_Seq (KS_Set (KE_A (KE_F KE_V) (KE_C kX12_atForecast (KA_1 KE_V (KA_1 KE_I KA_0))))) (KS_Seq (KS_Set (KE_A (KE_F KE_V) (KE_C kX12_atForecast (KA_1 KE_V (KA_1 (KE_2 KE_I KE_V) KA_0))))) (KS_Seq (KS_Set (KE_C kX12_mixed (KA_1 (KE_A (KE_F KE_V) KE_V) (KA_1 (KE_2 KE_V KE_V) (KA_1 (KE_2 KE_V KE_V) KA_0))))) (KS_Seq (KS_Arr (fun _ => rfl) (KE_F KE_V) (KE_C kX12_atForecast (KA_1 KE_V (KA_1 KE_I KA_0))) KE_V) (KS_Seq (KS_Arr (fun _ => rfl) (KE_F KE_V) (KE_C kX12_atForecast (KA_1 KE_V (KA_1 KE_I KA_0))) (KE_C kX12_mixed (KA_1 (KE_A (KE_F KE_V) KE_V) (KA_1 (KE_2 KE_V KE_V) (KA_1 KE_V KA_0))))) (KS_Seq (KS_Arr (fun _ => rfl) (KE_F KE_V) (KE_C kX12_atForecast (KA_1 KE_V (KA_1 (KE_2 KE_I KE_V) KA_0))) (KE_C kX12_mixed (KA_1 (KE_A (KE_F KE_V) KE_V) (KA_1 (KE_2 KE_V KE_V) (KA_1 KE_V KA_0))))) (KS_Seq (KS_Arr (fun _ => rfl) (KE_F KE_V) (KE_C kX12_atForecast (KA_1 KE_V (KA_1 (KE_2 KE_I KE_V) KA_0))) (KE_C kX12_mixed (KA_1 (KE_A (KE_F KE_V) KE_V) (KA_1 KE_V (KA_1 (KE_A (KE_F KE_V) (KE_C kX12_atForecast (KA_1 KE_V (KA_1 (KE_2 KE_I KE_V) KA_0)))) KA_0))))) KS_RetV)))))))))
theorem kX12_learn : KM Wm mX12_learn := KM_q k_sX12_learn
theorem k_sX12_placeNow : KS Wm sX12_placeNow := (KS_Ret (KE_1 (KE_D (KE_2 (KE_A (KE_F KE_V) KE_I) KE_V) (KE_A (KE_F KE_V) (KE_C kX12_own (KA_1 (KE_F KE_V) (KA_1 KE_V KA_0)))))))
theorem kX12_placeNow : KM Wm mX12_placeNow := KM_q k_sX12_placeNow
theorem k_sX12_tells : KS Wm sX12_tells := (KS_Ret (KE_C kX12_held (KA_1 (KE_2 (KE_2 (KE_A (KE_F KE_V) (KE_C kX12_atForecast (KA_1 KE_V (KA_1 KE_I KA_0)))) (KE_A (KE_F KE_V) (KE_C kX12_atForecast (KA_1 KE_V (KA_1 KE_I KA_0))))) (KE_A (KE_F KE_V) (KE_C kX12_atForecast (KA_1 KE_V (KA_1 (KE_2 KE_I KE_V) KA_0))))) KA_0)))
theorem kX12_tells : KM Wm mX12_tells := KM_q k_sX12_tells
theorem k_sX12_follow : KS Wm sX12_follow := (KS_Seq (KS_If (KC_B (KE_A (KE_F KE_V) (KE_C kX12_atForecast (KA_1 KE_V (KA_1 KE_I KA_0)))) KE_I) (KS_Seq (KS_If (KC_B KE_V KE_I) KS_RetV KS_Skip) (KS_Seq (KS_Arr (fun _ => rfl) (KE_F KE_V) (KE_C kX12_atForecast (KA_1 KE_V (KA_1 KE_I KA_0))) KE_I) (KS_Seq (KS_Arr (fun _ => rfl) (KE_F KE_V) (KE_C kX12_atForecast (KA_1 KE_V (KA_1 KE_I KA_0))) (KE_C kX12_held (KA_1 KE_V KA_0))) KS_RetV))) KS_Skip) (KS_Seq (KS_Set (KE_CV kX12_placeNow (KA_1 KE_V (KA_1 KE_V (KA_1 KE_I KA_0))))) (KS_Seq (KS_Set (KE_CV kX12_tells (KA_1 KE_V (KA_1 KE_V (KA_1 KE_V KA_0))))) (KS_Seq (KS_Set (KE_If (KC_B KE_V KE_V) (KE_2 KE_V KE_V) (KE_2 KE_V KE_V))) (KS_Seq (KS_Set (KE_A (KE_F KE_V) (KE_C kX12_atForecast (KA_1 KE_V (KA_1 (KE_2 KE_I KE_V) KA_0))))) (KS_Seq (KS_Do (KE_CV kX12_keepTold (KA_1 KE_V (KA_1 KE_V (KA_1 KE_V (KA_1 (KE_B (KC_And (KC_And (KC_B KE_V KE_I) (KC_B KE_V KE_I)) (KC_B KE_V (KE_2 (KE_A (KE_F KE_V) (KE_C kX12_own (KA_1 (KE_F KE_V) (KA_1 KE_V KA_0)))) KE_V)))) KA_0)))))) (KS_Seq (KS_If (KC_B KE_V KE_I) (KS_Arr (fun _ => rfl) (KE_F KE_V) (KE_C kX12_atForecast (KA_1 KE_V (KA_1 KE_I KA_0))) (KE_C kX12_held (KA_1 (KE_2 (KE_A (KE_F KE_V) (KE_C kX12_atForecast (KA_1 KE_V (KA_1 KE_I KA_0)))) (KE_A (KE_F KE_V) (KE_C kX12_atForecast (KA_1 KE_V (KA_1 KE_I KA_0))))) KA_0))) (KS_Do (KE_CV kX12_learn (KA_1 KE_V (KA_1 KE_V (KA_1 KE_V (KA_1 KE_V (KA_1 KE_V KA_0)))))))) KS_RetV)))))))
theorem kX12_follow : KM Wm mX12_follow := KM_q k_sX12_follow
theorem k_sX12_gather : KS Wm sX12_gather := (KS_Seq (KS_If (KC_B KE_V KE_I) (KS_Seq (KS_ArrC (fun _ => rfl) (KE_F KE_V) (KE_C kX12_atGather (KA_1 KE_V (KA_1 KE_V (KA_1 KE_I KA_0)))) KE_I) KS_RetV) KS_Skip) (KS_Seq (KS_Set (KE_B (KC_B (KE_A (KE_F KE_V) (KE_C kX12_atGather (KA_1 KE_V (KA_1 KE_V (KA_1 KE_I KA_0))))) KE_I))) (KS_Seq (KS_ArrC (fun _ => rfl) (KE_F KE_V) (KE_C kX12_atGather (KA_1 KE_V (KA_1 KE_V (KA_1 KE_I KA_0)))) (KE_2 KE_V KE_V)) (KS_Seq (KS_ArrC (fun _ => rfl) (KE_F KE_V) (KE_C kX12_atGather (KA_1 KE_V (KA_1 KE_V (KA_1 KE_I KA_0)))) KE_V) (KS_Seq (KS_If (KC_Or (KC_E KE_V) (KC_B KE_V (KE_A (KE_F KE_V) (KE_C kX12_atGather (KA_1 KE_V (KA_1 KE_V (KA_1 KE_I KA_0))))))) (KS_Arr (fun _ => rfl) (KE_F KE_V) (KE_C kX12_atGather (KA_1 KE_V (KA_1 KE_V (KA_1 KE_I KA_0)))) KE_V) KS_Skip) (KS_Seq (KS_If (KC_Or (KC_E KE_V) (KC_B KE_V (KE_A (KE_F KE_V) (KE_C kX12_atGather (KA_1 KE_V (KA_1 KE_V (KA_1 KE_I KA_0))))))) (KS_Arr (fun _ => rfl) (KE_F KE_V) (KE_C kX12_atGather (KA_1 KE_V (KA_1 KE_V (KA_1 KE_I KA_0)))) KE_V) KS_Skip) (KS_Seq (KS_Arr (fun _ => rfl) (KE_F KE_V) (KE_C kX12_atGather (KA_1 KE_V (KA_1 KE_V (KA_1 KE_I KA_0)))) KE_V) (KS_Seq (KS_ArrC (fun _ => rfl) (KE_F KE_V) (KE_C kX12_atGather (KA_1 KE_V (KA_1 KE_V (KA_1 KE_I KA_0)))) KE_I) KS_RetV))))))))
theorem kX12_gather : KM Wm mX12_gather := KM_q k_sX12_gather
theorem k_sX12_reach : KS Wm sX12_reach := (KS_Seq (KS_If (KC_Or (KC_B (KE_A (KE_F KE_V) (KE_C kX12_atMeasure (KA_1 KE_V (KA_1 KE_I KA_0)))) KE_I) (KC_B KE_V (KE_A (KE_F KE_V) (KE_C kX12_atMeasure (KA_1 KE_V (KA_1 KE_I KA_0)))))) (KS_Arr (fun _ => rfl) (KE_F KE_V) (KE_C kX12_atMeasure (KA_1 KE_V (KA_1 KE_I KA_0))) KE_V) KS_Skip) (KS_Seq (KS_If (KC_Or (KC_B (KE_A (KE_F KE_V) (KE_C kX12_atMeasure (KA_1 KE_V (KA_1 KE_I KA_0)))) KE_I) (KC_B KE_V (KE_A (KE_F KE_V) (KE_C kX12_atMeasure (KA_1 KE_V (KA_1 KE_I KA_0)))))) (KS_Arr (fun _ => rfl) (KE_F KE_V) (KE_C kX12_atMeasure (KA_1 KE_V (KA_1 KE_I KA_0))) KE_V) KS_Skip) KS_RetV))
theorem kX12_reach : KM Wm mX12_reach := KM_q k_sX12_reach
theorem k_cX12_closeStep_2 : KC Wm cX12_closeStep_2 := (KC_B KE_V (KE_CV kX12_archivesNow (KA_1 KE_V KA_0)))
theorem k_bX12_closeStep_2 : KS Wm bX12_closeStep_2 := (KS_Do (KE_CV kX12_gather (KA_1 KE_V (KA_1 KE_V (KA_1 KE_V (KA_1 KE_V (KA_1 KE_V KA_0)))))))
theorem k_uX12_closeStep_2 : KS Wm uX12_closeStep_2 := KS_Inc
theorem k_cX12_closeStep_1 : KC Wm cX12_closeStep_1 := (KC_B KE_V (KE_CV kX12_many (KA_1 KE_V KA_0)))
theorem k_bX12_closeStep_1 : KS Wm bX12_closeStep_1 := (KS_Seq (KS_Set (KE_A (KE_F KE_V) (KE_C kX12_atMeasure (KA_1 KE_V (KA_1 KE_I KA_0))))) (KS_Seq (KS_Set (KE_B (KC_B (KE_2 KE_I (KE_2 (KE_A (KE_F KE_V) (KE_F KE_V)) KE_V)) (KE_A (KE_F KE_V) (KE_F KE_V))))) (KS_Seq (KS_Set (KE_If (KC_E KE_V) (KE_D (KE_A (KE_F KE_V) (KE_C kX12_atMeasure (KA_1 KE_V (KA_1 KE_I KA_0)))) KE_V) KE_I)) (KS_Seq (KS_Arr (fun _ => rfl) (KE_F KE_V) (KE_C kX12_atMeasure (KA_1 KE_V (KA_1 KE_I KA_0))) KE_V) (KS_Seq (KS_Arr (fun _ => rfl) (KE_F KE_V) (KE_C kX12_atMeasure (KA_1 KE_V (KA_1 KE_I KA_0))) KE_V) (KS_Seq (KS_Arr (fun _ => rfl) (KE_F KE_V) (KE_C kX12_atMeasure (KA_1 KE_V (KA_1 KE_I KA_0))) KE_I) (KS_Seq (KS_Arr (fun _ => rfl) (KE_F KE_V) (KE_C kX12_atMeasure (KA_1 KE_V (KA_1 KE_I KA_0))) KE_I) (KS_Seq (KS_If (KC_E KE_V) (KS_Do (KE_CV kX12_reach (KA_1 KE_V (KA_1 KE_V (KA_1 KE_V KA_0))))) KS_Skip) (KS_Seq (KS_Seq (KS_Set KE_I) (KS_While k_cX12_closeStep_2 k_bX12_closeStep_2 k_uX12_closeStep_2)) (KS_If (KC_E (KE_CV kX12_isFollowed (KA_1 KE_V (KA_1 KE_V KA_0)))) (KS_Do (KE_CV kX12_follow (KA_1 KE_V (KA_1 KE_V (KA_1 KE_V KA_0))))) KS_Skip))))))))))
theorem k_uX12_closeStep_1 : KS Wm uX12_closeStep_1 := KS_Inc
theorem k_cX12_closeStep_3 : KC Wm cX12_closeStep_3 := (KC_B KE_V (KE_CV kX12_archivesNow (KA_1 KE_V KA_0)))
theorem k_bX12_closeStep_3 : KS Wm bX12_closeStep_3 := (KS_If (KC_B (KE_D (KE_A (KE_F KE_V) KE_I) (KE_A (KE_F KE_V) (KE_C kX12_own (KA_1 (KE_F KE_V) (KA_1 KE_V KA_0))))) KE_I) (KS_Do (KE_CV kX12_closeRow (KA_1 KE_V (KA_1 KE_V KA_0)))) KS_Skip)
theorem k_uX12_closeStep_3 : KS Wm uX12_closeStep_3 := KS_Inc
theorem k_sX12_closeStep : KS Wm sX12_closeStep := (KS_Seq (KS_Seq (KS_Set KE_I) (KS_While k_cX12_closeStep_1 k_bX12_closeStep_1 k_uX12_closeStep_1)) (KS_Seq (KS_ArrC (fun _ => rfl) (KE_F KE_V) KE_I KE_I) (KS_Seq (KS_Seq (KS_Set KE_I) (KS_While k_cX12_closeStep_3 k_bX12_closeStep_3 k_uX12_closeStep_3)) KS_RetV)))
theorem kX12_closeStep : KM Wm mX12_closeStep := KM_q k_sX12_closeStep
theorem k_cX12_goRead_1 : KC Wm cX12_goRead_1 := (KC_B KE_V (KE_CV kX12_many (KA_1 KE_V KA_0)))
theorem k_bX12_goRead_1 : KS Wm bX12_goRead_1 := (KS_Seq (KS_Arr (fun _ => rfl) (KE_F KE_V) (KE_C kX12_atMeasure (KA_1 KE_V (KA_1 KE_I KA_0))) (KE_CV kX12_rateOf (KA_1 KE_V (KA_1 KE_V (KA_1 (KE_A (KE_F KE_V) KE_V) (KA_1 KE_V KA_0)))))) (KS_If (KC_B (KE_A (KE_F KE_V) (KE_C kX12_own (KA_1 (KE_F KE_V) (KA_1 KE_V KA_0)))) KE_I) (KS_Arr (fun _ => rfl) (KE_F KE_V) (KE_C kX12_atMeasure (KA_1 KE_V (KA_1 KE_I KA_0))) (KE_If (KC_E (KE_CV kX12_isNumber (KA_1 KE_V (KA_1 KE_V (KA_1 (KE_A (KE_F KE_V) KE_V) KA_0))))) (KE_A (KE_F KE_V) KE_V) KE_I)) KS_Skip))
theorem k_uX12_goRead_1 : KS Wm uX12_goRead_1 := KS_Inc
theorem k_cX12_goRead_3 : KC Wm cX12_goRead_3 := (KC_B KE_V (KE_CV kX12_many (KA_1 KE_V KA_0)))
theorem k_bX12_goRead_3 : KS Wm bX12_goRead_3 := (KS_Seq (KS_If (KC_B (KE_A (KE_F KE_V) (KE_C kX12_atMeasure (KA_1 KE_V (KA_1 KE_I KA_0)))) KE_I) KS_Cnt KS_Skip) (KS_Seq (KS_ArrC (fun _ => rfl) (KE_F KE_V) (KE_C kX12_atMeasure (KA_1 KE_V (KA_1 KE_I KA_0))) (KE_A (KE_F KE_V) (KE_C kX12_atMeasure (KA_1 KE_V (KA_1 KE_I KA_0))))) (KS_ArrC (fun _ => rfl) (KE_F KE_V) (KE_C kX12_atMeasure (KA_1 KE_V (KA_1 KE_I KA_0))) KE_I)))
theorem k_uX12_goRead_3 : KS Wm uX12_goRead_3 := KS_Inc
theorem k_cX12_goRead_2 : KC Wm cX12_goRead_2 := (KC_B KE_V KE_V)
theorem k_bX12_goRead_2 : KS Wm bX12_goRead_2 := (KS_Seq (KS_ArrC (fun _ => rfl) (KE_F KE_V) KE_I KE_I) (KS_Seq (KS_Seq (KS_Set KE_I) (KS_While k_cX12_goRead_3 k_bX12_goRead_3 k_uX12_goRead_3)) (KS_Seq (KS_If (KC_B (KE_D (KE_A (KE_F KE_V) KE_I) (KE_A (KE_F KE_V) (KE_F KE_V))) KE_I) KS_Cnt KS_Skip) (KS_Seq (KS_Do (KE_CV kX12_closeStep (KA_1 KE_V KA_0))) KS_Inc))))
theorem k_uX12_goRead_2 : KS Wm uX12_goRead_2 := KS_Inc
theorem k_sX12_goRead : KS Wm sX12_goRead := (KS_Seq (KS_ArrC (fun _ => rfl) (KE_F KE_V) KE_I KE_I) (KS_Seq (KS_Seq (KS_Set KE_I) (KS_While k_cX12_goRead_1 k_bX12_goRead_1 k_uX12_goRead_1)) (KS_Seq (KS_Set KE_I) (KS_Seq (KS_Seq (KS_Set KE_I) (KS_While k_cX12_goRead_2 k_bX12_goRead_2 k_uX12_goRead_2)) (KS_Ret KE_V)))))
theorem kX12_goRead : KM Wm mX12_goRead := KM_q k_sX12_goRead
theorem k_sX12_give : KS Wm sX12_give := (KS_Seq (KS_Arr (fun _ => rfl) (KE_F KE_V) KE_I KE_V) (KS_Seq (KS_Arr (fun _ => rfl) (KE_F KE_V) KE_I KE_V) (KS_Seq (KS_Arr (fun _ => rfl) (KE_F KE_V) KE_I KE_V) (KS_Seq (KS_Arr (fun _ => rfl) (KE_F KE_V) KE_I KE_V) KS_RetV))))
theorem kX12_give : KM Wm mX12_give := KM_q k_sX12_give
theorem k_cX12_keepAct_1 : KC Wm cX12_keepAct_1 := (KC_B KE_V KE_I)
theorem k_bX12_keepAct_1 : KS Wm bX12_keepAct_1 := (KS_Arr (fun _ => rfl) (KE_F KE_V) KE_V (KE_A (KE_F KE_V) (KE_2 KE_V KE_I)))
theorem k_uX12_keepAct_1 : KS Wm uX12_keepAct_1 := KS_Inc
theorem k_cX12_keepAct_2 : KC Wm cX12_keepAct_2 := (KC_B KE_V KE_I)
theorem k_bX12_keepAct_2 : KS Wm bX12_keepAct_2 := (KS_Arr (fun _ => rfl) (KE_F KE_V) (KE_2 (KE_2 KE_I (KE_F KE_V)) KE_V) (KE_A (KE_F KE_V) KE_V))
theorem k_uX12_keepAct_2 : KS Wm uX12_keepAct_2 := KS_Inc
theorem k_sX12_keepAct : KS Wm sX12_keepAct := (KS_Seq (KS_If (KC_B (KE_F KE_V) KE_I) (KS_Seq (KS_Seq (KS_Set KE_I) (KS_While k_cX12_keepAct_1 k_bX12_keepAct_1 k_uX12_keepAct_1)) (KS_PutC rfl KE_V KE_I)) KS_Skip) (KS_Seq (KS_Seq (KS_Set KE_I) (KS_While k_cX12_keepAct_2 k_bX12_keepAct_2 k_uX12_keepAct_2)) (KS_Seq (KS_PutC rfl KE_V KE_I) (KS_Seq (KS_Put rfl KE_V KE_I) KS_RetV))))
theorem kX12_keepAct : KM Wm mX12_keepAct := KM_q k_sX12_keepAct
theorem k_sX12_read : KS Wm sX12_read := (KS_Seq (KS_If (KC_Not (KC_E (KE_CV kX12_canRead (KA_1 KE_V (KA_1 KE_V KA_0))))) (KS_Ret KE_I) KS_Skip) (KS_Seq (KS_Do (KE_CV kX12_keepAct (KA_1 KE_V KA_0))) (KS_Seq (KS_Do (KE_CV kX12_give (KA_1 KE_V (KA_1 KE_V (KA_1 KE_V (KA_1 KE_V (KA_1 KE_V KA_0))))))) (KS_Ret (KE_CV kX12_goRead (KA_1 KE_V (KA_1 KE_V KA_0)))))))
theorem kX12_read : KM Wm mX12_read := KM_q k_sX12_read
theorem k_sX12_canTurn : KS Wm sX12_canTurn := (KS_Seq (KS_If (KC_Or (KC_Not (KC_E (KE_CV kX12_isMeasure (KA_1 KE_V (KA_1 KE_V KA_0))))) (KC_Not (KC_E (KE_C kX12_isIn (KA_1 KE_V (KA_1 KE_I (KA_1 KE_I KA_0))))))) (KS_Ret KE_I) KS_Skip) (KS_Seq (KS_If (KC_B KE_V KE_I) (KS_Ret (KE_C kX12_isIn (KA_1 KE_V (KA_1 KE_I (KA_1 KE_I KA_0))))) KS_Skip) (KS_Ret (KE_If (KC_B KE_V KE_I) (KE_C kX12_isIn (KA_1 KE_V (KA_1 KE_I (KA_1 (KE_A (KE_F KE_V) (KE_C kX12_atMeasure (KA_1 KE_V (KA_1 KE_I KA_0)))) KA_0)))) (KE_C kX12_isIn (KA_1 KE_V (KA_1 (KE_A (KE_F KE_V) (KE_C kX12_atMeasure (KA_1 KE_V (KA_1 KE_I KA_0)))) (KA_1 KE_I KA_0))))))))
theorem kX12_canTurn : KM Wm mX12_canTurn := KM_q k_sX12_canTurn
theorem k_sX12_turn : KS Wm sX12_turn := (KS_Seq (KS_If (KC_Not (KC_E (KE_CV kX12_canTurn (KA_1 KE_V (KA_1 KE_V (KA_1 KE_V (KA_1 KE_V KA_0))))))) (KS_Ret KE_I) KS_Skip) (KS_Seq (KS_Do (KE_CV kX12_keepAct (KA_1 KE_V KA_0))) (KS_Seq (KS_Set (KE_1 (KE_A (KE_F KE_V) (KE_C kX12_atMeasure (KA_1 KE_V (KA_1 KE_V KA_0)))))) (KS_Seq (KS_Arr (fun _ => rfl) (KE_F KE_V) (KE_C kX12_atMeasure (KA_1 KE_V (KA_1 KE_V KA_0))) KE_V) (KS_Ret KE_V)))))
theorem kX12_turn : KM Wm mX12_turn := KM_q k_sX12_turn
theorem k_sX12_measure : KS Wm sX12_measure := (KS_Seq (KS_If (KC_Not (KC_E (KE_CV kX12_isMeasure (KA_1 KE_V (KA_1 KE_V KA_0))))) (KS_Ret KE_I) KS_Skip) (KS_Sw KE_V (KF_1 (KS_Ret (KE_1 (KE_A (KE_F KE_V) (KE_C kX12_atMeasure (KA_1 KE_V (KA_1 KE_V KA_0)))))) (KF_1 (KS_Ret (KE_A (KE_F KE_V) (KE_C kX12_own (KA_1 (KE_F KE_V) (KA_1 KE_V KA_0))))) (KF_1 (KS_Ret (KE_1 (KE_A (KE_F KE_V) (KE_C kX12_atMeasure (KA_1 KE_V (KA_1 KE_I KA_0)))))) (KF_1 (KS_Ret (KE_1 (KE_A (KE_F KE_V) (KE_C kX12_atMeasure (KA_1 KE_V (KA_1 KE_I KA_0)))))) (KF_0 (KS_Ret KE_I))))))))
theorem kX12_measure : KM Wm mX12_measure := KM_q k_sX12_measure
theorem k_sX12_rate : KS Wm sX12_rate := (KS_Ret (KE_If (KC_E (KE_CV kX12_isMeasure (KA_1 KE_V (KA_1 KE_V KA_0)))) (KE_1 (KE_A (KE_F KE_V) (KE_C kX12_atMeasure (KA_1 KE_V (KA_1 KE_I KA_0))))) KE_I))
theorem kX12_rate : KM Wm mX12_rate := KM_q k_sX12_rate
theorem k_sX12_value : KS Wm sX12_value := (KS_Ret (KE_If (KC_E (KE_CV kX12_isMeasure (KA_1 KE_V (KA_1 KE_V KA_0)))) (KE_1 (KE_A (KE_F KE_V) (KE_C kX12_atMeasure (KA_1 KE_V (KA_1 KE_I KA_0))))) KE_I))
theorem kX12_value : KM Wm mX12_value := KM_q k_sX12_value
theorem k_sX12_unitsOf : KS Wm sX12_unitsOf := (KS_Ret (KE_2 (KE_A (KE_F KE_V) (KE_C kX12_own (KA_1 (KE_F KE_V) (KA_1 KE_V KA_0)))) (KE_A (KE_F KE_V) (KE_F KE_V))))
theorem kX12_unitsOf : KM Wm mX12_unitsOf := KM_q k_sX12_unitsOf
theorem k_sX12_overAt : KS Wm sX12_overAt := (KS_Ret (KE_2 (KE_1 (KE_D (KE_A (KE_F KE_V) KE_I) (KE_A (KE_F KE_V) (KE_C kX12_own (KA_1 (KE_F KE_V) (KA_1 KE_V KA_0)))))) (KE_CV kX12_unitsOf (KA_1 KE_V (KA_1 KE_V KA_0)))))
theorem kX12_overAt : KM Wm mX12_overAt := KM_q k_sX12_overAt
theorem k_sX12_archive : KS Wm sX12_archive := (KS_Seq (KS_If (KC_Not (KC_E (KE_CV kX12_isArchive (KA_1 KE_V (KA_1 KE_V KA_0))))) (KS_Ret KE_I) KS_Skip) (KS_Seq (KS_Set (KE_C kX12_own (KA_1 (KE_F KE_V) (KA_1 KE_V KA_0)))) (KS_Sw KE_V (KF_1 (KS_Ret (KE_A (KE_F KE_V) KE_V)) (KF_1 (KS_Ret (KE_A (KE_F KE_V) KE_V)) (KF_1 (KS_Ret (KE_A (KE_F KE_V) KE_V)) (KF_1 (KS_Ret (KE_A (KE_F KE_V) KE_V)) (KF_1 (KS_Ret (KE_CV kX12_rowsKept (KA_1 KE_V (KA_1 KE_V KA_0)))) (KF_1 (KS_Ret (KE_If (KC_B (KE_CV kX12_rowsKept (KA_1 KE_V (KA_1 KE_V KA_0))) KE_I) KE_I (KE_CV kX12_overAt (KA_1 KE_V (KA_1 KE_V KA_0))))) (KF_1 (KS_Ret (KE_1 (KE_D (KE_A (KE_F KE_V) KE_I) (KE_A (KE_F KE_V) KE_V)))) (KF_0 (KS_Ret KE_I))))))))))))
theorem kX12_archive : KM Wm mX12_archive := KM_q k_sX12_archive
theorem k_sX12_isRow : KS Wm sX12_isRow := (KS_Ret (KE_B (KC_And (KC_E (KE_CV kX12_isBoth (KA_1 KE_V (KA_1 KE_V (KA_1 KE_V KA_0))))) (KC_E (KE_C kX12_isIn (KA_1 KE_V (KA_1 KE_I (KA_1 (KE_2 (KE_CV kX12_rowsKept (KA_1 KE_V (KA_1 KE_V KA_0))) KE_I) KA_0))))))))
theorem kX12_isRow : KM Wm mX12_isRow := KM_q k_sX12_isRow
theorem k_sX12_row : KS Wm sX12_row := (KS_Ret (KE_If (KC_E (KE_CV kX12_isRow (KA_1 KE_V (KA_1 KE_V (KA_1 KE_V (KA_1 KE_V KA_0)))))) (KE_1 (KE_A (KE_F KE_V) (KE_C kX12_atRow (KA_1 KE_V (KA_1 KE_V (KA_1 KE_V KA_0)))))) KE_I))
theorem kX12_row : KM Wm mX12_row := KM_q k_sX12_row
theorem k_sX12_beginOf : KS Wm sX12_beginOf := (KS_Ret (KE_2 (KE_CV kX12_overAt (KA_1 KE_V (KA_1 KE_V KA_0))) (KE_2 (KE_CV kX12_unitsOf (KA_1 KE_V (KA_1 KE_V KA_0))) (KE_2 KE_V KE_I))))
theorem kX12_beginOf : KM Wm mX12_beginOf := KM_q k_sX12_beginOf
theorem k_cX12_rowAt_1 : KC Wm cX12_rowAt_1 := (KC_B KE_V (KE_CV kX12_rowsKept (KA_1 KE_V (KA_1 KE_V KA_0))))
theorem k_bX12_rowAt_1 : KS Wm bX12_rowAt_1 := (KS_If (KC_E (KE_C kX12_isIn (KA_1 KE_V (KA_1 (KE_2 (KE_CV kX12_beginOf (KA_1 KE_V (KA_1 KE_V (KA_1 KE_V KA_0)))) KE_I) (KA_1 (KE_2 (KE_CV kX12_beginOf (KA_1 KE_V (KA_1 KE_V (KA_1 KE_V KA_0)))) (KE_CV kX12_unitsOf (KA_1 KE_V (KA_1 KE_V KA_0)))) KA_0))))) (KS_Ret KE_V) KS_Skip)
theorem k_uX12_rowAt_1 : KS Wm uX12_rowAt_1 := KS_Inc
theorem k_sX12_rowAt : KS Wm sX12_rowAt := (KS_Seq (KS_If (KC_Not (KC_E (KE_CV kX12_isArchive (KA_1 KE_V (KA_1 KE_V KA_0))))) (KS_Ret KE_I) KS_Skip) (KS_Seq (KS_Seq (KS_Set KE_I) (KS_While k_cX12_rowAt_1 k_bX12_rowAt_1 k_uX12_rowAt_1)) (KS_Ret KE_I)))
theorem kX12_rowAt : KM Wm mX12_rowAt := KM_q k_sX12_rowAt
theorem k_sX12_isWithin : KS Wm sX12_isWithin := (KS_Ret (KE_B (KC_And (KC_B (KE_CV kX12_beginOf (KA_1 KE_V (KA_1 KE_V (KA_1 KE_V KA_0)))) KE_V) (KC_B (KE_2 (KE_CV kX12_beginOf (KA_1 KE_V (KA_1 KE_V (KA_1 KE_V KA_0)))) (KE_CV kX12_unitsOf (KA_1 KE_V (KA_1 KE_V KA_0)))) KE_V))))
theorem kX12_isWithin : KM Wm mX12_isWithin := KM_q k_sX12_isWithin
theorem k_cX12_laySpan_1 : KC Wm cX12_laySpan_1 := (KC_B KE_V (KE_CV kX12_rowsKept (KA_1 KE_V (KA_1 KE_V KA_0))))
theorem k_bX12_laySpan_1 : KS Wm bX12_laySpan_1 := (KS_Seq (KS_If (KC_Not (KC_E (KE_CV kX12_isWithin (KA_1 KE_V (KA_1 KE_V (KA_1 KE_V (KA_1 KE_V (KA_1 KE_V KA_0)))))))) KS_Cnt KS_Skip) (KS_Seq (KS_PutC rfl KE_V KE_I) (KS_Seq (KS_Set (KE_A (KE_F KE_V) (KE_C kX12_atRow (KA_1 KE_V (KA_1 KE_V (KA_1 KE_V KA_0)))))) (KS_Seq (KS_If (KC_B KE_V KE_I) KS_Cnt KS_Skip) (KS_Seq (KS_If (KC_Or (KC_B (KE_F KE_V) KE_I) (KC_B KE_V (KE_F KE_V))) (KS_Put rfl KE_V KE_V) KS_Skip) (KS_Seq (KS_If (KC_Or (KC_B (KE_F KE_V) KE_I) (KC_B KE_V (KE_F KE_V))) (KS_Put rfl KE_V KE_V) KS_Skip) (KS_Seq (KS_PutC rfl KE_V KE_I) (KS_PutC rfl KE_V KE_V))))))))
theorem k_uX12_laySpan_1 : KS Wm uX12_laySpan_1 := KS_Inc
theorem k_sX12_laySpan : KS Wm sX12_laySpan := (KS_Seq (KS_Put rfl KE_V KE_I) (KS_Seq (KS_Put rfl KE_V KE_I) (KS_Seq (KS_Put rfl KE_V KE_I) (KS_Seq (KS_Put rfl KE_V KE_I) (KS_Seq (KS_Put rfl KE_V KE_I) (KS_Seq (KS_Seq (KS_Set KE_I) (KS_While k_cX12_laySpan_1 k_bX12_laySpan_1 k_uX12_laySpan_1)) KS_RetV))))))
theorem kX12_laySpan : KM Wm mX12_laySpan := KM_q k_sX12_laySpan
theorem k_sX12_over : KS Wm sX12_over := (KS_Seq (KS_If (KC_Not (KC_E (KE_CV kX12_isBoth (KA_1 KE_V (KA_1 KE_V (KA_1 KE_V KA_0)))))) (KS_Ret KE_I) KS_Skip) (KS_Seq (KS_Do (KE_CV kX12_laySpan (KA_1 KE_V (KA_1 KE_V (KA_1 KE_V (KA_1 KE_V (KA_1 KE_V KA_0))))))) (KS_Sw KE_V (KF_1 (KS_Ret (KE_F KE_V)) (KF_1 (KS_Ret (KE_F KE_V)) (KF_1 (KS_Ret (KE_If (KC_B (KE_F KE_V) KE_I) KE_I (KE_1 (KE_D (KE_F KE_V) (KE_F KE_V))))) (KF_1 (KS_Ret (KE_1 (KE_F KE_V))) (KF_1 (KS_Ret (KE_1 (KE_F KE_V))) (KF_1 (KS_Ret (KE_2 (KE_2 (KE_F KE_V) (KE_F KE_V)) (KE_CV kX12_unitsOf (KA_1 KE_V (KA_1 KE_V KA_0))))) (KF_0 (KS_Ret KE_I)))))))))))
theorem kX12_over : KM Wm mX12_over := KM_q k_sX12_over
theorem k_sX12_total : KS Wm sX12_total := (KS_Seq (KS_If (KC_Not (KC_E (KE_CV kX12_isBoth (KA_1 KE_V (KA_1 KE_V (KA_1 KE_V KA_0)))))) (KS_Ret KE_I) KS_Skip) (KS_Seq (KS_Do (KE_CV kX12_laySpan (KA_1 KE_V (KA_1 KE_V (KA_1 KE_V (KA_1 KE_V (KA_1 KE_V KA_0))))))) (KS_Ret (KE_D (KE_2 (KE_F KE_V) (KE_CV kX12_unitsOf (KA_1 KE_V (KA_1 KE_V KA_0)))) KE_I))))
theorem kX12_total : KM Wm mX12_total := KM_q k_sX12_total
theorem k_cX12_knownRows_1 : KC Wm cX12_knownRows_1 := (KC_B KE_V (KE_CV kX12_rowsKept (KA_1 KE_V (KA_1 KE_V KA_0))))
theorem k_bX12_knownRows_1 : KS Wm bX12_knownRows_1 := (KS_Set (KE_2 KE_V (KE_If (KC_B (KE_A (KE_F KE_V) (KE_C kX12_atRow (KA_1 KE_V (KA_1 KE_V (KA_1 KE_V KA_0))))) KE_I) KE_I KE_I)))
theorem k_uX12_knownRows_1 : KS Wm uX12_knownRows_1 := KS_Inc
theorem k_sX12_knownRows : KS Wm sX12_knownRows := (KS_Seq (KS_Set KE_I) (KS_Seq (KS_Seq (KS_Set KE_I) (KS_While k_cX12_knownRows_1 k_bX12_knownRows_1 k_uX12_knownRows_1)) (KS_Ret KE_V)))
theorem kX12_knownRows : KM Wm mX12_knownRows := KM_q k_sX12_knownRows
theorem k_cX12_noGreater_1 : KC Wm cX12_noGreater_1 := (KC_B KE_V (KE_CV kX12_rowsKept (KA_1 KE_V (KA_1 KE_V KA_0))))
theorem k_bX12_noGreater_1 : KS Wm bX12_noGreater_1 := (KS_Set (KE_2 KE_V (KE_If (KC_And (KC_B (KE_A (KE_F KE_V) (KE_C kX12_atRow (KA_1 KE_V (KA_1 KE_V (KA_1 KE_V KA_0))))) KE_I) (KC_B (KE_A (KE_F KE_V) (KE_C kX12_atRow (KA_1 KE_V (KA_1 KE_V (KA_1 KE_V KA_0))))) KE_V)) KE_I KE_I)))
theorem k_uX12_noGreater_1 : KS Wm uX12_noGreater_1 := KS_Inc
theorem k_sX12_noGreater : KS Wm sX12_noGreater := (KS_Seq (KS_Set KE_I) (KS_Seq (KS_Seq (KS_Set KE_I) (KS_While k_cX12_noGreater_1 k_bX12_noGreater_1 k_uX12_noGreater_1)) (KS_Ret KE_V)))
theorem kX12_noGreater : KM Wm mX12_noGreater := KM_q k_sX12_noGreater
theorem k_cX12_share_1 : KC Wm cX12_share_1 := (KC_B KE_V (KE_CV kX12_rowsKept (KA_1 KE_V (KA_1 KE_V KA_0))))
theorem k_bX12_share_1 : KS Wm bX12_share_1 := (KS_Seq (KS_Set (KE_A (KE_F KE_V) (KE_C kX12_atRow (KA_1 KE_V (KA_1 KE_V (KA_1 KE_V KA_0)))))) (KS_Seq (KS_If (KC_Or (KC_B KE_V KE_I) (KC_B (KE_2 KE_I (KE_CV kX12_noGreater (KA_1 KE_V (KA_1 KE_V (KA_1 KE_V (KA_1 KE_V KA_0)))))) (KE_2 KE_V KE_V))) KS_Cnt KS_Skip) (KS_If (KC_Or (KC_B KE_V KE_I) (KC_B KE_V KE_V)) (KS_Set KE_V) KS_Skip)))
theorem k_uX12_share_1 : KS Wm uX12_share_1 := KS_Inc
theorem k_sX12_share : KS Wm sX12_share := (KS_Seq (KS_If (KC_Or (KC_Not (KC_E (KE_CV kX12_isBoth (KA_1 KE_V (KA_1 KE_V (KA_1 KE_V KA_0)))))) (KC_Not (KC_E (KE_C kX12_isIn (KA_1 KE_V (KA_1 KE_I (KA_1 KE_I KA_0))))))) (KS_Ret KE_I) KS_Skip) (KS_Seq (KS_Set (KE_CV kX12_knownRows (KA_1 KE_V (KA_1 KE_V (KA_1 KE_V KA_0))))) (KS_Seq (KS_Set KE_I) (KS_Seq (KS_Seq (KS_Set KE_I) (KS_While k_cX12_share_1 k_bX12_share_1 k_uX12_share_1)) (KS_Ret (KE_1 KE_V))))))
theorem kX12_share : KM Wm mX12_share := KM_q k_sX12_share
theorem k_cX12_smooth_1 : KC Wm cX12_smooth_1 := (KC_And (KC_B KE_V (KE_2 KE_V KE_V)) (KC_B KE_V (KE_CV kX12_rowsKept (KA_1 KE_V (KA_1 KE_V KA_0)))))
theorem k_bX12_smooth_1 : KS Wm bX12_smooth_1 := (KS_Seq (KS_Set (KE_A (KE_F KE_V) (KE_C kX12_atRow (KA_1 KE_V (KA_1 KE_V (KA_1 KE_V KA_0)))))) (KS_Seq (KS_If (KC_B KE_V KE_I) KS_Cnt KS_Skip) (KS_Seq (KS_Set (KE_2 KE_V KE_V)) KS_Inc)))
theorem k_uX12_smooth_1 : KS Wm uX12_smooth_1 := KS_Inc
theorem k_sX12_smooth : KS Wm sX12_smooth := (KS_Seq (KS_If (KC_Or (KC_Not (KC_E (KE_CV kX12_isRow (KA_1 KE_V (KA_1 KE_V (KA_1 KE_V (KA_1 KE_V KA_0))))))) (KC_Not (KC_E (KE_C kX12_isIn (KA_1 KE_V (KA_1 KE_I (KA_1 KE_I KA_0))))))) (KS_Ret KE_I) KS_Skip) (KS_Seq (KS_Set KE_I) (KS_Seq (KS_Set KE_I) (KS_Seq (KS_Seq (KS_Set KE_V) (KS_While k_cX12_smooth_1 k_bX12_smooth_1 k_uX12_smooth_1)) (KS_Ret (KE_If (KC_B KE_V KE_I) KE_I (KE_1 (KE_D KE_V KE_V))))))))
theorem kX12_smooth : KM Wm mX12_smooth := KM_q k_sX12_smooth
theorem k_sX12_wayOf : KS Wm sX12_wayOf := (KS_Seq (KS_Set (KE_A (KE_F KE_V) (KE_C kX12_atRow (KA_1 KE_V (KA_1 KE_V (KA_1 KE_V KA_0)))))) (KS_Seq (KS_Set (KE_A (KE_F KE_V) (KE_C kX12_atRow (KA_1 KE_V (KA_1 KE_V (KA_1 (KE_2 KE_V KE_I) KA_0)))))) (KS_Ret (KE_If (KC_Or (KC_Or (KC_B KE_V KE_I) (KC_B KE_V KE_I)) (KC_B KE_V KE_V)) KE_I (KE_If (KC_B KE_V KE_V) KE_I KE_I)))))
theorem kX12_wayOf : KM Wm mX12_wayOf := KM_q k_sX12_wayOf
theorem k_cX12_alike_1 : KC Wm cX12_alike_1 := (KC_B (KE_2 KE_V KE_I) (KE_CV kX12_rowsKept (KA_1 KE_V (KA_1 KE_V KA_0))))
theorem k_bX12_alike_1 : KS Wm bX12_alike_1 := (KS_Set (KE_2 KE_V (KE_If (KC_B (KE_2 (KE_CV kX12_wayOf (KA_1 KE_V (KA_1 KE_V (KA_1 KE_V (KA_1 KE_V KA_0))))) (KE_CV kX12_wayOf (KA_1 KE_V (KA_1 KE_V (KA_1 KE_V (KA_1 KE_V KA_0)))))) KE_I) KE_I KE_I)))
theorem k_uX12_alike_1 : KS Wm uX12_alike_1 := KS_Inc
theorem k_sX12_alike : KS Wm sX12_alike := (KS_Seq (KS_If (KC_Or (KC_Not (KC_E (KE_CV kX12_isBoth (KA_1 KE_V (KA_1 KE_V (KA_1 KE_V KA_0)))))) (KC_Not (KC_E (KE_CV kX12_isMeasure (KA_1 KE_V (KA_1 KE_V KA_0)))))) (KS_Ret KE_I) KS_Skip) (KS_Seq (KS_Set KE_I) (KS_Seq (KS_Seq (KS_Set KE_I) (KS_While k_cX12_alike_1 k_bX12_alike_1 k_uX12_alike_1)) (KS_Ret KE_V))))
theorem kX12_alike : KM Wm mX12_alike := KM_q k_sX12_alike
theorem k_sX12_left : KS Wm sX12_left := (KS_Seq (KS_If (KC_Not (KC_E (KE_CV kX12_isArchive (KA_1 KE_V (KA_1 KE_V KA_0))))) (KS_Ret KE_I) KS_Skip) (KS_Ret (KE_1 (KE_2 (KE_CV kX12_unitsOf (KA_1 KE_V (KA_1 KE_V KA_0))) (KE_D (KE_A (KE_F KE_V) KE_I) (KE_CV kX12_unitsOf (KA_1 KE_V (KA_1 KE_V KA_0))))))))
theorem kX12_left : KM Wm mX12_left := KM_q k_sX12_left
theorem k_cX12_gap_1 : KC Wm cX12_gap_1 := (KC_B KE_V (KE_CV kX12_rowsKept (KA_1 KE_V (KA_1 KE_V KA_0))))
theorem k_bX12_gap_1 : KS Wm bX12_gap_1 := (KS_Seq (KS_Set (KE_If (KC_B (KE_A (KE_F KE_V) (KE_C kX12_atRow (KA_1 KE_V (KA_1 KE_V (KA_1 KE_V KA_0))))) KE_I) (KE_2 KE_V KE_I) KE_I)) (KS_Seq (KS_If (KC_B KE_V KE_V) KS_Cnt KS_Skip) (KS_Seq (KS_Set KE_V) (KS_Set (KE_2 (KE_2 KE_V KE_V) KE_I)))))
theorem k_uX12_gap_1 : KS Wm uX12_gap_1 := KS_Inc
theorem k_sX12_gap : KS Wm sX12_gap := (KS_Seq (KS_If (KC_Or (KC_Not (KC_E (KE_CV kX12_isBoth (KA_1 KE_V (KA_1 KE_V (KA_1 KE_V KA_0)))))) (KC_Not (KC_E (KE_C kX12_isIn (KA_1 KE_V (KA_1 KE_I (KA_1 KE_I KA_0))))))) (KS_Ret KE_I) KS_Skip) (KS_Seq (KS_Set KE_I) (KS_Seq (KS_Set KE_I) (KS_Seq (KS_Set KE_I) (KS_Seq (KS_Seq (KS_Set KE_I) (KS_While k_cX12_gap_1 k_bX12_gap_1 k_uX12_gap_1)) (KS_Ret (KE_If (KC_B KE_V KE_I) KE_V KE_V)))))))
theorem kX12_gap : KM Wm mX12_gap := KM_q k_sX12_gap
theorem k_cX12_rise_1 : KC Wm cX12_rise_1 := (KC_B KE_V (KE_CV kX12_rowsKept (KA_1 KE_V (KA_1 KE_V KA_0))))
theorem k_bX12_rise_1 : KS Wm bX12_rise_1 := (KS_Seq (KS_Set (KE_A (KE_F KE_V) (KE_C kX12_atRow (KA_1 KE_V (KA_1 KE_V (KA_1 KE_V KA_0)))))) (KS_Seq (KS_Set (KE_2 (KE_2 (KE_CV kX12_rowsKept (KA_1 KE_V (KA_1 KE_V KA_0))) KE_I) KE_V)) (KS_Seq (KS_If (KC_B KE_V KE_I) KS_Cnt KS_Skip) (KS_Seq (KS_Set (KE_2 KE_V KE_I)) (KS_Seq (KS_Set (KE_2 KE_V KE_V)) (KS_Seq (KS_Set (KE_2 KE_V KE_V)) (KS_Seq (KS_Set (KE_2 KE_V (KE_2 KE_V KE_V))) (KS_Set (KE_2 KE_V (KE_2 KE_V KE_V))))))))))
theorem k_uX12_rise_1 : KS Wm uX12_rise_1 := KS_Inc
theorem k_sX12_rise : KS Wm sX12_rise := (KS_Seq (KS_If (KC_Not (KC_E (KE_CV kX12_isBoth (KA_1 KE_V (KA_1 KE_V (KA_1 KE_V KA_0)))))) (KS_Ret KE_I) KS_Skip) (KS_Seq (KS_Set KE_I) (KS_Seq (KS_Set KE_I) (KS_Seq (KS_Set KE_I) (KS_Seq (KS_Set KE_I) (KS_Seq (KS_Set KE_I) (KS_Seq (KS_Seq (KS_Set KE_I) (KS_While k_cX12_rise_1 k_bX12_rise_1 k_uX12_rise_1)) (KS_Ret (KE_If (KC_B KE_V KE_I) KE_I (KE_1 (KE_D (KE_2 (KE_2 KE_V KE_V) (KE_2 KE_V KE_V)) (KE_2 (KE_2 KE_V KE_V) (KE_2 KE_V KE_V)))))))))))))
theorem kX12_rise : KM Wm mX12_rise := KM_q k_sX12_rise
theorem k_sX12_eldestFrom : KS Wm sX12_eldestFrom := (KS_Ret (KE_CV kX12_beginOf (KA_1 KE_V (KA_1 KE_V (KA_1 (KE_2 (KE_CV kX12_rowsKept (KA_1 KE_V (KA_1 KE_V KA_0))) KE_I) KA_0)))))
theorem kX12_eldestFrom : KM Wm mX12_eldestFrom := KM_q k_sX12_eldestFrom
theorem k_sX12_isBetter : KS Wm sX12_isBetter := (KS_Seq (KS_Set (KE_B (KC_B (KE_CV kX12_eldestFrom (KA_1 KE_V (KA_1 KE_V KA_0))) KE_V))) (KS_Seq (KS_Set (KE_B (KC_B (KE_CV kX12_eldestFrom (KA_1 KE_V (KA_1 KE_V KA_0))) KE_V))) (KS_Seq (KS_If (KC_B KE_V KE_V) (KS_Ret KE_V) KS_Skip) (KS_Seq (KS_If (KC_And (KC_Not (KC_E KE_V)) (KC_B (KE_CV kX12_eldestFrom (KA_1 KE_V (KA_1 KE_V KA_0))) (KE_CV kX12_eldestFrom (KA_1 KE_V (KA_1 KE_V KA_0))))) (KS_Ret (KE_B (KC_B (KE_CV kX12_eldestFrom (KA_1 KE_V (KA_1 KE_V KA_0))) (KE_CV kX12_eldestFrom (KA_1 KE_V (KA_1 KE_V KA_0)))))) KS_Skip) (KS_Ret (KE_B (KC_B (KE_A (KE_F KE_V) (KE_C kX12_own (KA_1 (KE_F KE_V) (KA_1 KE_V KA_0)))) (KE_A (KE_F KE_V) (KE_C kX12_own (KA_1 (KE_F KE_V) (KA_1 KE_V KA_0)))))))))))
theorem kX12_isBetter : KM Wm mX12_isBetter := KM_q k_sX12_isBetter
theorem k_cX12_best_1 : KC Wm cX12_best_1 := (KC_B KE_V (KE_CV kX12_archivesNow (KA_1 KE_V KA_0)))
theorem k_bX12_best_1 : KS Wm bX12_best_1 := (KS_Seq (KS_If (KC_Or (KC_B (KE_A (KE_F KE_V) (KE_C kX12_own (KA_1 (KE_F KE_V) (KA_1 KE_V KA_0)))) KE_V) (KC_B (KE_CV kX12_rowsKept (KA_1 KE_V (KA_1 KE_V KA_0))) KE_I)) KS_Cnt KS_Skip) (KS_If (KC_Or (KC_B KE_V KE_I) (KC_E (KE_CV kX12_isBetter (KA_1 KE_V (KA_1 KE_V (KA_1 KE_V (KA_1 KE_V KA_0))))))) (KS_Set KE_V) KS_Skip))
theorem k_uX12_best_1 : KS Wm uX12_best_1 := KS_Inc
theorem k_sX12_best : KS Wm sX12_best := (KS_Seq (KS_Set KE_I) (KS_Seq (KS_If (KC_B KE_V KE_I) (KS_Ret KE_V) KS_Skip) (KS_Seq (KS_Seq (KS_Set KE_I) (KS_While k_cX12_best_1 k_bX12_best_1 k_uX12_best_1)) (KS_Ret KE_V))))
theorem kX12_best : KM Wm mX12_best := KM_q k_sX12_best
theorem k_sX12_forecast : KS Wm sX12_forecast := (KS_Seq (KS_If (KC_Not (KC_E (KE_CV kX12_isFollowed (KA_1 KE_V (KA_1 KE_V KA_0))))) (KS_Ret KE_I) KS_Skip) (KS_Sw KE_V (KF_1 (KS_Ret (KE_1 (KE_A (KE_F KE_V) (KE_C kX12_atForecast (KA_1 KE_V (KA_1 KE_I KA_0)))))) (KF_1 (KS_Ret (KE_1 (KE_A (KE_F KE_V) (KE_C kX12_atForecast (KA_1 KE_V (KA_1 KE_I KA_0)))))) (KF_1 (KS_Ret (KE_1 (KE_A (KE_F KE_V) (KE_C kX12_atForecast (KA_1 KE_V (KA_1 KE_I KA_0)))))) (KF_1 (KS_Ret (KE_A (KE_F KE_V) (KE_C kX12_own (KA_1 (KE_F KE_V) (KA_1 KE_V KA_0))))) (KF_1 (KS_Ret (KE_A (KE_F KE_V) (KE_C kX12_own (KA_1 (KE_F KE_V) (KA_1 KE_V KA_0))))) (KF_1 (KS_Ret (KE_1 (KE_A (KE_F KE_V) (KE_C kX12_atForecast (KA_1 KE_V (KA_1 KE_I KA_0)))))) (KF_0 (KS_Ret KE_I))))))))))
theorem kX12_forecast : KM Wm mX12_forecast := KM_q k_sX12_forecast
theorem k_sX12_place : KS Wm sX12_place := (KS_Seq (KS_If (KC_Or (KC_Or (KC_Not (KC_E (KE_CV kX12_isFollowed (KA_1 KE_V (KA_1 KE_V KA_0))))) (KC_Not (KC_E (KE_C kX12_isIn (KA_1 KE_V (KA_1 KE_I (KA_1 (KE_2 (KE_A (KE_F KE_V) (KE_C kX12_own (KA_1 (KE_F KE_V) (KA_1 KE_V KA_0)))) KE_I) KA_0))))))) (KC_Not (KC_E (KE_C kX12_isIn (KA_1 KE_V (KA_1 KE_I (KA_1 KE_I KA_0))))))) (KS_Ret KE_I) KS_Skip) (KS_Ret (KE_1 (KE_A (KE_F KE_V) (KE_C kX12_atForecast (KA_1 KE_V (KA_1 (KE_2 (KE_If (KC_B KE_V KE_I) KE_I KE_I) KE_V) KA_0)))))))
theorem kX12_place : KM Wm mX12_place := KM_q k_sX12_place
theorem k_sX12_told : KS Wm sX12_told := (KS_Seq (KS_If (KC_Or (KC_Or (KC_Not (KC_E (KE_CV kX12_isFollowed (KA_1 KE_V (KA_1 KE_V KA_0))))) (KC_Not (KC_E (KE_C kX12_isIn (KA_1 KE_V (KA_1 KE_I (KA_1 (KE_2 (KE_A (KE_F KE_V) (KE_C kX12_atForecast (KA_1 KE_V (KA_1 KE_I KA_0)))) KE_I) KA_0))))))) (KC_Not (KC_E (KE_C kX12_isIn (KA_1 KE_V (KA_1 KE_I (KA_1 KE_I KA_0))))))) (KS_Ret KE_I) KS_Skip) (KS_Ret (KE_1 (KE_A (KE_F KE_V) (KE_C kX12_atForecast (KA_1 KE_V (KA_1 (KE_2 (KE_If (KC_B KE_V KE_I) KE_I KE_I) KE_V) KA_0)))))))
theorem kX12_told : KM Wm mX12_told := KM_q k_sX12_told
theorem k_cX12_odd_1 : KC Wm cX12_odd_1 := (KC_And (KC_B KE_V KE_V) (KC_B KE_V (KE_A (KE_F KE_V) (KE_C kX12_atForecast (KA_1 KE_V (KA_1 KE_I KA_0))))))
theorem k_bX12_odd_1 : KS Wm bX12_odd_1 := (KS_Set (KE_2 KE_V (KE_1 (KE_A (KE_F KE_V) (KE_C kX12_atForecast (KA_1 KE_V (KA_1 (KE_2 KE_I KE_V) KA_0)))))))
theorem k_uX12_odd_1 : KS Wm uX12_odd_1 := KS_Inc
theorem k_sX12_odd : KS Wm sX12_odd := (KS_Seq (KS_If (KC_Or (KC_Not (KC_E (KE_CV kX12_isFollowed (KA_1 KE_V (KA_1 KE_V KA_0))))) (KC_Not (KC_E (KE_C kX12_isIn (KA_1 KE_V (KA_1 KE_I (KA_1 KE_I KA_0))))))) (KS_Ret KE_I) KS_Skip) (KS_Seq (KS_Set KE_I) (KS_Seq (KS_Seq (KS_Set KE_I) (KS_While k_cX12_odd_1 k_bX12_odd_1 k_uX12_odd_1)) (KS_Ret KE_V))))
theorem kX12_odd : KM Wm mX12_odd := KM_q k_sX12_odd
theorem k_cX12_oddFrom_1 : KC Wm cX12_oddFrom_1 := (KC_B KE_V (KE_2 KE_V KE_V))
theorem k_bX12_oddFrom_1 : KS Wm bX12_oddFrom_1 := (KS_Set (KE_2 KE_V (KE_1 (KE_A (KE_F KE_V) (KE_C kX12_atForecast (KA_1 KE_V (KA_1 (KE_2 KE_I KE_V) KA_0)))))))
theorem k_uX12_oddFrom_1 : KS Wm uX12_oddFrom_1 := KS_Inc
theorem k_sX12_oddFrom : KS Wm sX12_oddFrom := (KS_Seq (KS_Set KE_I) (KS_Seq (KS_Seq (KS_Set KE_V) (KS_While k_cX12_oddFrom_1 k_bX12_oddFrom_1 k_uX12_oddFrom_1)) (KS_Ret KE_V)))
theorem kX12_oddFrom : KM Wm mX12_oddFrom := KM_q k_sX12_oddFrom
theorem k_cX12_alarms_1 : KC Wm cX12_alarms_1 := (KC_B (KE_2 KE_V KE_V) (KE_A (KE_F KE_V) (KE_C kX12_atForecast (KA_1 KE_V (KA_1 KE_I KA_0)))))
theorem k_bX12_alarms_1 : KS Wm bX12_alarms_1 := (KS_Set (KE_2 KE_V (KE_If (KC_B (KE_CV kX12_oddFrom (KA_1 KE_V (KA_1 KE_V (KA_1 KE_V (KA_1 KE_V KA_0))))) KE_V) KE_I KE_I)))
theorem k_uX12_alarms_1 : KS Wm uX12_alarms_1 := KS_Inc
theorem k_sX12_alarms : KS Wm sX12_alarms := (KS_Seq (KS_If (KC_Or (KC_Or (KC_Not (KC_E (KE_CV kX12_isFollowed (KA_1 KE_V (KA_1 KE_V KA_0))))) (KC_Not (KC_E (KE_C kX12_isIn (KA_1 KE_V (KA_1 KE_I (KA_1 KE_I KA_0))))))) (KC_Not (KC_E (KE_C kX12_isIn (KA_1 KE_V (KA_1 KE_I (KA_1 KE_I KA_0))))))) (KS_Ret KE_I) KS_Skip) (KS_Seq (KS_Set KE_I) (KS_Seq (KS_Seq (KS_Set KE_I) (KS_While k_cX12_alarms_1 k_bX12_alarms_1 k_uX12_alarms_1)) (KS_Ret KE_V))))
theorem kX12_alarms : KM Wm mX12_alarms := KM_q k_sX12_alarms
theorem k_cX12_ahead_1 : KC Wm cX12_ahead_1 := (KC_B KE_V KE_V)
theorem k_bX12_ahead_1 : KS Wm bX12_ahead_1 := (KS_Set (KE_C kX12_held (KA_1 (KE_2 KE_V KE_V) KA_0)))
theorem k_uX12_ahead_1 : KS Wm uX12_ahead_1 := KS_Inc
theorem k_sX12_ahead : KS Wm sX12_ahead := (KS_Seq (KS_If (KC_Or (KC_Or (KC_Not (KC_E (KE_CV kX12_isFollowed (KA_1 KE_V (KA_1 KE_V KA_0))))) (KC_B (KE_A (KE_F KE_V) (KE_C kX12_atForecast (KA_1 KE_V (KA_1 KE_I KA_0)))) KE_I)) (KC_Not (KC_E (KE_C kX12_isIn (KA_1 KE_V (KA_1 KE_I (KA_1 KE_I KA_0))))))) (KS_Ret KE_I) KS_Skip) (KS_Seq (KS_Set (KE_A (KE_F KE_V) (KE_C kX12_atForecast (KA_1 KE_V (KA_1 KE_I KA_0))))) (KS_Seq (KS_Set (KE_A (KE_F KE_V) (KE_C kX12_atForecast (KA_1 KE_V (KA_1 KE_I KA_0))))) (KS_Seq (KS_Seq (KS_Set KE_I) (KS_While k_cX12_ahead_1 k_bX12_ahead_1 k_uX12_ahead_1)) (KS_Ret (KE_1 (KE_C kX12_held (KA_1 (KE_2 (KE_2 KE_V KE_V) (KE_A (KE_F KE_V) (KE_C kX12_atForecast (KA_1 KE_V (KA_1 (KE_2 KE_I (KE_CV kX12_placeNow (KA_1 KE_V (KA_1 KE_V (KA_1 (KE_2 KE_V KE_I) KA_0))))) KA_0))))) KA_0))))))))
theorem kX12_ahead : KM Wm mX12_ahead := KM_q k_sX12_ahead
theorem k_sX12_madeOf : KS Wm sX12_madeOf := (KS_Seq (KS_If (KC_B KE_V KE_I) (KS_Ret (KE_If (KC_B KE_V KE_I) KE_V KE_V)) KS_Skip) (KS_Seq (KS_If (KC_Or (KC_Or (KC_B KE_V KE_I) (KC_B KE_V KE_I)) (KC_And (KC_B KE_V KE_I) (KC_B KE_V KE_I))) (KS_Ret KE_I) KS_Skip) (KS_Sw KE_V (KF_1 (KS_Ret (KE_C kX12_held (KA_1 (KE_2 KE_V KE_V) KA_0))) (KF_1 (KS_Ret (KE_C kX12_held (KA_1 (KE_2 KE_V KE_V) KA_0))) (KF_1 (KS_Ret (KE_C kX12_held (KA_1 (KE_D (KE_2 KE_V KE_V) KE_I) KA_0))) (KF_0 (KS_Ret (KE_C kX12_held (KA_1 (KE_D (KE_2 KE_I KE_V) KE_V) KA_0))))))))))
theorem kX12_madeOf : KM Wm mX12_madeOf := KM_q k_sX12_madeOf
theorem k_sX12_unitAt : KS Wm sX12_unitAt := (KS_Seq (KS_If (KC_B KE_V KE_I) (KS_Ret (KE_A (KE_F KE_V) (KE_2 KE_V KE_I))) KS_Skip) (KS_Ret (KE_If (KC_B KE_V KE_I) (KE_A (KE_F KE_V) (KE_C kX12_atRow (KA_1 KE_V (KA_1 (KE_2 KE_V KE_I) (KA_1 KE_V KA_0))))) (KE_2 KE_I KE_V))))
theorem kX12_unitAt : KM Wm mX12_unitAt := KM_q k_sX12_unitAt
theorem k_cX12_showOf_2 : KC Wm cX12_showOf_2 := (KC_B KE_V (KE_A (KE_F KE_V) (KE_C kX12_own (KA_1 (KE_F KE_V) (KA_1 KE_V KA_0)))))
theorem k_bX12_showOf_2 : KS Wm bX12_showOf_2 := (KS_Seq (KS_Set (KE_A (KE_F KE_V) (KE_2 (KE_2 KE_I (KE_F KE_V)) KE_V))) (KS_If (KC_B KE_V KE_I) (KS_Seq KS_Inc (KS_Arr (fun _ => rfl) (KE_F KE_V) (KE_2 KE_V KE_I) (KE_C kX12_madeOf (KA_1 KE_V (KA_1 (KE_A (KE_F KE_V) (KE_2 KE_V KE_I)) (KA_1 (KE_A (KE_F KE_V) KE_V) KA_0)))))) (KS_Seq (KS_Arr (fun _ => rfl) (KE_F KE_V) KE_V (KE_CV kX12_unitAt (KA_1 KE_V (KA_1 KE_V (KA_1 KE_V (KA_1 KE_V KA_0)))))) KS_Inc)))
theorem k_uX12_showOf_2 : KS Wm uX12_showOf_2 := KS_Inc
theorem k_cX12_showOf_1 : KC Wm cX12_showOf_1 := (KC_B KE_V KE_V)
theorem k_bX12_showOf_1 : KS Wm bX12_showOf_1 := (KS_Seq (KS_Set KE_I) (KS_Seq (KS_While k_cX12_showOf_2 k_bX12_showOf_2 k_uX12_showOf_2) (KS_Arr (fun _ => rfl) (KE_F KE_V) KE_V (KE_A (KE_F KE_V) KE_I))))
theorem k_uX12_showOf_1 : KS Wm uX12_showOf_1 := KS_Inc
theorem k_sX12_showOf : KS Wm sX12_showOf := (KS_Seq (KS_Set KE_I) (KS_Seq (KS_Seq (KS_Set KE_I) (KS_While k_cX12_showOf_1 k_bX12_showOf_1 k_uX12_showOf_1)) (KS_Ret (KE_A (KE_F KE_V) KE_V))))
theorem kX12_showOf : KM Wm mX12_showOf := KM_q k_sX12_showOf
theorem k_sX12_isShow : KS Wm sX12_isShow := (KS_Ret (KE_C kX12_isIn (KA_1 KE_V (KA_1 KE_I (KA_1 (KE_2 (KE_A (KE_F KE_V) (KE_F KE_V)) KE_I) KA_0)))))
theorem kX12_isShow : KM Wm mX12_isShow := KM_q k_sX12_isShow
theorem k_sX12_show : KS Wm sX12_show := (KS_Ret (KE_If (KC_And (KC_And (KC_E (KE_CV kX12_isShow (KA_1 KE_V (KA_1 KE_V KA_0)))) (KC_E (KE_CV kX12_isArchive (KA_1 KE_V (KA_1 KE_V KA_0))))) (KC_E (KE_C kX12_isIn (KA_1 KE_V (KA_1 KE_I (KA_1 (KE_2 (KE_CV kX12_rowsKept (KA_1 KE_V (KA_1 KE_V KA_0))) KE_I) KA_0)))))) (KE_1 (KE_CV kX12_showOf (KA_1 KE_V (KA_1 KE_V (KA_1 KE_V (KA_1 KE_V KA_0)))))) KE_I))
theorem kX12_show : KM Wm mX12_show := KM_q k_sX12_show
theorem k_cX12_shows_1 : KC Wm cX12_shows_1 := (KC_B KE_V (KE_CV kX12_rowsKept (KA_1 KE_V (KA_1 KE_V KA_0))))
theorem k_bX12_shows_1 : KS Wm bX12_shows_1 := (KS_Seq (KS_Set (KE_CV kX12_showOf (KA_1 KE_V (KA_1 KE_V (KA_1 KE_V (KA_1 KE_V KA_0)))))) (KS_Seq (KS_If (KC_B KE_V KE_I) KS_Cnt KS_Skip) (KS_Seq (KS_If (KC_Or (KC_B KE_V KE_I) (KC_B KE_V KE_V)) (KS_Seq (KS_Set KE_V) (KS_Set KE_V)) KS_Skip) (KS_Seq (KS_If (KC_Or (KC_B KE_V KE_I) (KC_B KE_V KE_V)) (KS_Set KE_V) KS_Skip) KS_Inc))))
theorem k_uX12_shows_1 : KS Wm uX12_shows_1 := KS_Inc
theorem k_sX12_shows : KS Wm sX12_shows := (KS_Seq (KS_If (KC_Or (KC_Or (KC_Not (KC_E (KE_CV kX12_isShow (KA_1 KE_V (KA_1 KE_V KA_0))))) (KC_Not (KC_E (KE_CV kX12_isArchive (KA_1 KE_V (KA_1 KE_V KA_0)))))) (KC_Not (KC_E (KE_C kX12_isIn (KA_1 KE_V (KA_1 KE_I (KA_1 KE_I KA_0))))))) (KS_Ret KE_I) KS_Skip) (KS_Seq (KS_Set KE_I) (KS_Seq (KS_Set KE_I) (KS_Seq (KS_Set KE_I) (KS_Seq (KS_Set KE_I) (KS_Seq (KS_Seq (KS_Set KE_I) (KS_While k_cX12_shows_1 k_bX12_shows_1 k_uX12_shows_1)) (KS_Ret (KE_If (KC_B KE_V KE_I) KE_V (KE_If (KC_B KE_V KE_I) (KE_1 KE_V) (KE_If (KC_B KE_V KE_I) (KE_1 KE_V) KE_V))))))))))
theorem kX12_shows : KM Wm mX12_shows := KM_q k_sX12_shows
theorem k_cX12_would_1 : KC Wm cX12_would_1 := (KC_B KE_V KE_I)
theorem k_bX12_would_1 : KS Wm bX12_would_1 := (KS_Arr (fun _ => rfl) (KE_F KE_V) KE_V (KE_A (KE_F KE_V) KE_V))
theorem k_uX12_would_1 : KS Wm uX12_would_1 := KS_Inc
theorem k_cX12_would_2 : KC Wm cX12_would_2 := (KC_B KE_V KE_I)
theorem k_bX12_would_2 : KS Wm bX12_would_2 := (KS_Arr (fun _ => rfl) (KE_F KE_V) KE_V (KE_A (KE_F KE_V) KE_V))
theorem k_uX12_would_2 : KS Wm uX12_would_2 := KS_Inc
theorem k_sX12_would : KS Wm sX12_would := (KS_Seq (KS_If (KC_Or (KC_Or (KC_Not (KC_E (KE_CV kX12_canRead (KA_1 KE_V (KA_1 KE_V KA_0))))) (KC_Not (KC_E (KE_CV kX12_isMeasure (KA_1 KE_V (KA_1 KE_V KA_0)))))) (KC_Not (KC_E (KE_C kX12_isIn (KA_1 KE_V (KA_1 KE_I (KA_1 KE_I KA_0))))))) (KS_Ret KE_I) KS_Skip) (KS_Seq (KS_Seq (KS_Set KE_I) (KS_While k_cX12_would_1 k_bX12_would_1 k_uX12_would_1)) (KS_Seq (KS_Do (KE_CV kX12_give (KA_1 KE_V (KA_1 KE_I (KA_1 KE_I (KA_1 KE_I (KA_1 KE_I KA_0))))))) (KS_Seq (KS_Arr (fun _ => rfl) (KE_F KE_V) KE_V KE_V) (KS_Seq (KS_Set (KE_CV kX12_goRead (KA_1 KE_V (KA_1 KE_V KA_0)))) (KS_Seq (KS_Set (KE_If (KC_B KE_V KE_I) (KE_A (KE_F KE_V) (KE_C kX12_atMeasure (KA_1 KE_V (KA_1 KE_I KA_0)))) (KE_If (KC_B KE_V KE_I) (KE_A (KE_F KE_V) (KE_C kX12_atMeasure (KA_1 KE_V (KA_1 KE_I KA_0)))) KE_V))) (KS_Seq (KS_Seq (KS_Set KE_I) (KS_While k_cX12_would_2 k_bX12_would_2 k_uX12_would_2)) (KS_Ret (KE_1 KE_V)))))))))
theorem kX12_would : KM Wm mX12_would := KM_q k_sX12_would
theorem k_sX12_isEnough : KS Wm sX12_isEnough := (KS_Seq (KS_Set (KE_C kX12_own (KA_1 (KE_F KE_V) (KA_1 KE_V KA_0)))) (KS_Seq (KS_Set (KE_If (KC_B (KE_A (KE_F KE_V) KE_V) KE_I) (KE_2 KE_I KE_V) (KE_If (KC_B (KE_A (KE_F KE_V) KE_V) KE_I) (KE_D (KE_2 KE_I KE_V) KE_V) (KE_D (KE_2 KE_I (KE_C kX12_wentOn (KA_1 KE_V (KA_1 (KE_A (KE_F KE_V) (KE_C kX12_atMeasure (KA_1 KE_V (KA_1 KE_I KA_0)))) (KA_1 (KE_A (KE_F KE_V) KE_V) (KA_1 (KE_A (KE_F KE_V) KE_V) KA_0)))))) KE_V)))) (KS_Ret (KE_B (KC_B KE_V (KE_2 KE_I (KE_A (KE_F KE_V) (KE_C kX12_atMeasure (KA_1 KE_V (KA_1 KE_I KA_0))))))))))
theorem kX12_isEnough : KM Wm mX12_isEnough := KM_q k_sX12_isEnough
theorem k_cX12_leastIn_1 : KC Wm cX12_leastIn_1 := (KC_B KE_V KE_V)
theorem k_bX12_leastIn_1 : KS Wm bX12_leastIn_1 := (KS_Seq (KS_Set (KE_D (KE_2 KE_V KE_V) KE_I)) (KS_If (KC_E (KE_CV kX12_isEnough (KA_1 KE_V (KA_1 KE_V (KA_1 KE_V (KA_1 KE_V KA_0)))))) (KS_Set KE_V) (KS_Set (KE_2 KE_V KE_I))))
theorem k_uX12_leastIn_1 : KS Wm uX12_leastIn_1 := KS_Skip
theorem k_sX12_leastIn : KS Wm sX12_leastIn := (KS_Seq (KS_Set KE_V) (KS_Seq (KS_Set KE_V) (KS_Seq (KS_While k_cX12_leastIn_1 k_bX12_leastIn_1 k_uX12_leastIn_1) (KS_Ret (KE_If (KC_And (KC_B KE_V KE_V) (KC_B (KE_CV kX12_rateOf (KA_1 KE_V (KA_1 KE_V (KA_1 KE_V (KA_1 KE_V KA_0))))) KE_I)) (KE_1 KE_V) KE_I)))))
theorem kX12_leastIn : KM Wm mX12_leastIn := KM_q k_sX12_leastIn
theorem k_sX12_fits : KS Wm sX12_fits := (KS_Seq (KS_If (KC_Or (KC_Not (KC_E (KE_CV kX12_canRead (KA_1 KE_V (KA_1 KE_V KA_0))))) (KC_Not (KC_E (KE_CV kX12_isMeasure (KA_1 KE_V (KA_1 KE_V KA_0)))))) (KS_Ret KE_I) KS_Skip) (KS_Seq (KS_Set (KE_C kX12_own (KA_1 (KE_F KE_V) (KA_1 KE_V KA_0)))) (KS_Seq (KS_Set (KE_A (KE_F KE_V) (KE_C kX12_atMeasure (KA_1 KE_V (KA_1 KE_I KA_0))))) (KS_Seq (KS_If (KC_B (KE_A (KE_F KE_V) KE_V) KE_I) (KS_Ret (KE_CV kX12_leastIn (KA_1 KE_V (KA_1 KE_V (KA_1 KE_V (KA_1 KE_I (KA_1 KE_I KA_0))))))) KS_Skip) (KS_Seq (KS_If (KC_B KE_V KE_I) (KS_Ret KE_I) KS_Skip) (KS_Seq (KS_Set (KE_2 KE_V (KE_C kX12_width (KA_1 (KE_A (KE_F KE_V) KE_V) KA_0)))) (KS_Seq (KS_Set (KE_If (KC_B KE_V KE_I) (KE_CV kX12_leastIn (KA_1 KE_V (KA_1 KE_V (KA_1 KE_V (KA_1 KE_I (KA_1 (KE_2 KE_V KE_I) KA_0)))))) KE_I)) (KS_Seq (KS_If (KC_And (KC_B KE_V KE_I) (KC_B KE_V KE_I)) (KS_Set (KE_CV kX12_leastIn (KA_1 KE_V (KA_1 KE_V (KA_1 KE_V (KA_1 (KE_If (KC_B KE_V KE_I) KE_V KE_I) (KA_1 (KE_2 KE_V KE_I) KA_0))))))) KS_Skip) (KS_Ret (KE_If (KC_B KE_V KE_I) KE_V (KE_CV kX12_leastIn (KA_1 KE_V (KA_1 KE_V (KA_1 KE_V (KA_1 KE_V (KA_1 (KE_If (KC_B KE_I (KE_2 (KE_C kX12_width (KA_1 (KE_A (KE_F KE_V) KE_V) KA_0)) KE_I)) KE_I (KE_2 (KE_C kX12_width (KA_1 (KE_A (KE_F KE_V) KE_V) KA_0)) KE_I)) KA_0))))))))))))))))
theorem kX12_fits : KM Wm mX12_fits := KM_q k_sX12_fits
theorem k_sX12_isBeyond : KS Wm sX12_isBeyond := (KS_Ret (KE_B (KC_And (KC_B KE_V KE_I) (KC_Or (KC_B KE_V (KE_A (KE_F KE_V) (KE_C kX12_atMeasure (KA_1 KE_V (KA_1 KE_I KA_0))))) (KC_B KE_V (KE_A (KE_F KE_V) (KE_C kX12_atMeasure (KA_1 KE_V (KA_1 KE_I KA_0)))))))))
theorem kX12_isBeyond : KM Wm mX12_isBeyond := KM_q k_sX12_isBeyond
theorem k_cX12_law_3 : KC Wm cX12_law_3 := (KC_B KE_V (KE_CV kX12_many (KA_1 KE_V KA_0)))
theorem k_bX12_law_3 : KS Wm bX12_law_3 := (KS_Set (KE_2 KE_V (KE_If (KC_E (KE_CV kX12_isBeyond (KA_1 KE_V (KA_1 KE_V (KA_1 (KE_A (KE_F KE_V) (KE_C kX12_atRow (KA_1 KE_V (KA_1 KE_V (KA_1 KE_V KA_0))))) KA_0))))) KE_I KE_I)))
theorem k_uX12_law_3 : KS Wm uX12_law_3 := KS_Inc
theorem k_cX12_law_2 : KC Wm cX12_law_2 := (KC_B KE_V (KE_CV kX12_rowsKept (KA_1 KE_V (KA_1 KE_V KA_0))))
theorem k_bX12_law_2 : KS Wm bX12_law_2 := (KS_Seq (KS_Set KE_I) (KS_While k_cX12_law_3 k_bX12_law_3 k_uX12_law_3))
theorem k_uX12_law_2 : KS Wm uX12_law_2 := KS_Inc
theorem k_cX12_law_1 : KC Wm cX12_law_1 := (KC_B KE_V (KE_CV kX12_archivesNow (KA_1 KE_V KA_0)))
theorem k_bX12_law_1 : KS Wm bX12_law_1 := (KS_Seq (KS_If (KC_B (KE_A (KE_F KE_V) (KE_C kX12_own (KA_1 (KE_F KE_V) (KA_1 KE_V KA_0)))) KE_I) KS_Cnt KS_Skip) (KS_Seq (KS_Set KE_I) (KS_While k_cX12_law_2 k_bX12_law_2 k_uX12_law_2)))
theorem k_uX12_law_1 : KS Wm uX12_law_1 := KS_Inc
theorem k_sX12_law : KS Wm sX12_law := (KS_Seq (KS_Set KE_I) (KS_Seq (KS_Seq (KS_Set KE_I) (KS_While k_cX12_law_1 k_bX12_law_1 k_uX12_law_1)) (KS_Ret KE_V)))
theorem kX12_law : KM Wm mX12_law := KM_q k_sX12_law
theorem k_cX12_swapAll_1 : KC Wm cX12_swapAll_1 := (KC_B KE_V KE_I)
theorem k_bX12_swapAll_1 : KS Wm bX12_swapAll_1 := (KS_Seq (KS_Set (KE_A (KE_F KE_V) (KE_2 (KE_2 KE_I (KE_F KE_V)) KE_V))) (KS_Seq (KS_Arr (fun _ => rfl) (KE_F KE_V) (KE_2 (KE_2 KE_I (KE_F KE_V)) KE_V) (KE_A (KE_F KE_V) KE_V)) (KS_Arr (fun _ => rfl) (KE_F KE_V) KE_V KE_V)))
theorem k_uX12_swapAll_1 : KS Wm uX12_swapAll_1 := KS_Inc
theorem k_sX12_swapAll : KS Wm sX12_swapAll := (KS_Seq (KS_Seq (KS_Set KE_I) (KS_While k_cX12_swapAll_1 k_bX12_swapAll_1 k_uX12_swapAll_1)) KS_RetV)
theorem kX12_swapAll : KM Wm mX12_swapAll := KM_q k_sX12_swapAll
theorem k_sX12_undo : KS Wm sX12_undo := (KS_Seq (KS_If (KC_B (KE_F KE_V) KE_I) (KS_Ret KE_I) KS_Skip) (KS_Seq (KS_PutC rfl KE_V KE_I) (KS_Seq (KS_PutC rfl KE_V KE_I) (KS_Seq (KS_Do (KE_CV kX12_swapAll (KA_1 KE_V KA_0))) (KS_Ret KE_I)))))
theorem kX12_undo : KM Wm mX12_undo := KM_q k_sX12_undo
theorem k_sX12_redo : KS Wm sX12_redo := (KS_Seq (KS_If (KC_B (KE_F KE_V) KE_I) (KS_Ret KE_I) KS_Skip) (KS_Seq (KS_Do (KE_CV kX12_swapAll (KA_1 KE_V KA_0))) (KS_Seq (KS_PutC rfl KE_V KE_I) (KS_Seq (KS_PutC rfl KE_V KE_I) (KS_Ret KE_I)))))
theorem kX12_redo : KM Wm mX12_redo := KM_q k_sX12_redo
theorem k_cX12_image_1 : KC Wm cX12_image_1 := (KC_B KE_V KE_I)
theorem k_bX12_image_1 : KS Wm bX12_image_1 := (KS_Arr (fun _ => rfl) (KE_F KE_V) (KE_2 (KE_2 KE_I KE_V) KE_V) (KE_A (KE_F KE_V) KE_V))
theorem k_uX12_image_1 : KS Wm uX12_image_1 := KS_Inc
theorem k_sX12_image : KS Wm sX12_image := (KS_Seq (KS_If (KC_Not (KC_E (KE_C kX12_isIn (KA_1 KE_V (KA_1 KE_I (KA_1 KE_I KA_0)))))) (KS_Ret KE_I) KS_Skip) (KS_Seq (KS_Seq (KS_Set KE_I) (KS_While k_cX12_image_1 k_bX12_image_1 k_uX12_image_1)) (KS_Seq (KS_Arr (fun _ => rfl) (KE_F KE_V) KE_V KE_I) (KS_Ret (KE_1 (KE_A (KE_F KE_V) KE_I))))))
theorem kX12_image : KM Wm mX12_image := KM_q k_sX12_image
theorem k_cX12_back_1 : KC Wm cX12_back_1 := (KC_B KE_V KE_I)
theorem k_bX12_back_1 : KS Wm bX12_back_1 := (KS_Arr (fun _ => rfl) (KE_F KE_V) KE_V (KE_A (KE_F KE_V) (KE_2 (KE_2 KE_I KE_V) KE_V)))
theorem k_uX12_back_1 : KS Wm uX12_back_1 := KS_Inc
theorem k_sX12_back : KS Wm sX12_back := (KS_Seq (KS_If (KC_Or (KC_Not (KC_E (KE_C kX12_isIn (KA_1 KE_V (KA_1 KE_I (KA_1 KE_I KA_0)))))) (KC_Not (KC_E (KE_A (KE_F KE_V) KE_V)))) (KS_Ret KE_I) KS_Skip) (KS_Seq (KS_Seq (KS_Set KE_I) (KS_While k_cX12_back_1 k_bX12_back_1 k_uX12_back_1)) (KS_Seq (KS_Put rfl KE_V KE_I) (KS_Seq (KS_Put rfl KE_V KE_I) (KS_Ret (KE_1 (KE_A (KE_F KE_V) KE_I)))))))
theorem kX12_back : KM Wm mX12_back := KM_q k_sX12_back
theorem k_cX12_followed_1 : KC Wm cX12_followed_1 := (KC_B KE_V (KE_CV kX12_many (KA_1 KE_V KA_0)))
theorem k_bX12_followed_1 : KS Wm bX12_followed_1 := (KS_If (KC_E (KE_CV kX12_isFollowed (KA_1 KE_V (KA_1 KE_V KA_0)))) (KS_Set (KE_2 KE_V (KE_2 KE_I KE_V))) KS_Skip)
theorem k_uX12_followed_1 : KS Wm uX12_followed_1 := KS_Inc
theorem k_sX12_followed : KS Wm sX12_followed := (KS_Seq (KS_Set KE_I) (KS_Seq (KS_Seq (KS_Set KE_I) (KS_While k_cX12_followed_1 k_bX12_followed_1 k_uX12_followed_1)) (KS_Ret KE_V)))
theorem kX12_followed : KM Wm mX12_followed := KM_q k_sX12_followed
theorem k_sX12_about : KS Wm sX12_about := (KS_Sw KE_V (KF_1 (KS_Ret (KE_A (KE_F KE_V) (KE_F KE_V))) (KF_1 (KS_Ret (KE_CV kX12_many (KA_1 KE_V KA_0))) (KF_1 (KS_Ret (KE_CV kX12_archivesNow (KA_1 KE_V KA_0))) (KF_1 (KS_Ret (KE_A (KE_F KE_V) (KE_F KE_V))) (KF_1 (KS_Ret (KE_CV kX12_followed (KA_1 KE_V KA_0))) (KF_1 (KS_Ret (KE_1 (KE_A (KE_F KE_V) KE_I))) (KF_1 (KS_Ret (KE_1 (KE_A (KE_F KE_V) KE_I))) (KF_1 (KS_Ret (KE_1 (KE_A (KE_F KE_V) KE_I))) (KF_1 (KS_Ret (KE_A (KE_F KE_V) (KE_F KE_V))) (KF_1 (KS_Ret (KE_F KE_V)) (KF_1 (KS_Ret (KE_F KE_V)) (KF_1 (KS_Ret (KE_F KE_V)) (KF_0 (KS_Ret KE_I)))))))))))))))
theorem kX12_about : KM Wm mX12_about := KM_q k_sX12_about
