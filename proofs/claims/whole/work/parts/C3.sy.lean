/-! STORE: both scans tell the same -/
def bRel (c m : Int → Int) (n : Int) : Prop := ∀ k, 0 ≤ k → k < n → c k = m k % 256 ∧ -128 ≤ m k ∧ m k < 128
theorem isNb_u {c : Int → Int} {n p q q' : Int} (h : isNb c n p q) (h' : isNb c n p q') : q = q' := by
  obtain ⟨⟨a1, a2⟩, a3, a4⟩ := h
  obtain ⟨⟨b1, b2⟩, b3, b4⟩ := h'
  by_cases e : q = q'
  · exact e
  · exfalso
    by_cases l : q < q'
    · exact a4 (by omega) (b3 q a1 l)
    · exact b4 (by omega) (a3 q' b1 (by omega))
theorem isRn_u {P : Int → Prop} {c : Int → Int} {n p q q' : Int} (h : isRn P c n p q) (h' : isRn P c n p q') : q = q' := by
  obtain ⟨⟨a1, a2⟩, a3, a4⟩ := h
  obtain ⟨⟨b1, b2⟩, b3, b4⟩ := h'
  by_cases e : q = q'
  · exact e
  · exfalso
    by_cases l : q < q'
    · exact a4 (by omega) (b3 q a1 l)
    · exact b4 (by omega) (a3 q' b1 (by omega))
theorem isSp_u {c : Int → Int} {n p q q' : Int} (h : isSp c n p q) (h' : isSp c n p q') : q = q' := by
  by_cases cl : isLe (c p)
  · exact isRn_u (h.1 cl) (h'.1 cl)
  · by_cases cd : isDg (c p)
    · exact isRn_u (h.2.1 cd) (h'.2.1 cd)
    · rw [h.2.2 cl cd, h'.2.2 cl cd]
section BR
variable {c m : Int → Int} {n : Int}
theorem bRel.bl (h : bRel c m n) {k : Int} (k0 : 0 ≤ k) (k1 : k < n) : isBl (c k) ↔ isBl (m k) := by
  have := h k k0 k1
  unfold isBl
  omega
theorem bRel.le (h : bRel c m n) {k : Int} (k0 : 0 ≤ k) (k1 : k < n) : isLe (c k) ↔ isLe (m k) := by
  have := h k k0 k1
  unfold isLe
  omega
theorem bRel.dg (h : bRel c m n) {k : Int} (k0 : 0 ≤ k) (k1 : k < n) : isDg (c k) ↔ isDg (m k) := by
  have := h k k0 k1
  unfold isDg
  omega
theorem bRel.sg (h : bRel c m n) {k : Int} (k0 : 0 ≤ k) (k1 : k < n) : (isSg (c k) ↔ isSg (m k)) ∧ (isSg (c k) → c k = m k) := by
  have := h k k0 k1
  unfold isSg
  omega
theorem bRel.lo (h : bRel c m n) {k x : Int} (k0 : 0 ≤ k) (k1 : k < n) (hx : 0 ≤ x ∧ x < 128) : c k = x ↔ m k = x := by
  have := h k k0 k1
  omega
theorem isNb_t (h : bRel c m n) {p q : Int} (hp : 0 ≤ p) (hN : isNb m n p q) : isNb c n p q := by
  obtain ⟨⟨a1, a2⟩, a3, a4⟩ := hN
  exact ⟨⟨a1, a2⟩, fun k k0 k1 => (h.bl (by omega) (by omega)).mpr (a3 k k0 k1), fun z y => a4 z ((h.bl (by omega) z).mp y)⟩
theorem isSp_t (h : bRel c m n) {p q : Int} (hp : 0 ≤ p ∧ p < n) (hN : isSp m n p q) : isSp c n p q := by
  obtain ⟨h1, h2, h3⟩ := hN
  refine ⟨fun z => ?_, fun z => ?_, fun z y => h3 (fun x => z ((h.le hp.1 hp.2).mpr x)) (fun x => y ((h.dg hp.1 hp.2).mpr x))⟩
  · obtain ⟨⟨a1, a2⟩, a3, a4⟩ := h1 ((h.le hp.1 hp.2).mp z)
    exact ⟨⟨a1, a2⟩, fun k k0 k1 => (h.le (by omega) (by omega)).mpr (a3 k k0 k1), fun z y => a4 z ((h.le (by omega) z).mp y)⟩
  · obtain ⟨⟨a1, a2⟩, a3, a4⟩ := h2 ((h.dg hp.1 hp.2).mp z)
    exact ⟨⟨a1, a2⟩, fun k k0 k1 => (h.dg (by omega) (by omega)).mpr (a3 k k0 k1), fun z y => a4 z ((h.dg (by omega) z).mp y)⟩
theorem wd_b : ∀ i : Nat, i < 18 → ∀ k : Nat, k < (wdN i).length → 97 ≤ (wdN i).getD k 0 ∧ (wdN i).getD k 0 ≤ 122 := by decide +kernel
theorem wmt_t (h : bRel c m n) {p q : Int} {i : Nat} (hi : i < 18) (hp : 0 ≤ p ∧ q ≤ n) : wmt m p q i ↔ wmt c p q i := by
  unfold wmt wdQ1
  constructor
  · rintro ⟨e, hk⟩
    exact ⟨e, fun k k1 => (h.lo (by omega) (by omega) (by have := wd_b i hi k k1; omega)).mpr (hk k k1)⟩
  · rintro ⟨e, hk⟩
    exact ⟨e, fun k k1 => (h.lo (by omega) (by omega) (by have := wd_b i hi k k1; omega)).mp (hk k k1)⟩
end BR
/-- the number of a token, as it is -/
def dvT (v : QV) (T i : Int) : Int := dvV (v (T + 1)) (stT v T i) (spT v T i - stT v T i).toNat
/-- the reference stands at token i -/
def Sy (v w : QV) (T M i : Int) : Prop := (w M 33 = stT v T i ∧ w M 32 = spT v T i) ∧ ((kdT v T i = 1 ∧ w M 34 = 0) ∨ (kdT v T i = 2 ∧ w M 34 = 1) ∨ (kdT v T i = 3 ∧ w M 34 = 3 ∧ nuR (w M 35) (dvT v T i) ∧ 0 ≤ dvT v T i) ∨ (kdT v T i = 4 ∧ w M 34 = 2 ∧ w M 36 = -1) ∨ (∃ j : Nat, j < 18 ∧ kdT v T i = 256 + pmN j ∧ w M 34 = 2 ∧ w M 36 = j) ∨ (isSg (kdT v T i) ∧ w M 34 = 4 ∧ v (M + 28) (stT v T i) = kdT v T i))
section SY
variable {S : QS} {v w : QV} {M T : Int}
theorem dgRun {c : Int → Int} {n p q : Int} (hd : isDg (c p)) (h : isRn (fun x => isDg x) c n p q) : ∀ k : Nat, k < (q - p).toNat → isDg (c (p + k)) := fun k hk => by
  by_cases e : k = 0
  · rw [e, show p + ((0 : Nat) : Int) = p by omega]; exact hd
  · exact h.2.1 (p + k) (by omega) (by omega)
theorem Std.sy {n i q r : Int} (hT : TK v T) (hn : v T 1 = n) (hb : bRel (v (T + 1)) (v (M + 28)) n) (hi : 0 ≤ i ∧ i < nTk v T) (hls : 0 ≤ lsO v T i) (hN : isNb (v (M + 28)) n (lsO v T i) q) (h : Std w M (v (M + 28)) n q r) : Sy v w T M i := by
  subst hn
  obtain ⟨t1, t2, t3, t4⟩ := hT
  have hq := isNb_u (isNb_t hb hls hN) (t4 i hi.1 hi.2)
  subst hq
  obtain ⟨⟨s1, s2⟩, s3, s4⟩ := h
  by_cases e : i = nTk v T - 1
  · subst e
    obtain ⟨u1, u2⟩ := s3 t2.2.1
    refine ⟨⟨s1, by rw [s2, u2, t2.2.2]⟩, Or.inl ⟨t2.1, u1⟩⟩
  · obtain ⟨⟨o0, o1, o2⟩, o3, o4, o5⟩ := t3 i hi.1 (by omega)
    have hlt : stT v T i < v T 1 := by omega
    obtain ⟨g1, g2, g3, g4⟩ := s4 hlt
    have hr := isSp_u (isSp_t hb ⟨o0, hlt⟩ g1) o3
    subst hr
    refine ⟨⟨s1, s2⟩, ?_⟩
    by_cases cl : isLe (v (T + 1) (stT v T i))
    · obtain ⟨w34, hwr⟩ := g2 ((hb.le o0 hlt).mp cl)
      rcases o4.1 cl with ⟨i', hi', hm, hk⟩ | ⟨hk, hno⟩
      · obtain ⟨j, hj, hjp⟩ := pm_s i' hi'
        rcases hwr with ⟨-, hno⟩ | ⟨j', hj', w36, hm'⟩
        · exact absurd ((wmt_t hb hi' ⟨o0, o2⟩).mpr hm) (by rw [← hjp]; exact hno j hj)
        · have := wmt_u (pm_b j' hj') hi' ((wmt_t hb (pm_b j' hj') ⟨o0, o2⟩).mp hm') hm
          exact Or.inr (Or.inr (Or.inr (Or.inr (Or.inl ⟨j', hj', by rw [hk, this], w34, w36⟩))))
      · rcases hwr with ⟨w36, -⟩ | ⟨j', hj', w36, hm'⟩
        · exact Or.inr (Or.inr (Or.inr (Or.inl ⟨hk, w34, w36⟩)))
        · exact absurd ((wmt_t hb (pm_b j' hj') ⟨o0, o2⟩).mp hm') (hno _ (pm_b j' hj'))
    · by_cases cd : isDg (v (T + 1) (stT v T i))
      · obtain ⟨w34, hnu⟩ := g3 ((hb.dg o0 hlt).mp cd)
        have hrun := dgRun cd (o3.2.1 cd)
        have hdv : dvT v T i = dvV (v (M + 28)) (stT v T i) (spT v T i - stT v T i).toNat := dvV_c _ (fun k hk => ((hb.lo (by omega) (by omega) (by have := hrun k hk; omega)).mp rfl).symm)
        have hd0 : 0 ≤ dvT v T i := dvV_n _ hrun
        exact Or.inr (Or.inr (Or.inl ⟨o4.2.1 cd, w34, by rw [hdv]; exact hnu, hd0⟩))
      · have cl' : ¬ isLe (v (M + 28) (stT v T i)) := fun z => cl ((hb.le o0 hlt).mpr z)
        have cd' : ¬ isDg (v (M + 28) (stT v T i)) := fun z => cd ((hb.dg o0 hlt).mpr z)
        obtain ⟨x1, x2⟩ := o4.2.2 cl cd
        obtain ⟨y1, y2⟩ := g4 cl' cd'
        by_cases cs : isSg (v (T + 1) (stT v T i))
        · have e1 := (hb.sg o0 hlt).2 cs
          refine Or.inr (Or.inr (Or.inr (Or.inr (Or.inr ⟨by rw [x1 cs]; exact cs, y1 ((hb.sg o0 hlt).1.mp cs), by rw [x1 cs, e1]⟩))))
        · exact Or.inr (Or.inl ⟨x2 cs, y2 (fun z => cs ((hb.sg o0 hlt).1.mpr z))⟩)
end SY
