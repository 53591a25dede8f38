/-! STORE: a call of both -/
section G7
variable {S : QS} {u v w m m' : QV} {b M P Pn B s n T x : Int} {o : Int × Int}
theorem g_store (h : RX S b v) (hl : LtO v (b + 889)) : EQ S b mX11_store mX12_store [] v := by
  obtain ⟨P, B, s, h⟩ := h
  have hnb := h.nb
  unfold EQ
  generalize hPn : 2 * b + 37 - P = Pn
  refine wM_mono (c_store h hPn.symm) ?_
  rintro r w e ⟨v1, wp, o, ⟨t1, t2, t3⟩, ⟨k1, k2, k3⟩, hPa, fp, hres⟩
  obtain ⟨⟨h1, h2, h3⟩, ⟨p1, p2, p3⟩, ⟨b1, b2⟩, ⟨s1, s2, s3⟩, r0, t, ⟨u1, u2, u3⟩, un, re, bx, tp, fa⟩ := h
  have kw : Kc S v w := (k1.tr k2).tr k3
  -- the reference's things are as they were
  have ewp : ∀ a k, a ≤ b ∨ b + 44 ≤ a → wp a k = v a k := fun a k q => by
    rw [fp a k (by omega) (by omega), t3 _ _ (by omega) (by omega) (by omega) (by omega)]
  have ewv : ∀ a k, b + 889 ≤ a → w a k = v a k := fun a k q => by
    rcases hres with ⟨c, -, -, -, -, -, -, g12⟩ | ⟨c, -, e⟩
    · rw [g12 _ _ (by omega) (by omega) (by omega) (by omega)]; exact ewp _ _ (by omega)
    · rw [e, vu_ne (by omega), vu_ne (by omega), vu_ne (by omega)]; exact ewp _ _ (by omega)
  have hwM := h2.keep kw.p
  have eM : ∀ k, w (b + 889) k = v (b + 889) k := fun k => ewv _ _ (by omega)
  have hbr : bRel (v1 (b + 1 + 1)) (v1 (b + 889 + 28)) (v (b + 889) 30) := fun k k0 k1 => by
    rw [t3 _ _ (by omega) (by omega) (by omega) (by omega), t3 _ _ (by omega) (by omega) (by omega) (by omega), show b + 1 + 1 = b + 2 by omega]
    exact tp.2.2.2 k k0 k1
  have hc : CX v1 (b + 889) (b + 1) (v (b + 889) 30) := ⟨t1, by rw [t2]; exact tp.1, ⟨tp.2.1, tp.2.2.1⟩, hbr, fun k hk => by rw [t3 _ _ (by omega) (by omega) (by omega) (by omega)]; exact hl k hk, by omega⟩
  have hst := m_store (w := w) (M := b + 889) (n := v (b + 889) 30) hwM (by rw [eM]; exact b1) b2 (by rw [eM]) hc hPa ⟨by omega, by omega⟩ (by omega) (fun k => ⟨by rw [ewv _ _ (by omega), t3 _ _ (by omega) (by omega) (by omega) (by omega)], by rw [ewv _ _ (by omega), t3 _ _ (by omega) (by omega) (by omega) (by omega)]⟩)
  refine wM_mono hst ?_
  rintro r' w' e' ⟨m1, hfN, hG, hres'⟩
  have km := Km.of kX12_store e'
  have kk : Kp S v w' := kw.p.tr km.p
  -- the class's things are as they were
  have hlt : ∀ a k, b ≤ a → a < b + 889 → w' a k = w a k := fun a k a0 a1 => by
    have hm : m1 a k = w a k := hfN _ _ (by omega) (by omega) (by omega) (by omega) (by omega) (by omega) (by omega)
    rcases hres' with ⟨-, -, -, -, -, -, -, a5⟩ | ⟨-, -, -, -, a5⟩
    · rw [a5 _ _ (by omega) (by omega) (by omega), hm]
    · rw [a5 _ _ (by omega), hm]
  have hcl := h1.keep kk
  have hmo := h2.keep kk
  have hBn : 1 - B = 0 ∨ 1 - B = 1 := by omega
  rcases hres with ⟨c, rfl, hSu⟩ | ⟨c, rfl, rfl⟩
  · -- taken
    rcases hres' with ⟨-, rfl, ⟨y28, y30, y39, y40⟩, a1, a2, a3, a4, a5⟩ | ⟨c', -⟩
    rotate_left
    · omega
    obtain ⟨⟨g10, g11, g1⟩, ⟨g2, g3⟩, ⟨g6, g7⟩, g8, ⟨g90, g91, g92⟩, g12⟩ := hSu
    have hGx := hG c
    have wu : ∀ a k, Pn ≤ a → a ≤ Pn + 16 → w a k = wp a k := fun a k q0 q1 => g12 _ _ (by omega) (by omega) (by omega) (by omega)
    have eP : ∀ a k, Pn ≤ a → a ≤ Pn + 16 → w' a k = mgm (b + 889) wp m1 a k := fun a k q0 q1 => by
      rw [mgm_u (by omega), hlt _ _ (by omega) (by omega), wu a k q0 q1]
    have eR : ∀ j k, 2 ≤ j → j ≤ 25 → w' (b + 889 + j) k = mgm (b + 889) wp m1 (b + 889 + j) k := fun j k j0 j1 => by
      rw [mgm_m (by omega), a5 _ _ (by omega) (by omega) (by omega)]
    have hPR : PR w' Pn (b + 889) (1 - B) := hGx.1.cgB hBn eP (fun j j0 j1 => eR j _ j0 (by omega)) (fun j k j0 _ _ => eR j k (by omega) (by omega)) (fun k _ _ => eR 24 k (by decide) (by decide))
    obtain ⟨n3, -⟩ := hGx.cnt (by omega)
    have hSR : SR w' Pn s (w' (b + 889 + 1)) := SR.start hPR ⟨by rw [hlt _ _ (by omega) (by omega)]; exact g90.1, by rw [hlt _ _ (by omega) (by omega)]; exact g90.2⟩ (fun m m0 m1 => (g91 m m0 m1).cg (fun a k q0 q1 => hlt _ _ (by omega) (by omega)) (fun k => hlt _ _ (by omega) (by omega))) (fun a z0 z1 m m0 m1 => by
      have := g92 a z0 z1 m m0 m1
      rw [hlt _ _ (by omega) (by omega), hlt _ _ (by omega) (by omega), hlt _ _ (by omega) (by omega)]
      exact this) (fun m m0 m1' => by
      rw [a5 _ _ (by omega) (by omega) (by omega)] at m1'
      have := a1 m m0 m1'
      unfold AnM at this ⊢
      rw [a5 (b + 889 + 11) _ (by omega) (by omega) (by omega), a5 (b + 889 + 12) _ (by omega) (by omega) (by omega), a5 (b + 889 + 13) _ (by omega) (by omega) (by omega)]
      exact this) a2
    have eb : ∀ k, w' b k = w b k := fun k => hlt _ _ (by omega) (by omega)
    have e5 : w b 5 = v b 5 := by rw [g12 _ _ (by simp) (by omega) (by omega) (by omega)]; exact ewp _ _ (by omega)
    refine ⟨rfl, Pn, 1 - B, s, ⟨hcl, hmo, rfl⟩, ⟨by rw [eb]; exact g2, by rw [eb, g3]; omega, by omega⟩, ⟨y28, hBn⟩, ⟨by rw [eb, e5]; exact s1, by rw [eb, e5]; exact s2, by rw [eb, e5]; exact s3⟩, hPR, hSR, ⟨by rw [eb, g6, a3.1], by rw [eb, g7, a3.2], by rw [eb, g6]; decide, by rw [eb, g7]; decide, by rw [eb, eb, g6, g7]; decide⟩, fun j j0 j1 => ?_, fun j j0 j1 => ?_, fun x x0 x1 => ?_, ⟨?_, by rw [y30]; decide, by rw [y30]; decide, fun k k0 k1 => ?_⟩, ?_, ?_⟩
    · rw [eb, g6] at j1; omega
    · rw [eb, g7] at j1; omega
    · have e8 : w' (b + 886) x = 0 := by rw [hlt _ _ (by omega) (by omega)]; exact g8 x x0 x1
      exact ⟨⟨by rw [e8, a4 x x0 x1], Or.inl e8⟩, fun z => absurd e8 z⟩
    · rw [hlt _ _ (by omega) (by omega), g1, y30]
    · rw [y30] at k1; omega
    · rw [eb, g10, y39]
    · rw [eb, g11, y40]
  · -- not taken
    rcases hres' with ⟨c', -⟩ | ⟨-, rfl, ⟨y30, y39, y40⟩, ⟨y28, y58, y59⟩, a5⟩
    · omega
    have wo : ∀ a k, (a = b → k ≠ 10 ∧ k ≠ 11) → (a = b + 1 → k ≠ 1) → vu (vu (vu wp b 10 o.1) b 11 (stT v1 (b + 1) o.2)) (b + 1) 1 0 a k = wp a k := fun a k q1 q2 => by rw [vu_ne (fun e => q2 e.1 e.2), vu_ne (fun e => (q1 e.1).2 e.2), vu_ne (fun e => (q1 e.1).1 e.2)]
    have w10 : vu (vu (vu wp b 10 o.1) b 11 (stT v1 (b + 1) o.2)) (b + 1) 1 0 b 10 = o.1 := by rw [vu_ne (by omega), vu_ne (by simp), vu_is]
    have w11 : vu (vu (vu wp b 10 o.1) b 11 (stT v1 (b + 1) o.2)) (b + 1) 1 0 b 11 = stT v1 (b + 1) o.2 := by rw [vu_ne (by omega), vu_is]
    have wT : vu (vu (vu wp b 10 o.1) b 11 (stT v1 (b + 1) o.2)) (b + 1) 1 0 (b + 1) 1 = 0 := vu_is
    generalize vu (vu (vu wp b 10 o.1) b 11 (stT v1 (b + 1) o.2)) (b + 1) 1 0 = w at *
    have ecl : ∀ a k, b ≤ a → a < b + 889 → (a = b → k ≠ 10 ∧ k ≠ 11) → ¬ (b + 1 ≤ a ∧ a ≤ b + 9) → ¬ (Pn ≤ a ∧ a ≤ Pn + 16) → w' a k = v a k := fun a k q0 q1 q2 q3 q4 => by
      rw [hlt _ _ q0 q1, wo _ _ q2 (by omega), fp _ _ (by omega) q4, t3 _ _ (by omega) (by omega) (by omega) (by omega)]
    have em : ∀ j k, 1 ≤ j → j ≤ 38 → j ≠ 26 → j ≠ 27 → j ≠ 30 → j ≠ 31 → j ≠ 32 → j ≠ 33 → j ≠ 34 → j ≠ 35 → (2 ≤ j ∧ j ≤ 7 → k ≠ 1 - B) → ((8 ≤ j ∧ j ≤ 23) ∨ j = 25 → k < 4 * (1 - B) ∨ 4 * (1 - B) + 4 ≤ k) → (j = 24 → k < 100 * (1 - B) ∨ 100 * (1 - B) + 100 ≤ k) → w' (b + 889 + j) k = v (b + 889 + j) k := fun j k j0 j1 q1 q2 q3 q4 q5 q6 q7 q8 z1 z2 z3 => by
      rw [a5 _ _ (by omega), hfN _ _ (by omega) (by omega) (by omega) (by omega) (by omega) (by omega) (by omega)]
      exact ewv _ _ (by omega)
    have eb : ∀ k, k ≠ 10 → k ≠ 11 → w' b k = v b k := fun k q1 q2 => ecl _ _ (by omega) (by omega) (fun _ => ⟨q1, q2⟩) (by omega) (by omega)
    have ePc : ∀ a k, (a = P ∨ (P + 9 ≤ a ∧ a ≤ P + 16)) → w' a k = v a k := fun a k hh => ecl _ _ (by omega) (by omega) (by omega) (by omega) (by omega)
    have es : ∀ s', b + 45 ≤ s' → s' ≤ b + 830 → ∀ a k, s' ≤ a → a < s' + 56 → w' a k = v a k := fun s' g0 g1 a k g2 g3 => ecl _ _ (by omega) (by omega) (by omega) (by omega) (by omega)
    refine ⟨rfl, P, B, s, ⟨hcl, hmo, rfl⟩, ⟨by rw [eb _ (by decide) (by decide)]; exact p1, by rw [eb _ (by decide) (by decide), p2], p3⟩, ⟨by rw [y28, eM]; exact b1, b2⟩, ⟨by rw [eb _ (by decide) (by decide)]; exact s1, by rw [eb _ (by decide) (by decide)]; exact s2, by rw [eb _ (by decide) (by decide)]; exact s3⟩, ?_, ?_, ?_, fun j g0 g1 => ?_, fun j g0 g1 => ?_, fun x g0 g1 => ?_, ⟨?_, by rw [y30]; decide, by rw [y30]; decide, fun k k0 k1 => ?_⟩, ?_, ?_⟩
    · exact r0.cgB b2 (fun a k q0 q1 => ecl _ _ (by omega) (by omega) (by omega) (by omega) (by omega)) (fun j j0 j1 => em j _ (by omega) (by omega) (by omega) (by omega) (by omega) (by omega) (by omega) (by omega) (by omega) (by omega) (by omega) (by omega) (by omega)) (fun j k j0 k0 k1 => em j k (by omega) (by omega) (by omega) (by omega) (by omega) (by omega) (by omega) (by omega) (by omega) (by omega) (by omega) (by omega) (by omega)) (fun k k0 k1 => em 24 k (by omega) (by omega) (by omega) (by omega) (by omega) (by omega) (by omega) (by omega) (by omega) (by omega) (by omega) (by omega) (by omega))
    · exact SR.q hnb ePc (es s (by omega) (by omega)) (fun k _ _ => em 1 k (by omega) (by omega) (by omega) (by omega) (by omega) (by omega) (by omega) (by omega) (by omega) (by omega) (by omega) (by omega) (by omega)) t
    · rw [eb _ (by decide) (by decide), eb _ (by decide) (by decide), y58, y59, eM, eM]; exact ⟨u1, u2, u3⟩
    · rw [eb _ (by decide) (by decide)] at g1
      rw [eb _ (by decide) (by decide), eb _ (by decide) (by decide)]
      exact SR.q hnb ePc (es _ (by omega) (by omega)) (fun k _ _ => em 36 _ (by omega) (by omega) (by omega) (by omega) (by omega) (by omega) (by omega) (by omega) (by omega) (by omega) (by omega) (by omega) (by omega)) (un j g0 g1)
    · rw [eb _ (by decide) (by decide)] at g1
      rw [eb _ (by decide) (by decide), eb _ (by decide) (by decide)]
      exact SR.q hnb ePc (es _ (by omega) (by omega)) (fun k _ _ => em 36 _ (by omega) (by omega) (by omega) (by omega) (by omega) (by omega) (by omega) (by omega) (by omega) (by omega) (by omega) (by omega) (by omega)) (re j g0 g1)
    · rw [ecl (b + 886) x (by omega) (by omega) (by omega) (by omega) (by omega), em 38 _ (by omega) (by omega) (by omega) (by omega) (by omega) (by omega) (by omega) (by omega) (by omega) (by omega) (by omega) (by omega) (by omega)]
      exact ⟨(bx x g0 g1).1, fun g2 => SR.q hnb ePc (es _ (by omega) (by omega)) (fun k _ _ => em 37 _ (by omega) (by omega) (by omega) (by omega) (by omega) (by omega) (by omega) (by omega) (by omega) (by omega) (by omega) (by omega) (by omega)) ((bx x g0 g1).2 g2)⟩
    · rw [hlt _ _ (by omega) (by omega), wT, y30]
    · rw [y30] at k1; omega
    · rw [hlt _ _ (by omega) (by omega), w10, y39]
    · rw [hlt _ _ (by omega) (by omega), w11, y40]
end G7
