/-! A CALL OF BOTH: each from the same memory -/
theorem wc_isM {κ : Nat} {k : Int} (h : isM κ = true) : Wc κ k = false := by
  have : κ = 13 ∨ κ = 40 ∨ κ = 41 ∨ κ = 42 ∨ κ = 44 := by simpa [isM] using h
  rcases this with rfl | rfl | rfl | rfl | rfl <;> rfl
theorem wm_isM {κ : Nat} {k : Int} (h : isM κ = false) : Wm κ k = false := by
  have h' : ¬ (κ = 13 ∨ κ = 40 ∨ κ = 41 ∨ κ = 42 ∨ κ = 44) := by simpa [isM] using h
  unfold Wm
  split <;> first | rfl | (exfalso; apply h'; simp)
theorem EQ.loc {S : QS} {v : QV} {b : Int} {f g : QM} {zs : List Int} (hf : KM Wc f) (hg : LkM g) (kg : KM Wm g) {A A' : Int → QV → Prop} (h1 : wM f (b :: zs) S v A) (h2 : wM g ((b + 889) :: zs) S v A')
    (fin : ∀ r r' w w' u, f (b :: zs) S v = some (r, w) → g ((b + 889) :: zs) S v = some (r', w') → A r w → A' r' w' → (∀ a k, isM (S.1 a) = true → u a k = w' a k) → (∀ a k, isM (S.1 a) = false → u a k = w a k) → r = r' ∧ RX S b u) : EQ S b f g zs v := by
  obtain ⟨r, w, e1, a1⟩ := h1
  obtain ⟨r', w', e2, a2⟩ := h2
  have hA : Ag S v w := fun a k hk => (Kc.of hf e1) a k (wc_isM hk)
  obtain ⟨u, e3, hu⟩ := hg _ S v w (r', w') hA e2
  refine ⟨r, w, e1, r', u, e3, fin r r' w w' u e1 e2 a1 a2 hu (fun a k hk => (Km.of kg e3) a k (wm_isM hk))⟩
