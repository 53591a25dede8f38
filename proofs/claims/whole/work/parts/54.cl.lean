/-! THE CLASS'S QUESTIONS, those with loops over rows: answers as functions of the rows' told values -/
/-- a question has changed nothing but the tally and what shows are reckoned with -/
def Qf (b P : Int) (v w : QV) : Prop := ∀ c k, c ≠ b + 888 → (c = P + 3 → k ≠ 8) → c ≠ P + 7 → c ≠ P + 8 → w c k = v c k
theorem Qf.rf {b P : Int} {v : QV} : Qf b P v v := fun _ _ _ _ _ _ => rfl
theorem Qf.tr {b P : Int} {u v w : QV} (h : Qf b P u v) (h' : Qf b P v w) : Qf b P u w := fun c k h1 h2 h3 h4 => (h' c k h1 h2 h3 h4).trans (h c k h1 h2 h3 h4)
section CL
variable {S : QS} {v w : QV} {b P s : Int}
theorem RC.sb (h : RC S v b P s) : b + 45 ≤ s ∧ s ≤ b + 717 := by
  obtain ⟨hC, h2, h3, h4, h5, -⟩ := h
  omega
theorem RC.kp (h : RC S v b P s) (hq : Qf b P v w) : Kp S v w := by
  intro a k h1 h2
  have hF := h.pl.f
  refine hq a k ?_ ?_ ?_ ?_
  · rintro rfl; rw [h.1.y] at h1; cases h1
  · rintro rfl rfl; rw [hF.k] at h1; cases h1
  · rintro rfl
    have := hF.a4
    rw [show P + 3 + 4 = P + 7 by omega] at this
    rw [this] at h1; cases h1
  · rintro rfl
    have := hF.a5
    rw [show P + 3 + 5 = P + 8 by omega] at this
    rw [this] at h1; cases h1
theorem RC.keep (h : RC S v b P s) (hq : Qf b P v w) : RC S w b P s := by
  have hk := h.kp hq
  have hs := h.sb
  obtain ⟨hC, h2, h3, h4, h5, h6, h7, h8, h9, h10⟩ := h
  have eP : ∀ k, w P k = v P k := fun k => hq _ _ (by omega) (by omega) (by omega) (by omega)
  have eb : ∀ k, w b k = v b k := fun k => hq _ _ (by omega) (by omega) (by omega) (by omega)
  refine ⟨hC.keep hk, by rw [eb]; exact h2, h3, by rw [eb]; exact h4, by rw [eb]; exact h5, by rw [eP]; exact h6, by rw [eP]; exact h7, by rw [eP]; exact h8, ?_, ?_⟩
  · intro a ha hb
    rw [eP] at hb
    have := h9 a ha hb
    have e : ∀ k, w (P + (13 + a)) k = v (P + (13 + a)) k := fun k => hq _ _ (by omega) (by omega) (by omega) (by omega)
    simp only [e]
    exact this
  · rw [hq s _ (by omega) (by omega) (by omega) (by omega)]; exact h10
theorem cU_keep (h : RC S v b P s) (hq : Qf b P v w) {a : Int} (ha : 0 ≤ a) (ha' : a < 4) : cU w P a = cU v P a := by
  have hs := h.sb
  obtain ⟨hC, h2, h3, h4, h5, h6, h7, h8, h9, h10⟩ := h
  unfold cU
  rw [hq (P + (13 + a)) _ (by omega) (by omega) (by omega) (by omega), hq P _ (by omega) (by omega) (by omega) (by omega)]
theorem cD_keep (h : RC S v b P s) (hq : Qf b P v w) {a : Int} (ha : 0 ≤ a) (ha' : a < 4) : cD w P s a = cD v P s a := by
  have hs := h.sb
  have e := cU_keep h hq ha ha'
  obtain ⟨hC, h2, h3, h4, h5, h6, h7, h8, h9, h10⟩ := h
  unfold cD
  rw [e, hq s _ (by omega) (by omega) (by omega) (by omega)]
theorem cK_keep (h : RC S v b P s) (hq : Qf b P v w) {a : Int} (ha : 0 ≤ a) (ha' : a < 4) : cK w P s a = cK v P s a := by
  have hs := h.sb
  have e := cD_keep h hq ha ha'
  obtain ⟨hC, h2, h3, h4, h5, h6, h7, h8, h9, h10⟩ := h
  unfold cK
  rw [e, hq (P + (13 + a)) _ (by omega) (by omega) (by omega) (by omega)]
theorem cR_keep (h : RC S v b P s) (hq : Qf b P v w) {a : Int} (ha : 0 ≤ a) (ha' : a < 4) {m i : Int} : cR w P s a m i = cR v P s a m i := by
  have hs := h.sb
  have e := cD_keep h hq ha ha'
  obtain ⟨hC, h2, h3, h4, h5, h6, h7, h8, h9, h10⟩ := h
  unfold cR
  rw [e, hq _ _ (by omega) (by omega) (by omega) (by omega)]
end CL
/-- how many, their sum, the greatest, the least of those that p -/
def nP (p : Int → Bool) : Nat → Int
  | 0 => 0
  | j + 1 => nP p j + if p j = true then 1 else 0
def sP (p : Int → Bool) (ρ : Int → Int) : Nat → Int
  | 0 => 0
  | j + 1 => sP p ρ j + if p j = true then ρ j else 0
def gP (p : Int → Bool) (ρ : Int → Int) : Nat → Int
  | 0 => -2147483648
  | j + 1 => if p j = true ∧ gP p ρ j < ρ j then ρ j else gP p ρ j
def lP (p : Int → Bool) (ρ : Int → Int) : Nat → Int
  | 0 => -2147483648
  | j + 1 => if p j = true ∧ (lP p ρ j = -2147483648 ∨ ρ j < lP p ρ j) then ρ j else lP p ρ j
theorem nP_b (p : Int → Bool) : ∀ j : Nat, 0 ≤ nP p j ∧ nP p j ≤ j
  | 0 => ⟨Int.le_refl 0, Int.le_refl 0⟩
  | j + 1 => by
    have := nP_b p j
    unfold nP
    split <;> omega
theorem w32_s {j : Nat} (h : j < 1000) : w32 ((j : Int) + 1) = ((j + 1 : Nat) : Int) := by
  have e : w32 ((j : Int) + 1) = (j : Int) + 1 := w32_e (by omega)
  rw [e]; rfl
theorem w32_n (p : Int → Bool) {j : Nat} (h : j < 1000) : w32 (nP p j + 1) = nP p j + 1 := by
  have b := nP_b p j
  generalize nP p j = n at b ⊢
  exact w32_e (by omega)
/-- a told value -/
def tv (x : Int) : Prop := x = -2147483648 ∨ (0 ≤ x ∧ x ≤ 999999000)
theorem sP_b {p : Int → Bool} {ρ : Int → Int} : ∀ j : Nat, (∀ i : Int, 0 ≤ i → i < j → p i = true → 0 ≤ ρ i ∧ ρ i ≤ 999999000) → 0 ≤ sP p ρ j ∧ sP p ρ j ≤ 999999000 * j
  | 0, _ => ⟨Int.le_refl 0, Int.le_refl 0⟩
  | j + 1, h => by
    have h1 := sP_b j (fun i h0 h1 => h i h0 (by omega))
    have h2 := h j (by omega) (by omega)
    unfold sP
    split
    · rename_i hp; have := h2 hp; omega
    · omega
theorem gl_b {p : Int → Bool} {ρ : Int → Int} : ∀ j : Nat, (∀ i : Int, 0 ≤ i → i < j → p i = true → 0 ≤ ρ i ∧ ρ i ≤ 999999000) → (nP p j = 0 ∧ gP p ρ j = -2147483648 ∧ lP p ρ j = -2147483648) ∨ (0 < nP p j ∧ (0 ≤ gP p ρ j ∧ gP p ρ j ≤ 999999000) ∧ (0 ≤ lP p ρ j ∧ lP p ρ j ≤ 999999000))
  | 0, _ => Or.inl ⟨rfl, rfl, rfl⟩
  | j + 1, h => by
    have h1 := gl_b j (fun i h0 h1 => h i h0 (by omega))
    have h2 := h j (by omega) (by omega)
    have h3 := nP_b p j
    unfold nP gP lP
    by_cases hp : p j = true
    · have := h2 hp
      simp only [hp, true_and, if_true]
      right
      refine ⟨by omega, ?_, ?_⟩
      · split <;> omega
      · split <;> omega
    · simp only [hp, false_and, if_false]
      simpa using h1
section CT
variable {S : QS} {v w : QV} {b P s : Int}
theorem q_clear {t : Int} (ht : S.1 t = 10) : mX9_clear [t] S v = some (0, vu (vu (vu (vu (vu (vu v t 0 0) t 1 0) t 2 0) t 3 (-2147483648)) t 4 (-2147483648)) t 5 (-2147483648)) := by
  apply wM_eq
  simp only [mX9_clear, sX9_clear, wE_I, wE_V, wE_F, wE_A, wE_N, wE_1, wE_2, wE_D, wE_B, wE_If, wE_C, wE_CV, wE_SL, wE_SA, wA_0, wA_1, wC_B, wC_E, wC_And, wC_Or, wC_Not, wS_Skip, wS_Brk, wS_Cnt, wS_RetV, wS_Ret, wS_Seq, wS_Set, wS_Inc, wS_Do, wS_Put, wS_PutC, wS_Arr, wS_ArrC, wS_If, wS_Sw, wS_F0, wS_F1, wM_q, lu_ap, aL_ap, ct_0, ct_1, ct_2, ct_3, ct_4, ct_5, headD_1, List.mem_cons, List.not_mem_nil, or_false, false_or, or_true, true_or, true_and, and_true, false_and, and_false, not_true_eq_false, not_false_eq_true, if_true, if_false, nr_20, nr_24, nr_40, nr_41, nr_44, pt_lt, pt_ge, pt_eq, pt_ne, pt_gt, pt_le, pt_E, pt_N, pt_F, ite_10, ite_11, ne_eq, and_self, or_self, decide_true, decide_false, Bool.not_true, Bool.not_false, Bool.false_eq_true, Nat.reduceEqDiff, Nat.reduceAdd, Int.reduceEq, Int.reduceLT, Int.reduceLE, Int.reduceNeg, Int.reduceAdd, Int.reduceSub, Int.reduceMul, reduceCtorEq, iA, iS, iM, iD, iR, iN, lA, lS, lM, lD, lR, ht]
theorem q_add0 {t y : Int} : mX9_add [t, -2147483648, y] S v = some (0, v) := by
  apply wM_eq
  simp only [mX9_add, sX9_add, wE_I, wE_V, wE_F, wE_A, wE_N, wE_1, wE_2, wE_D, wE_B, wE_If, wE_C, wE_CV, wE_SL, wE_SA, wA_0, wA_1, wC_B, wC_E, wC_And, wC_Or, wC_Not, wS_Skip, wS_Brk, wS_Cnt, wS_RetV, wS_Ret, wS_Seq, wS_Set, wS_Inc, wS_Do, wS_Put, wS_PutC, wS_Arr, wS_ArrC, wS_If, wS_Sw, wS_F0, wS_F1, wM_q, lu_ap, aL_ap, ct_0, ct_1, ct_2, ct_3, ct_4, ct_5, headD_1, List.mem_cons, List.not_mem_nil, or_false, false_or, or_true, true_or, true_and, and_true, false_and, and_false, not_true_eq_false, not_false_eq_true, if_true, if_false, nr_20, nr_24, nr_40, nr_41, nr_44, pt_lt, pt_ge, pt_eq, pt_ne, pt_gt, pt_le, pt_E, pt_N, pt_F, ite_10, ite_11, ne_eq, and_self, or_self, decide_true, decide_false, Bool.not_true, Bool.not_false, Bool.false_eq_true, Nat.reduceEqDiff, Nat.reduceAdd, Int.reduceEq, Int.reduceLT, Int.reduceLE, Int.reduceNeg, Int.reduceAdd, Int.reduceSub, Int.reduceMul, reduceCtorEq, iA, iS, iM, iD, iR, iN, lA, lS, lM, lD, lR]
theorem q_add {t x y : Int} (ht : S.1 t = 10) (hx : ¬ x = -2147483648) : mX9_add [t, x, y] S v = some (0, vu (vu (vu (vu (vu (vu v t 3 (if v t 2 = 0 then x else iMax (v t 3) x)) t 4 (if v t 2 = 0 then x else iMin (v t 4) x)) t 5 x) t 0 (w64 (v t 0 + w64 (x * y)))) t 1 (w32 (v t 1 + y))) t 2 (w32 (v t 2 + 1))) := by
  apply wM_eq
  by_cases h : v t 2 = 0
  · simp only [mX9_add, sX9_add, wE_I, wE_V, wE_F, wE_A, wE_N, wE_1, wE_2, wE_D, wE_B, wE_If, wE_C, wE_CV, wE_SL, wE_SA, wA_0, wA_1, wC_B, wC_E, wC_And, wC_Or, wC_Not, wS_Skip, wS_Brk, wS_Cnt, wS_RetV, wS_Ret, wS_Seq, wS_Set, wS_Inc, wS_Do, wS_Put, wS_PutC, wS_Arr, wS_ArrC, wS_If, wS_Sw, wS_F0, wS_F1, wM_q, lu_ap, aL_ap, ct_0, ct_1, ct_2, ct_3, ct_4, ct_5, headD_1, List.mem_cons, List.not_mem_nil, or_false, false_or, or_true, true_or, true_and, and_true, false_and, and_false, not_true_eq_false, not_false_eq_true, if_true, if_false, nr_20, nr_24, nr_40, nr_41, nr_44, pt_lt, pt_ge, pt_eq, pt_ne, pt_gt, pt_le, pt_E, pt_N, pt_F, ite_10, ite_11, ne_eq, and_self, or_self, decide_true, decide_false, Bool.not_true, Bool.not_false, Bool.false_eq_true, Nat.reduceEqDiff, Nat.reduceAdd, Int.reduceEq, Int.reduceLT, Int.reduceLE, Int.reduceNeg, Int.reduceAdd, Int.reduceSub, Int.reduceMul, reduceCtorEq, iA, iS, iM, iD, iR, iN, lA, lS, lM, lD, lR, ht, hx, h, vu_ne]
  · simp only [mX9_add, sX9_add, wE_I, wE_V, wE_F, wE_A, wE_N, wE_1, wE_2, wE_D, wE_B, wE_If, wE_C, wE_CV, wE_SL, wE_SA, wA_0, wA_1, wC_B, wC_E, wC_And, wC_Or, wC_Not, wS_Skip, wS_Brk, wS_Cnt, wS_RetV, wS_Ret, wS_Seq, wS_Set, wS_Inc, wS_Do, wS_Put, wS_PutC, wS_Arr, wS_ArrC, wS_If, wS_Sw, wS_F0, wS_F1, wM_q, lu_ap, aL_ap, ct_0, ct_1, ct_2, ct_3, ct_4, ct_5, headD_1, List.mem_cons, List.not_mem_nil, or_false, false_or, or_true, true_or, true_and, and_true, false_and, and_false, not_true_eq_false, not_false_eq_true, if_true, if_false, nr_20, nr_24, nr_40, nr_41, nr_44, pt_lt, pt_ge, pt_eq, pt_ne, pt_gt, pt_le, pt_E, pt_N, pt_F, ite_10, ite_11, ne_eq, and_self, or_self, decide_true, decide_false, Bool.not_true, Bool.not_false, Bool.false_eq_true, Nat.reduceEqDiff, Nat.reduceAdd, Int.reduceEq, Int.reduceLT, Int.reduceLE, Int.reduceNeg, Int.reduceAdd, Int.reduceSub, Int.reduceMul, reduceCtorEq, iA, iS, iM, iD, iR, iN, lA, lS, lM, lD, lR, ht, hx, h, vu_ne]
/-- the tally after j of a row, of those that p -/
def Ty (w : QV) (t : Int) (p : Int → Bool) (ρ : Int → Int) (j : Nat) : Prop := w t 0 = sP p ρ j ∧ w t 1 = nP p j ∧ w t 2 = nP p j ∧ w t 3 = gP p ρ j ∧ w t 4 = lP p ρ j
theorem Ty.no {t : Int} {p : Int → Bool} {ρ : Int → Int} {j : Nat} (h : Ty w t p ρ j) (hp : ¬ p j = true) : Ty w t p ρ (j + 1) := by
  obtain ⟨h0, h1, h2, h3, h4⟩ := h
  refine ⟨?_, ?_, ?_, ?_, ?_⟩
  · simp only [h0, sP, hp, if_false]; simp
  · simp only [h1, nP, hp, if_false]; simp
  · simp only [h2, nP, hp, if_false]; simp
  · simp [h3, gP, hp]
  · simp [h4, lP, hp]
theorem Ty.kept {t : Int} {p : Int → Bool} {ρ : Int → Int} {j : Nat} (h : Ty v t p ρ j) (hq : ∀ k, w t k = v t k) : Ty w t p ρ j := by
  obtain ⟨h0, h1, h2, h3, h4⟩ := h
  exact ⟨by rw [hq]; exact h0, by rw [hq]; exact h1, by rw [hq]; exact h2, by rw [hq]; exact h3, by rw [hq]; exact h4⟩
theorem Ty.clear {t : Int} (ht : S.1 t = 10) (p : Int → Bool) (ρ : Int → Int) : wM mX9_clear [t] S v (fun _ w => Ty w t p ρ 0 ∧ ∀ c k, c ≠ t → w c k = v c k) := by
  rw [wM_of (q_clear ht)]
  refine ⟨⟨by simp [vu_ap, sP], by simp [vu_ap, nP], by simp [vu_ap, nP], by simp [vu_ap, gP], by simp [vu_ap, lP]⟩, fun c k hc => by simp [vu_ap, hc]⟩
theorem Ty.add {t x : Int} {p : Int → Bool} {ρ : Int → Int} {j : Nat} (ht : S.1 t = 10) (h : Ty w t p ρ j) (hx : x = ρ j) (hj : j < 1000) (hp : p j = decide (¬ x = -2147483648)) (hr : ∀ i : Int, 0 ≤ i → i < j → p i = true → -2000000000 ≤ ρ i ∧ ρ i ≤ 2000000000) (hv : p j = true → -2000000000 ≤ x ∧ x ≤ 2000000000) : wM mX9_add [t, x, 1] S w (fun _ w' => Ty w' t p ρ (j + 1) ∧ ∀ c k, c ≠ t → w' c k = w c k) := by
  by_cases hn : x = -2147483648
  · have hp' : ¬ p j = true := by rw [hp]; simp [hn]
    rw [hn, wM_of q_add0]
    exact ⟨h.no hp', fun _ _ _ => rfl⟩
  · have hp' : p j = true := by rw [hp]; simp [hn]
    have hx1 := hv hp'
    rw [wM_of (q_add ht hn)]
    have hs : ∀ j : Nat, (∀ i : Int, 0 ≤ i → i < j → p i = true → -2000000000 ≤ ρ i ∧ ρ i ≤ 2000000000) → -2000000000 * j ≤ sP p ρ j ∧ sP p ρ j ≤ 2000000000 * j := by
      intro j
      induction j with
      | zero => intro _; exact ⟨Int.le_refl 0, Int.le_refl 0⟩
      | succ j ih =>
        intro hh
        have h1 := ih (fun i h0 h1 => hh i h0 (by omega))
        have h2 := hh j (by omega) (by omega)
        unfold sP
        split
        · rename_i hp; have := h2 hp; omega
        · omega
    have hgl : ∀ j : Nat, (∀ i : Int, 0 ≤ i → i < j → p i = true → -2000000000 ≤ ρ i ∧ ρ i ≤ 2000000000) → (nP p j = 0 ∧ gP p ρ j = -2147483648 ∧ lP p ρ j = -2147483648) ∨ (0 < nP p j ∧ (-2000000000 ≤ gP p ρ j ∧ gP p ρ j ≤ 2000000000) ∧ (-2000000000 ≤ lP p ρ j ∧ lP p ρ j ≤ 2000000000)) := by
      intro j
      induction j with
      | zero => intro _; exact Or.inl ⟨rfl, rfl, rfl⟩
      | succ j ih =>
        intro hh
        have h1 := ih (fun i h0 h1 => hh i h0 (by omega))
        have h2 := hh j (by omega) (by omega)
        have h3 := nP_b p j
        unfold nP gP lP
        by_cases hp : p j = true
        · have := h2 hp
          simp only [hp, true_and, if_true]
          right
          refine ⟨by omega, ?_, ?_⟩
          · split <;> omega
          · split <;> omega
        · simp only [hp, false_and, if_false]
          simpa using h1
    have b1 := hs j hr
    have b2 := hgl j hr
    have b3 := nP_b p j
    obtain ⟨h0, h1, h2, h3, h4⟩ := h
    refine ⟨⟨?_, ?_, ?_, ?_, ?_⟩, fun c k hc => by simp [vu_ap, hc]⟩
    · simp only [vu_ap, sP, hp', hx, h0, if_true]
      rw [w64_e (z := ρ j * 1) (by omega), Int.mul_one]
      simp
      rw [w64_e (by omega)]
    · simp only [vu_ap, nP, hp', h1, if_true]
      simp
      rw [w32_e (by omega)]
    · simp only [vu_ap, nP, hp', h2, if_true]
      simp
      rw [w32_e (by omega)]
    · simp only [vu_ap, gP, hp', h2, h3, if_true, true_and]
      simp only [iMax]
      simp
      rw [← hx]
      by_cases h00 : nP p j = 0
      · simp only [h00, if_true]
        rw [if_pos (by omega)]
      · simp only [h00, if_false]
    · simp only [vu_ap, lP, hp', h2, h4, if_true, true_and]
      simp only [iMin]
      simp
      rw [← hx]
      by_cases h00 : nP p j = 0
      · simp only [h00, if_true]
        rw [if_pos (by omega)]
      · simp only [h00, if_false]
        have : ¬ lP p ρ j = -2147483648 := by omega
        simp [this]
/-- within a span of time -/
def wi (U D from_ to_ : Int) (i : Int) : Bool := decide (from_ ≤ (D - i) * U - U ∧ (D - i) * U ≤ to_)
def wk (U D from_ to_ : Int) (ρ : Int → Int) (i : Int) : Bool := wi U D from_ to_ i && !decide (ρ i = -2147483648)
theorem Qf.ty {u : QV} (h : Qf b P v w) (hq : ∀ c k, c ≠ b + 888 → u c k = w c k) : Qf b P v u := fun c k h1 h2 h3 h4 => (hq c k h1).trans (h c k h1 h2 h3 h4)
theorem q_tallyWithin (h : RC S v b P s) {a m f t : Int} (ha : 0 ≤ a ∧ a < v P 2) (hm : 0 ≤ m ∧ m < v P 1) (hr : ∀ i, 0 ≤ i → i < cK v P s a → tv (cR v P s a m i)) :
    wM mX11_tallyWithin [b, a, m, f, t] S v (fun r w => r = nP (wi (cU v P a) (cD v P s a) f t) (cK v P s a).toNat ∧ Qf b P v w ∧ Ty w (b + 888) (wk (cU v P a) (cD v P s a) f t (cR v P s a m)) (cR v P s a m) (cK v P s a).toNat) := by
  have hk := cK_b h ha
  have hd := cD_b h ha
  have ha4 : a < 4 := by have := h.2.2.2.2.2.2.2.1; omega
  have hP := h.2.2.1
  generalize hK : cK v P s a = K at *
  generalize hU : cU v P a = U at *
  generalize hD : cD v P s a = D at *
  simp only [mX11_tallyWithin, sX11_tallyWithin, wE_I, wE_V, wE_F, wE_A, wE_N, wE_1, wE_2, wE_D, wE_B, wE_If, wE_C, wE_CV, wE_SL, wE_SA, wA_0, wA_1, wC_B, wC_E, wC_And, wC_Or, wC_Not, wS_Skip, wS_Brk, wS_Cnt, wS_RetV, wS_Ret, wS_Seq, wS_Set, wS_Inc, wS_Do, wS_Put, wS_PutC, wS_Arr, wS_ArrC, wS_If, wS_Sw, wS_F0, wS_F1, wM_q, lu_ap, aL_ap, ct_0, ct_1, ct_2, ct_3, ct_4, ct_5, headD_1, List.mem_cons, List.not_mem_nil, or_false, false_or, or_true, true_or, true_and, and_true, false_and, and_false, not_true_eq_false, not_false_eq_true, if_true, if_false, nr_20, nr_24, nr_40, nr_41, nr_44, pt_lt, pt_ge, pt_eq, pt_ne, pt_gt, pt_le, pt_E, pt_N, pt_F, ite_10, ite_11, ne_eq, and_self, or_self, decide_true, decide_false, Bool.not_true, Bool.not_false, Bool.false_eq_true, Nat.reduceEqDiff, Nat.reduceAdd, Int.reduceEq, Int.reduceLT, Int.reduceLE, Int.reduceNeg, Int.reduceAdd, Int.reduceSub, Int.reduceMul, reduceCtorEq, iA, iS, iM, iD, iR, iN, lA, lS, lM, lD, lR, h.1.k, h.1.p13, h.1.y, wM_of (q_keptRows h ha), hK]
  refine wM_mono (Ty.clear h.1.y (wk U D f t (cR v P s a m)) (cR v P s a m)) ?_
  rintro - w0 - ⟨hT0, hq0⟩
  refine wS_For K.toNat (fun j M w => (M 0 = b ∧ M 1 = a ∧ M 2 = m ∧ M 3 = f ∧ M 4 = t ∧ M 5 = K ∧ M 6 = nP (wi U D f t) j ∧ M 7 = j) ∧ Qf b P v w ∧ Ty w (b + 888) (wk U D f t (cR v P s a m)) (cR v P s a m) j) (by omega) ?_ ?_ ?_
  · refine ⟨?_, Qf.rf.ty hq0, hT0⟩
    simp [lu_ap, aL_ap, ct_0, ct_2, nP]
  · rintro j M w hj ⟨⟨m0, m1, m2, m3, m4, m5, m6, m7⟩, hq, hT⟩
    have hw := h.keep hq
    have eP : ∀ k, w P k = v P k := fun k => hq _ _ (by omega) (by omega) (by omega) (by omega)
    have eU : cU w P a = U := (cU_keep h hq ha.1 ha4).trans hU
    have eD : cD w P s a = D := (cD_keep h hq ha.1 ha4).trans hD
    have eK : cK w P s a = K := (cK_keep h hq ha.1 ha4).trans hK
    have eR : cR w P s a m j = cR v P s a m j := cR_keep h hq ha.1 ha4
    have haw : 0 ≤ a ∧ a < w P 2 := by rw [eP]; exact ha
    have hmw : 0 ≤ m ∧ m < w P 1 := by rw [eP]; exact hm
    have hjD : 0 ≤ (j : Int) ∧ (j : Int) ≤ cD w P s a := by rw [eD]; omega
    have hjK : 0 ≤ (j : Int) ∧ (j : Int) < K := by omega
    simp only [cX11_tallyWithin_1, bX11_tallyWithin_1, uX11_tallyWithin_1, wE_I, wE_V, wE_F, wE_A, wE_N, wE_1, wE_2, wE_D, wE_B, wE_If, wE_C, wE_CV, wE_SL, wE_SA, wA_0, wA_1, wC_B, wC_E, wC_And, wC_Or, wC_Not, wS_Skip, wS_Brk, wS_Cnt, wS_RetV, wS_Ret, wS_Seq, wS_Set, wS_Inc, wS_Do, wS_Put, wS_PutC, wS_Arr, wS_ArrC, wS_If, wS_Sw, wS_F0, wS_F1, wM_q, lu_ap, aL_ap, ct_0, ct_1, ct_2, ct_3, ct_4, ct_5, headD_1, List.mem_cons, List.not_mem_nil, or_false, false_or, or_true, true_or, true_and, and_true, false_and, and_false, not_true_eq_false, not_false_eq_true, if_true, if_false, nr_20, nr_24, nr_40, nr_41, nr_44, pt_lt, pt_ge, pt_eq, pt_ne, pt_gt, pt_le, pt_E, pt_N, pt_F, ite_10, ite_11, ne_eq, and_self, or_self, decide_true, decide_false, Bool.not_true, Bool.not_false, Bool.false_eq_true, Nat.reduceEqDiff, Nat.reduceAdd, Int.reduceEq, Int.reduceLT, Int.reduceLE, Int.reduceNeg, Int.reduceAdd, Int.reduceSub, Int.reduceMul, reduceCtorEq, iA, iS, iM, iD, iR, iN, lA, lS, lM, lD, lR, hw.1.k, hw.1.p13, hw.1.y, m0, m1, m2, m3, m4, m5, m6, m7, wM_of (q_rowBegin hw haw hjD), wM_of (q_rowEnd hw haw hjD), wM_of (q_rowTold hw haw hmw), eU, eD, eK, eR, hjK, w32_s (show j < 1000 by omega), w32_n (wi U D f t) (show j < 1000 by omega)]
    by_cases h1 : f ≤ (D - j) * U - U ∧ (D - j) * U ≤ t
    · have hwi : wi U D f t j = true := by simp [wi, h1]
      simp only [h1, if_true, nP, hwi]
      refine wM_mono (Ty.add hw.1.y hT rfl (by omega) (by simp [wk, hwi]) ?_ ?_) ?_
      · intro i h2 h3 h4
        have := hr i h2 (by omega)
        simp [wk] at h4
        unfold tv at this
        omega
      · intro h4
        have := hr j (by omega) (by omega)
        simp [wk] at h4
        unfold tv at this
        omega
      · rintro - w' - ⟨hT', hq'⟩
        exact ⟨trivial, hq.ty hq', hT'⟩
    · have hwi : ¬ wi U D f t j = true := by simpa [wi] using h1
      have hwk : ¬ wk U D f t (cR v P s a m) j = true := by simp [wk, hwi]
      have hN : nP (wi U D f t) (j + 1) = nP (wi U D f t) j := by simp only [nP, hwi, if_false]; simp
      by_cases h2 : f ≤ (D - j) * U - U
      · have h3 : ¬ (D - j) * U ≤ t := fun q => h1 ⟨h2, q⟩
        simp only [h2, h3, if_true, if_false, hN]
        exact ⟨trivial, hq, hT.no hwk⟩
      · simp only [h2, if_false, hN]
        exact ⟨trivial, hq, hT.no hwk⟩
  · rintro M w ⟨⟨m0, m1, m2, m3, m4, m5, m6, m7⟩, hq, hT⟩
    simp only [cX11_tallyWithin_1, wE_I, wE_V, wE_F, wE_A, wE_N, wE_1, wE_2, wE_D, wE_B, wE_If, wE_C, wE_CV, wE_SL, wE_SA, wA_0, wA_1, wC_B, wC_E, wC_And, wC_Or, wC_Not, wS_Skip, wS_Brk, wS_Cnt, wS_RetV, wS_Ret, wS_Seq, wS_Set, wS_Inc, wS_Do, wS_Put, wS_PutC, wS_Arr, wS_ArrC, wS_If, wS_Sw, wS_F0, wS_F1, wM_q, lu_ap, aL_ap, ct_0, ct_1, ct_2, ct_3, ct_4, ct_5, headD_1, List.mem_cons, List.not_mem_nil, or_false, false_or, or_true, true_or, true_and, and_true, false_and, and_false, not_true_eq_false, not_false_eq_true, if_true, if_false, nr_20, nr_24, nr_40, nr_41, nr_44, pt_lt, pt_ge, pt_eq, pt_ne, pt_gt, pt_le, pt_E, pt_N, pt_F, ite_10, ite_11, ne_eq, and_self, or_self, decide_true, decide_false, Bool.not_true, Bool.not_false, Bool.false_eq_true, Nat.reduceEqDiff, Nat.reduceAdd, Int.reduceEq, Int.reduceLT, Int.reduceLE, Int.reduceNeg, Int.reduceAdd, Int.reduceSub, Int.reduceMul, reduceCtorEq, iA, iS, iM, iD, iR, iN, lA, lS, lM, lD, lR, m5, m6, m7]
    exact ⟨by omega, hq, hT⟩
end CT
