/-! THE LAW'S START: what the tables say of the machine -/
section WK0
variable {s : State} {args : Array Value}
theorem kn_one (hts : ∀ w ∈ TW, w.before args s = true) {ci N n : Nat} {C : String} {T : u_T} {ty : Nat → FieldType} (h : CI ci C T N ty) (hz : Cond.instantiable C n ∈ TW) : ∃ q : ClassId × (Nat → Nat), ∀ r, vwCl[ci]? = some r → u_Kn s r.1 r.2.1 r.2.2 q.1 q.2 := by
  obtain ⟨cC, iS, hk⟩ := u_known hts h.2.2.1 (hts _ hz)
  refine ⟨(cC, iS), fun r hr => ?_⟩
  rw [h.1] at hr
  cases hr
  exact hk
theorem kn_all (hts : ∀ w ∈ TW, w.before args s = true) : ∀ c : Nat, ∃ q : ClassId × (Nat → Nat), ∀ r, vwCl[c]? = some r → u_Kn s r.1 r.2.1 r.2.2 q.1 q.2
  | 0 => kn_one hts ci_0 kz_X0
  | 1 => kn_one hts ci_1 kz_X1
  | 2 => kn_one hts ci_2 kz_X2
  | 3 => kn_one hts ci_3 kz_X3
  | 4 => kn_one hts ci_4 kz_X4
  | 5 => kn_one hts ci_5 kz_X5
  | 6 => kn_one hts ci_6 kz_X6
  | 7 => kn_one hts ci_7 kz_X7
  | 8 => kn_one hts ci_8 kz_X8
  | 9 => kn_one hts ci_9 kz_X9
  | 10 => kn_one hts ci_10 kz_X10
  | 11 => kn_one hts ci_11 kz_X11
  | 12 => kn_one hts ci_12 kz_X12
  | c + 13 => ⟨(0, fun _ => 0), fun r hr => by simp [vwCl] at hr⟩
theorem ar_p {t : FieldType} (ht : ∀ C, t ≠ .object C) (h : (Cond.arrayClass t).before args s = true) : ∃ cA, ArrOfT s cA t ∧ va_RA s cA t := by
  obtain ⟨cA, k, comp, h1, h2, h3⟩ := Cond.arrayClass_spec h
  refine ⟨cA, fun n z => ⟨fun k h => (by cases h), k, h2, comp, h3⟩, ?_⟩
  cases t with
  | object C => exact absurd rfl (ht C)
  | _ => exact h1
theorem ar_o {C : String} (h : (Cond.arrayOver (.object C)).before args s = true) : ∃ cA, ArrOfT s cA (.object C) ∧ va_RA s cA (.object C) := by
  obtain ⟨comp, cA, k, h1, h2, h3, h4, h5⟩ := Cond.arrayOver_spec h
  exact ⟨cA, fun n z => ⟨fun k h => (by cases h), k, h3, comp, h4⟩, k, comp, h3, h4, h1, h5⟩
theorem ar_all (hts : ∀ w ∈ lw_tbl, w.before args s = true) : ∀ κ ∈ kL, ∃ cA, ArrOfT s cA (aT κ) ∧ va_RA s cA (aT κ) := by
  have hT : ∀ w ∈ TW, w.before args s = true := fun w h => hts w (tw_all w h)
  have pI : ∃ cA, ArrOfT s cA .int ∧ va_RA s cA .int := ar_p (fun C h => by cases h) (hT _ ka_arrayClass_1_55)
  have pZ : ∃ cA, ArrOfT s cA .boolean ∧ va_RA s cA .boolean := ar_p (fun C h => by cases h) (hT _ ka_arrayClass_2_124)
  have pC : ∃ cA, ArrOfT s cA .char ∧ va_RA s cA .char := ar_p (fun C h => by cases h) (hT _ ka_arrayClass_1_54)
  have pB : ∃ cA, ArrOfT s cA .byte ∧ va_RA s cA .byte := ar_p (fun C h => by cases h) (hT _ ka_arrayClass_4_17)
  have pL : ∃ cA, ArrOfT s cA .long ∧ va_RA s cA .long := ar_p (fun C h => by cases h) (hT _ ka_arrayClass_6_191)
  intro κ hκ
  rcases List.mem_cons.mp hκ with rfl | hκ
  · exact pI
  rcases List.mem_cons.mp hκ with rfl | hκ
  · exact pC
  rcases List.mem_cons.mp hκ with rfl | hκ
  · exact pZ
  rcases List.mem_cons.mp hκ with rfl | hκ
  · exact ar_o (C := RX0) (hts _ ka_arrayOver_1_104)
  rcases List.mem_cons.mp hκ with rfl | hκ
  · exact ar_o (C := RX2) (hts _ ka_arrayOver_1_102)
  rcases List.mem_cons.mp hκ with rfl | hκ
  · exact ar_o (C := RX3) (hts _ ka_arrayOver_2_33)
  rcases List.mem_cons.mp hκ with rfl | hκ
  · exact ar_o (C := RX4) (hts _ ka_arrayOver_2_35)
  rcases List.mem_cons.mp hκ with rfl | hκ
  · exact ar_o (C := RX7) (hts _ ka_arrayOver_2_37)
  rcases List.mem_cons.mp hκ with rfl | hκ
  · exact ar_o (C := RX8) (hts _ ka_arrayOver_2_26)
  rcases List.mem_cons.mp hκ with rfl | hκ
  · exact ar_o (C := RX9) (hts _ ka_arrayOver_2_131)
  rcases List.mem_cons.mp hκ with rfl | hκ
  · exact pI
  rcases List.mem_cons.mp hκ with rfl | hκ
  · exact pL
  rcases List.mem_cons.mp hκ with rfl | hκ
  · exact pB
  rcases List.mem_cons.mp hκ with rfl | hκ
  · exact pZ
  · cases hκ
theorem ao_all (hts : ∀ w ∈ lw_tbl, w.before args s = true) : ∀ C ∈ objL, va_AO C s := by
  intro C hC
  rcases List.mem_cons.mp hC with rfl | hC
  · exact va_AO.of (hts _ ka_arrayOver_1_102)
  rcases List.mem_cons.mp hC with rfl | hC
  · exact va_AO.of (hts _ ka_arrayOver_1_104)
  rcases List.mem_cons.mp hC with rfl | hC
  · exact va_AO.of (hts _ ka_arrayOver_2_26)
  rcases List.mem_cons.mp hC with rfl | hC
  · exact va_AO.of (hts _ ka_arrayOver_2_33)
  rcases List.mem_cons.mp hC with rfl | hC
  · exact va_AO.of (hts _ ka_arrayOver_2_35)
  rcases List.mem_cons.mp hC with rfl | hC
  · exact va_AO.of (hts _ ka_arrayOver_2_37)
  rcases List.mem_cons.mp hC with rfl | hC
  · exact va_AO.of (hts _ ka_arrayOver_2_131)
  · cases hC
theorem nest_all (hts : ∀ w ∈ lw_tbl, w.before args s = true) : ∀ q ∈ nestL, va_Nw (.methodLinkNest q.1 q.2.1 q.2.2.1 q.2.2.2) s := by
  have h : ∀ q ∈ nestL, Cond.methodLinkNest q.1 q.2.1 q.2.2.1 q.2.2.2 ∈ lw_tbl := List.forall_mem_cons.mpr ⟨kx_X11_11, List.forall_mem_cons.mpr ⟨kx_X11_18, List.forall_mem_cons.mpr ⟨kx_X6_29, List.forall_mem_cons.mpr ⟨kx_X6_34, List.forall_mem_cons.mpr ⟨kx_X6_35, List.forall_mem_cons.mpr ⟨kx_X8_29, List.forall_mem_cons.mpr ⟨kx_X8_30, List.forall_mem_cons.mpr ⟨kx_X7_21, List.forall_mem_cons.mpr ⟨kx_X11_57, List.forall_mem_cons.mpr ⟨kx_X3_69, List.forall_mem_cons.mpr ⟨kx_X8_74, List.forall_mem_cons.mpr ⟨kx_X8_87, List.forall_mem_cons.mpr ⟨kx_X3_97, List.forall_mem_cons.mpr ⟨kx_X4_54, List.forall_mem_cons.mpr ⟨kx_X1_65, fun _ h => absurd h List.not_mem_nil⟩⟩⟩⟩⟩⟩⟩⟩⟩⟩⟩⟩⟩⟩⟩
  exact fun q hq => va_Nw.of rfl (hts _ (h q hq))
abbrev tmS : Term := Term.string "RoundRows$Tape" 57
abbrev tmV : Term := Term.field tmS "java/lang/String" "value" "[B"
set_option maxRecDepth 100000 in
theorem str_all (hts : ∀ w ∈ lw_tbl, w.before args s = true) (hgv : (Jvm.Cond.and given_1 narrow_1).before args s = true) : StrK (fun q => s.heap.size ≤ q) s := by
  have hT : ∀ w ∈ TW, w.before args s = true := fun w h => hts w (tw_all w h)
  have hs := flat_of_before _ hgv
  have hA : ∀ a : Nat, a < s.heap.size → ¬ s.heap.size ≤ a := fun a h => Nat.not_le.mpr h
  have e1 : (Cond.exactly tmS "java/lang/String").before args s = true := hs _ (by decide +kernel)
  have e2 : (Cond.eq (.field tmS "java/lang/String" "coder" "B") (.int 0)).before args s = true := hs _ (by decide +kernel)
  have e3 : (Cond.arrayOf tmV .byte).before args s = true := hs _ (by decide +kernel)
  have e4 : (Cond.eq (.length tmV) (.int 111)).before args s = true := hs _ (by decide +kernel)
  have e5 : ∀ j : Nat, j < 111 → (Cond.eq (.elem tmV (.int (Int32.ofNat j))) (.int (([115, 116, 101, 112, 32, 109, 101, 97, 115, 117, 114, 101, 32, 103, 97, 117, 103, 101, 32, 97, 109, 111, 117, 110, 116, 32, 99, 111, 117, 110, 116, 101, 114, 32, 115, 105, 108, 101, 110, 99, 101, 32, 108, 101, 97, 115, 116, 32, 109, 111, 115, 116, 32, 97, 114, 99, 104, 105, 118, 101, 32, 109, 101, 97, 110, 32, 108, 97, 116, 101, 115, 116, 32, 98, 121, 32, 115, 104, 97, 114, 101, 32, 102, 111, 114, 101, 99, 97, 115, 116, 32, 115, 101, 97, 115, 111, 110, 32, 98, 97, 110, 100, 32, 115, 104, 111, 119, 32, 111, 114, 32] : List Int32).getD j 0))) ∈ flatC (Jvm.Cond.and given_1 narrow_1) := by decide +kernel
  have e6 : (Cond.eq (.static "java/lang/String" "COMPACT_STRINGS" "Z") (.int 1)).before args s = true := hs _ (by decide +kernel)
  have e7 : (Cond.isRef (.static "jdk/internal/util/Preconditions" "SIOOBE_FORMATTER" "Ljava/util/function/BiFunction;")).before args s = true := hs _ (by decide +kernel)
  obtain ⟨adK, adV, h1, h2⟩ := vk_Sof (args := args) (s := s) (N := 1) (tm := fun _ => tmS) (len := [111]) (byt := [[115, 116, 101, 112, 32, 109, 101, 97, 115, 117, 114, 101, 32, 103, 97, 117, 103, 101, 32, 97, 109, 111, 117, 110, 116, 32, 99, 111, 117, 110, 116, 101, 114, 32, 115, 105, 108, 101, 110, 99, 101, 32, 108, 101, 97, 115, 116, 32, 109, 111, 115, 116, 32, 97, 114, 99, 104, 105, 118, 101, 32, 109, 101, 97, 110, 32, 108, 97, 116, 101, 115, 116, 32, 98, 121, 32, 115, 104, 97, 114, 101, 32, 102, 111, 114, 101, 99, 97, 115, 116, 32, 115, 101, 97, 115, 111, 110, 32, 98, 97, 110, 100, 32, 115, 104, 111, 119, 32, 111, 114, 32]]) (A := fun q => s.heap.size ≤ q)
    (fun i hi => by obtain rfl : i = 0 := by omega
                    decide) (fun _ _ => e1) (fun _ _ => e2) (fun _ _ => e3)
    (fun i hi => by obtain rfl : i = 0 := by omega
                    exact e4)
    (fun i hi j hj => by obtain rfl : i = 0 := by omega
                         exact hs _ (e5 j hj))
    (fun i j hi hj h => absurd (show i = j by omega) h) hA
  exact ⟨adK, adV, h1, vk_R.of (hts _ kw_stringRef_3_37) (h2 0 (by decide)), va_Zof (hts _ kw_laysStatic_3_47) (hT _ kn_J0) (va_eqt e6) hA, va_Zqof (hts _ kw_laysStatic_3_63) (hT _ kn_J3) e7 hA⟩
theorem wk_start {b L : Nat} {xs : Nat → Int32} (hts : ∀ w ∈ lw_tbl, w.before args s = true) (hX : va_X b L xs s s.heap) (hgv : (Jvm.Cond.and given_1 narrow_1).before args s = true) : ∃ D cy, WK D cy (fun q => s.heap.size ≤ q) s ∧ ∃ scr : Cell, s.heap[b]? = some scr ∧ scr.cls = cy 14 ∧ (∀ k, scr.vm ≠ .statics k) ∧ scr.vm ≠ .unknown ∧ scr.slots.size = L ∧ ∀ j : Nat, j < L → scr.slots[j]? = some (.int (xs j)) := by
  obtain ⟨scr, x1, ⟨x2, kA, x3, comp, x4⟩, x5, x6, x7⟩ := hX
  obtain ⟨d, hd⟩ := Classical.axiomOfChoice (kn_all (s := s) (args := args) (fun w h => hts w (tw_all w h)))
  have h0 : ∀ κ : Nat, ∃ cA : ClassId, κ ∈ kL → ArrOfT s cA (aT κ) ∧ va_RA s cA (aT κ) := fun κ => by
    by_cases h : κ ∈ kL
    · obtain ⟨cA, hc⟩ := ar_all hts κ h
      exact ⟨cA, fun _ => hc⟩
    · exact ⟨0, fun x => absurd x h⟩
  obtain ⟨g, hg⟩ := Classical.axiomOfChoice h0
  have n14 : ∀ κ ∈ kL, ¬ κ = 14 := by decide
  refine ⟨(fun c => (d c).1, fun c => (d c).2), fun κ => if κ = 14 then scr.cls else g κ, ⟨⟨hd, fun k q hk => ?_⟩, nest_all hts, str_all hts hgv, ?_, ao_all hts⟩, scr, x1, (if_pos rfl).symm, x2, x5, x6, x7⟩
  · obtain ⟨κ, hκ, rfl⟩ := List.mem_map.mp (List.mem_of_getElem? hk)
    show ArrOfT s (if κ = 14 then scr.cls else g κ) (aT κ) ∧ va_RA s (if κ = 14 then scr.cls else g κ) (aT κ)
    rw [if_neg (n14 κ hκ)]
    exact hg κ hκ
  · show ArrOfT s (if 14 = 14 then scr.cls else g 14) .int
    rw [if_pos rfl]
    exact fun n z => ⟨fun k h => (by cases h), kA, x3, comp, x4⟩
end WK0
