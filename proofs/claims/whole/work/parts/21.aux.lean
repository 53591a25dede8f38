/-! small rows for the printed proofs -/
theorem irn {n : Int} (h1 : -2147483648 ≤ n) (h2 : n < 2147483648) : ir 0 n := ⟨h1, h2⟩
theorem irn4 {n : Int} (h1 : -128 ≤ n) (h2 : n < 128) : ir 4 n := ⟨h1, h2⟩
theorem t_0 : 0 = 0 ∨ 0 = 3 ∨ 0 = 4 ∨ 0 = 5 := Or.inl rfl
theorem t_3 : 3 = 0 ∨ 3 = 3 ∨ 3 = 4 ∨ 3 = 5 := Or.inr (Or.inl rfl)
theorem t_4 : 4 = 0 ∨ 4 = 3 ∨ 4 = 4 ∨ 4 = 5 := Or.inr (Or.inr (Or.inl rfl))
theorem t_5 : 5 = 0 ∨ 5 = 3 ∨ 5 = 4 ∨ 5 = 5 := Or.inr (Or.inr (Or.inr rfl))
theorem nq_eq (x y : Int) : qne x y = !qeq x y := rfl
theorem nq_ne (x y : Int) : qeq x y = !qne x y := by simp [qeq, qne]
theorem nq_lt (x y : Int) : qge x y = !qlt x y := rfl
theorem nq_ge (x y : Int) : qlt x y = !qge x y := by simp [qlt, qge]
theorem nq_gt (x y : Int) : qle x y = !qgt x y := rfl
theorem nq_le (x y : Int) : qgt x y = !qle x y := by simp [qgt, qle]
theorem ok_zconst {Y : YT} {Γ : List (Nat × Nat)} {d pc : Nat} {E : List Nat} {n : Int} (hd : decode Y.2.1 pc = .ok (.iconst n, 1)) (hE : pc + 1 ∈ E) (hn : 0 ≤ n ∧ n ≤ 1) : OkE Y Γ d 3 pc E (eI n) := by
  intro Z hC L S v r st hf hdd hk
  cases hf
  have hk := hk hn _ hE
  obtain ⟨p, l, e, R, s, m, args, below, meth, c, D, cy, A, H0, Q, cells, slots⟩ := Z
  obtain ⟨hx, hb, -⟩ := hC
  intro H locs ls h1 h2 h3
  exact lv_iconst hx hb hd rfl (hk H locs ls h1 h2 h3)
/-- the text of the words, by its signs -/
def wdL : List Int := [115, 116, 101, 112, 32, 109, 101, 97, 115, 117, 114, 101, 32, 103, 97, 117, 103, 101, 32, 97, 109, 111, 117, 110, 116, 32, 99, 111, 117, 110, 116, 101, 114, 32, 115, 105, 108, 101, 110, 99, 101, 32, 108, 101, 97, 115, 116, 32, 109, 111, 115, 116, 32, 97, 114, 99, 104, 105, 118, 101, 32, 109, 101, 97, 110, 32, 108, 97, 116, 101, 115, 116, 32, 98, 121, 32, 115, 104, 97, 114, 101, 32, 102, 111, 114, 101, 99, 97, 115, 116, 32, 115, 101, 97, 115, 111, 110, 32, 98, 97, 110, 100, 32, 115, 104, 111, 119, 32, 111, 114, 32]
def eSL : QE := fun _ _ v => some (111, v)
def eSA (i : QE) : QE := fun L S v => (i L S v).bind fun r => if 0 ≤ r.1 ∧ r.1 < 111 then some (wdL.getD r.1.toNat 0, r.2) else none

/-! THE STRING of the words: length, charAt, with the JDK's own methods walked -/
abbrev strB : List (List Int32) := [[115, 116, 101, 112, 32, 109, 101, 97, 115, 117, 114, 101, 32, 103, 97, 117, 103, 101, 32, 97, 109, 111, 117, 110, 116, 32, 99, 111, 117, 110, 116, 101, 114, 32, 115, 105, 108, 101, 110, 99, 101, 32, 108, 101, 97, 115, 116, 32, 109, 111, 115, 116, 32, 97, 114, 99, 104, 105, 118, 101, 32, 109, 101, 97, 110, 32, 108, 97, 116, 101, 115, 116, 32, 98, 121, 32, 115, 104, 97, 114, 101, 32, 102, 111, 114, 101, 99, 97, 115, 116, 32, 115, 101, 97, 115, 111, 110, 32, 98, 97, 110, 100, 32, 115, 104, 111, 119, 32, 111, 114, 32]]
def StrT (adK adV : Nat → Nat) (A : Nat → Prop) (U : State) : Prop := vk_S 1 [111] strB adK adV A U U.heap ∧ va_Z "java/lang/String" "COMPACT_STRINGS" "Z" (.int 1) A U U.heap ∧ va_Zq "jdk/internal/util/Preconditions" "SIOOBE_FORMATTER" "Ljava/util/function/BiFunction;" A U U.heap
theorem StrT.moved {adK adV : Nat → Nat} {A : Nat → Prop} {s U : State} (h : StrT adK adV A s) (hW : s.WarmedH U.vm) (hq : ∀ a : Nat, a < s.heap.size → ¬ A a → U.heap[a]? = s.heap[a]?) : StrT adK adV A U := by
  obtain ⟨h3, h5, h6⟩ := h
  exact ⟨(vk_S.moved hW.alike h3).kept hq, (va_Z.moved hW.alike h5).kept hq, (va_Zq.moved hW.alike h6).kept hq⟩
theorem StrT.same {adK adV : Nat → Nat} {A : Nat → Prop} {s U : State} (h : StrT adK adV A s) (hv : U.vm = s.vm) (hh : U.heap = s.heap) : StrT adK adV A U := by
  obtain ⟨h3, h5, h6⟩ := h
  have hA : s.vm.Alike U.vm := by rw [hv]; exact Vm.Alike.refl _
  have hq : ∀ a : Nat, a < s.heap.size → ¬ A a → U.heap[a]? = s.heap[a]? := fun a _ _ => by rw [hh]
  exact ⟨(vk_S.moved hA h3).kept hq, (va_Z.moved hA h5).kept hq, (va_Zq.moved hA h6).kept hq⟩
def PreT (adK adV : Nat → Nat) (D : va_G) (cy : Nat → ClassId) (A : Nat → Prop) (S : QS) (v : QV) : State → Prop := fun U => hpOk D cy A S v U.heap ∧ StrT adK adV A U ∧ ∀ q, U.heap.size ≤ q → A q
theorem preT_blind {adK adV : Nat → Nat} {D : va_G} {cy : Nat → ClassId} {A : Nat → Prop} {S : QS} {v : QV} {av : List Value} : FrameBlind (va_Pc av (PreT adK adV D cy A S v)) := fun a U g mk q => ⟨q.1, q.2.1, q.2.2.1.same (s := U) (U := U.calling g mk a) rfl rfl, q.2.2.2⟩
theorem preT_at {adK adV : Nat → Nat} {D : va_G} {cy : Nat → ClassId} {A : Nat → Prop} {S : QS} {v : QV} {av : List Value} {s U : State} {H : Heap} {locs : List Loc} (hP : hpOk D cy A S v H) (hW : StrT adK adV A s) (hA : ∀ q, s.heap.size ≤ q → A q) (hS : va_S A s.heap H locs) (hU : U.heap = H) (hw : s.WarmedH U.vm) : va_Pc av (PreT adK adV D cy A S v) av.toArray U :=
  ⟨rfl, by rw [hU]; exact hP, hW.moved hw (fun a h1 h2 => by rw [hU]; exact hS.2.1 a h1 h2), fun q hq => hA q (Nat.le_trans hS.1 (by rw [← hU]; exact hq))⟩
/-- what stands around a JDK method's code -/
def ST (y : MethodName) (cc : ByteArray) (n fr lo : Nat) (ret : Option FieldType) (adK adV : Nat → Nat) (D : va_G) (cy : Nat → ClassId) (A : Nat → Prop) (S : QS) (v : QV) (p : Program) (R : Room) (s : State) (m : MethodId) (args : Array Value) (meth : Method) (c : Code) : Prop :=
  p.tables.exec = Jvm.exec ∧ c.code = cc ∧ c.maxLocals = n ∧ s.vm.findClass y.cls = some m.cls ∧ (∀ w ∈ TW, w.before args s = true) ∧ fr ≤ R.frames ∧ lo ≤ R.locals ∧ meth.sig.returnType = ret ∧ meth.locks = false ∧ hpOk D cy A S v s.heap ∧ StrT adK adV A s ∧ ∀ q, s.heap.size ≤ q → A q
theorem metT {l : Launch} {y : MethodName} {cc : ByteArray} {n fr lo τ : Nat} {ret : Option FieldType} {adK adV : Nat → Nat} {D : va_G} {cy : Nat → ClassId} {A : Nat → Prop} {S : QS} {v : QV} {av : List Value} {z : Int} (hplain : plainName y.cls = true) (hlen : (lg_sl av).length ≤ n)
    (kk : ∀ (p : Program) (e : Env) (R : Room) (s : State) (m : MethodId) (below : List Frame) (meth : Method) (c : Code) (ls : Array Slot), ST y cc n fr lo ret adK adV D cy A S v p R s m av.toArray meth c → lv_has ls n (lv_args 0 av) →
      W p l e R s m av.toArray below meth c s.heap [] 0 0 (MQ below (QcB D cy A τ S (z, v)) av.toArray s 0 0 A) (F0 m 0 ls [])) :
    Met l y (Cond.code y cc n ret :: TW) { frames := fr, cells := 0, slots := 0, locals := lo } (va_Pc av (PreT adK adV D cy A S v)) (QcB D cy A τ S (z, v)) 0 0 A := by
  refine Met.ofW (cc := cc) (maxL := n) (ret := ret) hplain rfl ?_
  intro p e s' m args below meth c s₁ B hml hv
  obtain ⟨rfl, hP, hW, hA⟩ := hv
  have hts := atoms_spec (ws := Cond.code y cc n ret :: TW) B.pre
  have hlocks := B.notSynchronized
  have hx := B.exec
  have hb := B.bytes
  have hr := B.returns
  rw [lg_entry_eq]
  have hl := lv_entry av (n := n) hlen
  generalize (lg_sl av ++ List.replicate (n - (lg_sl av).length) Slot.unset).toArray = ls at hl ⊢
  exact kk p e _ s' m below meth c ls ⟨hx, hb, hml, findClass_of_methodNamed B.named, fun w hw => hts w (List.mem_cons_of_mem _ hw), Nat.le_refl _, Nat.le_refl _, hr, hlocks, hP, hW, hA⟩ hl
section JDK
variable {l : Launch} {adK adV : Nat → Nat} {D : va_G} {cy : Nat → ClassId} {A : Nat → Prop} {S : QS} {v : QV}
theorem dS_coder_0 : decode cJ0_coder_7d493 0 = .ok (.getstatic 38, 3) := by decide +kernel
theorem dS_coder_3 : decode cJ0_coder_7d493 3 = .ok (.ifCond .eq 10, 3) := by decide +kernel
theorem dS_coder_6 : decode cJ0_coder_7d493 6 = .ok (.aload_n 0, 1) := by decide +kernel
theorem dS_coder_7 : decode cJ0_coder_7d493 7 = .ok (.getfield 15, 3) := by decide +kernel
theorem dS_coder_10 : decode cJ0_coder_7d493 10 = .ok (.goto 4, 3) := by decide +kernel
theorem dS_coder_14 : decode cJ0_coder_7d493 14 = .ok (.ireturn, 1) := by decide +kernel
theorem ir00 : ir 0 0 := irn (by decide) (by decide)
theorem ir01 : ir 0 1 := irn (by decide) (by decide)
theorem ir0b : ir 0 111 := irn (by decide) (by decide)
theorem st_coder : Met l yJ0_coder_7d493 (Cond.code yJ0_coder_7d493 cJ0_coder_7d493 1 (some .byte) :: TW) { frames := 0, cells := 0, slots := 0, locals := 0 } (va_Pc [.ref (adK 0)] (PreT adK adV D cy A S v)) (QcB D cy A 0 S (0, v)) 0 0 A := by
  refine metT rfl (Nat.le_refl 1) fun p e R s m below meth c ls hT hl => ?_
  obtain ⟨hx, hb, hml, ho, hts, -, -, hr, hlocks, hP, hW, hA⟩ := hT
  refine va_gets hx hb hW.2.1 va_S.rf ho (hts _ kf_J0_38) (fun x h => h) dS_coder_0 ?_
  refine lv_if_eq hx hb dS_coder_3 (tgt := 13) rfl (fun q => absurd q (by decide)) (fun _ => ?_)
  refine lv_aload_n hx hb dS_coder_6 rfl (lv_at hl 0 rfl) ?_
  refine vk_getf hx hb (hW.1.1 0 (by decide)).2.1 va_S.rf ho (hts _ kf_J0_15) (fun x h => h) dS_coder_7 ?_
  refine lv_goto hx hb dS_coder_10 (tgt := 14) rfl ?_
  exact W.zret hx hb hr rfl (fun t ht _ => ⟨rfl, ir00, by rw [ht]; exact hP, va_S.rf.F ht⟩) (fun q h => by cases h) dS_coder_14 hlocks
theorem dS_isL_0 : decode cJ0_isLatin1_aae02 0 = .ok (.getstatic 38, 3) := by decide +kernel
theorem dS_isL_3 : decode cJ0_isLatin1_aae02 3 = .ok (.ifCond .eq 14, 3) := by decide +kernel
theorem dS_isL_6 : decode cJ0_isLatin1_aae02 6 = .ok (.aload_n 0, 1) := by decide +kernel
theorem dS_isL_7 : decode cJ0_isLatin1_aae02 7 = .ok (.getfield 15, 3) := by decide +kernel
theorem dS_isL_10 : decode cJ0_isLatin1_aae02 10 = .ok (.ifCond .ne 7, 3) := by decide +kernel
theorem dS_isL_13 : decode cJ0_isLatin1_aae02 13 = .ok (.iconst 1, 1) := by decide +kernel
theorem dS_isL_14 : decode cJ0_isLatin1_aae02 14 = .ok (.goto 4, 3) := by decide +kernel
theorem dS_isL_18 : decode cJ0_isLatin1_aae02 18 = .ok (.ireturn, 1) := by decide +kernel
theorem st_isL : Met l yJ0_isLatin1_aae02 (Cond.code yJ0_isLatin1_aae02 cJ0_isLatin1_aae02 1 (some .boolean) :: TW) { frames := 0, cells := 0, slots := 0, locals := 0 } (va_Pc [.ref (adK 0)] (PreT adK adV D cy A S v)) (QcB D cy A 0 S (1, v)) 0 0 A := by
  refine metT rfl (Nat.le_refl 1) fun p e R s m below meth c ls hT hl => ?_
  obtain ⟨hx, hb, hml, ho, hts, -, -, hr, hlocks, hP, hW, hA⟩ := hT
  refine va_gets hx hb hW.2.1 va_S.rf ho (hts _ kf_J0_38) (fun x h => h) dS_isL_0 ?_
  refine lv_if_eq hx hb dS_isL_3 (tgt := 17) rfl (fun q => absurd q (by decide)) (fun _ => ?_)
  refine lv_aload_n hx hb dS_isL_6 rfl (lv_at hl 0 rfl) ?_
  refine vk_getf hx hb (hW.1.1 0 (by decide)).2.1 va_S.rf ho (hts _ kf_J0_15) (fun x h => h) dS_isL_7 ?_
  refine lv_if_ne hx hb dS_isL_10 (tgt := 17) rfl (fun q => absurd rfl q) (fun _ => ?_)
  refine lv_iconst hx hb dS_isL_13 rfl ?_
  refine lv_goto hx hb dS_isL_14 (tgt := 18) rfl ?_
  exact W.zret hx hb hr rfl (fun t ht _ => ⟨rfl, ir01, by rw [ht]; exact hP, va_S.rf.F ht⟩) (fun q h => by cases h) dS_isL_18 hlocks
theorem dS_ci3_0 : decode cJ3_checkIndex_8e157 0 = .ok (.iload_n 0, 1) := by decide +kernel
theorem dS_ci3_1 : decode cJ3_checkIndex_8e157 1 = .ok (.ifCond .lt 8, 3) := by decide +kernel
theorem dS_ci3_4 : decode cJ3_checkIndex_8e157 4 = .ok (.iload_n 0, 1) := by decide +kernel
theorem dS_ci3_5 : decode cJ3_checkIndex_8e157 5 = .ok (.iload_n 1, 1) := by decide +kernel
theorem dS_ci3_6 : decode cJ3_checkIndex_8e157 6 = .ok (.if_icmp .lt 10, 3) := by decide +kernel
theorem dS_ci3_16 : decode cJ3_checkIndex_8e157 16 = .ok (.iload_n 0, 1) := by decide +kernel
theorem dS_ci3_17 : decode cJ3_checkIndex_8e157 17 = .ok (.ireturn, 1) := by decide +kernel
theorem st_ci3 {i n : Int} {w : Value} (hw : w = .null ∨ ∃ t, w = .ref t) (hi : 0 ≤ i) (hin : i < n) (hn : ir 0 n) : Met l yJ3_checkIndex_8e157 (Cond.code yJ3_checkIndex_8e157 cJ3_checkIndex_8e157 3 (some .int) :: TW) { frames := 0, cells := 0, slots := 0, locals := 0 } (va_Pc [vo 0 i, vo 0 n, w] (PreT adK adV D cy A S v)) (QcB D cy A 0 S (i, v)) 0 0 A := by
  have hn2 : _ ∧ _ := hn
  have ii : ir 0 i := irn (by omega) (by omega)
  refine metT rfl (by rcases hw with rfl | ⟨t, rfl⟩ <;> exact Nat.le_refl 3) fun p e R s m below meth c ls hT hl => ?_
  obtain ⟨hx, hb, hml, ho, hts, -, -, hr, hlocks, hP, hW, hA⟩ := hT
  refine lv_iload_n hx hb dS_ci3_0 rfl (lv_at hl 0 rfl) ?_
  refine lv_if_lt hx hb dS_ci3_1 (tgt := 9) rfl (fun q => ?_) (fun _ => ?_)
  · exact absurd ((i_ltI (a := i) (b := 0) ii (irn (by decide) (by decide))).mp q) (by omega)
  refine lv_iload_n hx hb dS_ci3_4 rfl (lv_at hl 0 rfl) ?_
  refine lv_iload_n hx hb dS_ci3_5 rfl (lv_at hl 1 rfl) ?_
  refine lv_icmp_lt hx hb dS_ci3_6 (tgt := 16) rfl (fun _ => ?_) (fun q => absurd ((i_ltI ii hn).mpr hin) q)
  refine lv_iload_n hx hb dS_ci3_16 rfl (lv_at hl 0 rfl) ?_
  exact W.iret hx hb hr (fun t ht _ => ⟨rfl, ii, by rw [ht]; exact hP, va_S.rf.F ht⟩) (fun q h => by cases h) dS_ci3_17 hlocks
theorem dS_ci_0 : decode cJ0_checkIndex_df160 0 = .ok (.iload_n 0, 1) := by decide +kernel
theorem dS_ci_1 : decode cJ0_checkIndex_df160 1 = .ok (.iload_n 1, 1) := by decide +kernel
theorem dS_ci_2 : decode cJ0_checkIndex_df160 2 = .ok (.getstatic 1053, 3) := by decide +kernel
theorem dS_ci_5 : decode cJ0_checkIndex_df160 5 = .ok (.invokestatic 1059, 3) := by decide +kernel
theorem dS_ci_8 : decode cJ0_checkIndex_df160 8 = .ok (.pop, 1) := by decide +kernel
theorem dS_ci_9 : decode cJ0_checkIndex_df160 9 = .ok (.return_, 1) := by decide +kernel
theorem va_in {C n d : String} {A : Nat → Prop} {U : State} {H : Heap} (h : va_Zq C n d A U H) : ∃ w : Value, (w = .null ∨ ∃ t, w = .ref t) ∧ va_Z C n d w A U H := by
  rcases h with h | ⟨t, h⟩
  · exact ⟨.null, Or.inl rfl, h⟩
  · exact ⟨.ref t, Or.inr ⟨t, rfl⟩, h⟩
theorem st_ci {i n : Int} (hi : 0 ≤ i) (hin : i < n) (hn : ir 0 n) : Met l yJ0_checkIndex_df160 (Cond.code yJ0_checkIndex_df160 cJ0_checkIndex_df160 2 none :: TW) { frames := 1, cells := 0, slots := 0, locals := 22 } (va_Pc [vo 0 i, vo 0 n] (PreT adK adV D cy A S v)) (QcB D cy A 9 S (0, v)) 0 0 A := by
  refine metT rfl (Nat.le_refl 2) fun p e R s m below meth c ls hT hl => ?_
  obtain ⟨hx, hb, hml, ho, hts, hfr, hlo, hr, hlocks, hP, hW, hA⟩ := hT
  refine lv_iload_n hx hb dS_ci_0 rfl (lv_at hl 0 rfl) ?_
  refine lv_iload_n hx hb dS_ci_1 rfl (lv_at hl 1 rfl) ?_
  obtain ⟨w, hw, hZ⟩ := va_in hW.2.2
  refine va_gets hx hb hZ va_S.rf ho (hts _ kf_J0_1053) (fun x h => h) dS_ci_2 ?_
  have hgood : GoodIn TW (va_wsS RJ0 1059 yJ3_checkIndex_8e157 (Cond.code yJ3_checkIndex_8e157 cJ3_checkIndex_8e157 3 (some .int) :: TW)) := by
    apply tw_sub
    intro x hx
    simp only [va_wsS, List.cons_append, List.nil_append, List.mem_cons] at hx
    rcases hx with rfl | rfl | rfl | rfl | hx
    · exact km_J0_1059
    · exact ks_J3_checkIndex_8e157
    · exact kn_J3
    · exact kc_J3_checkIndex_8e157
    · exact hx
  refine xx_call (rest := []) (va_runS (As := [vo 0 i, vo 0 n, w]) ⟨hx, hb, hml, ho, hts⟩ (st_ci3 hw hi hin hn) (va_cwS 3 hts hgood rfl rfl rfl (by decide +kernel) ⟨hfr, hlo⟩) ⟨preT_blind, fun U hU hw => preT_at hP hW hA va_S.rf hU hw⟩ rfl rfl hl.1 rfl (Nat.zero_le _) dS_ci_5 ⟨Nat.zero_le _, Nat.zero_le _⟩) va_S.rf (fun H1 locs1 hir hp hs => ?_)
  refine lv_pop hx hb dS_ci_8 rfl ?_
  exact W.vret hx hb hr (fun t ht _ => ⟨rfl, ir00, by rw [ht]; exact hp, hs.F ht⟩) hs.2.2 dS_ci_9 hlocks
theorem dS_len_0 : decode cJ0_length_8abf5 0 = .ok (.aload_n 0, 1) := by decide +kernel
theorem dS_len_1 : decode cJ0_length_8abf5 1 = .ok (.getfield 9, 3) := by decide +kernel
theorem dS_len_4 : decode cJ0_length_8abf5 4 = .ok (.arraylength, 1) := by decide +kernel
theorem dS_len_5 : decode cJ0_length_8abf5 5 = .ok (.aload_n 0, 1) := by decide +kernel
theorem dS_len_6 : decode cJ0_length_8abf5 6 = .ok (.invokevirtual 335, 3) := by decide +kernel
theorem dS_len_9 : decode cJ0_length_8abf5 9 = .ok (.ishr, 1) := by decide +kernel
theorem dS_len_10 : decode cJ0_length_8abf5 10 = .ok (.ireturn, 1) := by decide +kernel
theorem st_len : Met l yJ0_length_8abf5 (Cond.code yJ0_length_8abf5 cJ0_length_8abf5 1 (some .int) :: TW) { frames := 1, cells := 0, slots := 0, locals := 20 } (va_Pc [.ref (adK 0)] (PreT adK adV D cy A S v)) (QcB D cy A 0 S (111, v)) 0 0 A := by
  refine metT rfl (Nat.le_refl 1) fun p e R s m below meth c ls hT hl => ?_
  obtain ⟨hx, hb, hml, ho, hts, hfr, hlo, hr, hlocks, hP, hW, hA⟩ := hT
  refine lv_aload_n hx hb dS_len_0 rfl (lv_at hl 0 rfl) ?_
  refine vk_getf hx hb (hW.1.1 0 (by decide)).2.2.1 va_S.rf ho (hts _ kf_J0_9) (fun x h => h) dS_len_1 ?_
  refine va_tlen hx hb (hW.1.1 0 (by decide)).2.2.2 va_S.rf (v := 111) rfl dS_len_4 ?_
  refine lv_aload_n hx hb dS_len_5 rfl (lv_at hl 0 rfl) ?_
  have hgood : GoodIn TW (wsV RJ0 335 RJ0 yJ0_coder_7d493 (Cond.code yJ0_coder_7d493 cJ0_coder_7d493 1 (some .byte) :: TW)) := by
    apply tw_sub
    intro x hx
    simp only [wsV, List.cons_append, List.nil_append, List.mem_cons] at hx
    rcases hx with rfl | rfl | rfl | rfl | rfl | hx
    · exact km_J0_335
    · exact ki_J0_coder_7d493
    · exact kv_J0_coder_7d493
    · exact kn_J0
    · exact kc_J0_coder_7d493
    · exact hx
  refine xx_call (rest := [.int 111]) (va_runV (As := []) ⟨hx, hb, hml, ho, hts⟩ st_coder (cwV 0 hts hgood rfl rfl rfl ⟨rfl, by decide +kernel⟩ ⟨hfr, hlo⟩) ⟨preT_blind, vk_recv hW.1 (by decide) va_S.rf, fun U hU hw => preT_at hP hW hA va_S.rf hU hw⟩ rfl rfl hl.1 rfl (lv_room (st := [.int 111]) (by decide)) dS_len_6 ⟨Nat.zero_le _, Nat.zero_le _⟩) va_S.rf (fun H1 locs1 hir hp hs => ?_)
  refine lv_ishr hx hb dS_len_9 ?_
  exact W.iret hx hb hr (fun t ht _ => ⟨congrArg (fun z => Outcome.returned (some (Value.int z))) (show (111 : Int32) >>> (Int32.ofInt 0 &&& 31) = Int32.ofInt 111 by decide +kernel), ir0b, by rw [ht]; exact hp, hs.F ht⟩) hs.2.2 dS_len_10 hlocks
theorem dS_lc_0 : decode cJ1_charAt_3b067 0 = .ok (.iload_n 1, 1) := by decide +kernel
theorem dS_lc_1 : decode cJ1_charAt_3b067 1 = .ok (.aload_n 0, 1) := by decide +kernel
theorem dS_lc_2 : decode cJ1_charAt_3b067 2 = .ok (.arraylength, 1) := by decide +kernel
theorem dS_lc_3 : decode cJ1_charAt_3b067 3 = .ok (.invokestatic 9, 3) := by decide +kernel
theorem dS_lc_6 : decode cJ1_charAt_3b067 6 = .ok (.aload_n 0, 1) := by decide +kernel
theorem dS_lc_7 : decode cJ1_charAt_3b067 7 = .ok (.iload_n 1, 1) := by decide +kernel
theorem dS_lc_8 : decode cJ1_charAt_3b067 8 = .ok (.baload, 1) := by decide +kernel
theorem dS_lc_9 : decode cJ1_charAt_3b067 9 = .ok (.sipush 255, 3) := by decide +kernel
theorem dS_lc_12 : decode cJ1_charAt_3b067 12 = .ok (.iand, 1) := by decide +kernel
theorem dS_lc_13 : decode cJ1_charAt_3b067 13 = .ok (.i2c, 1) := by decide +kernel
theorem dS_lc_14 : decode cJ1_charAt_3b067 14 = .ok (.ireturn, 1) := by decide +kernel
theorem st_ch : ∀ k : Nat, k < 111 → ((((strB.getD 0 []).getD k 0) &&& 255).toUInt32 % 65536).toInt32 = Int32.ofInt (wdL.getD k 0) ∧ 0 ≤ wdL.getD k 0 ∧ wdL.getD k 0 < 128 ∧ narrow .char (.int (Int32.ofInt (wdL.getD k 0))) = .int (Int32.ofInt (wdL.getD k 0)) := by decide +kernel
theorem st_lc {i : Int} (hi : 0 ≤ i) (hin : i < 111) : Met l yJ1_charAt_3b067 (Cond.code yJ1_charAt_3b067 cJ1_charAt_3b067 2 (some .char) :: TW) { frames := 2, cells := 0, slots := 0, locals := 43 } (va_Pc [.ref (adV 0), vo 0 i] (PreT adK adV D cy A S v)) (QcB D cy A 0 S (wdL.getD i.toNat 0, v)) 0 0 A := by
  have ii : ir 0 i := irn (by omega) (by omega)
  refine metT rfl (Nat.le_refl 2) fun p e R s m below meth c ls hT hl => ?_
  obtain ⟨hx, hb, hml, ho, hts, hfr, hlo, hr, hlocks, hP, hW, hA⟩ := hT
  refine lv_iload_n hx hb dS_lc_0 rfl (lv_at hl 1 rfl) ?_
  refine lv_aload_n hx hb dS_lc_1 rfl (lv_at hl 0 rfl) ?_
  refine va_tlen hx hb (hW.1.1 0 (by decide)).2.2.2 va_S.rf (v := Int32.ofInt 111) rfl dS_lc_2 ?_
  have hgood : GoodIn TW (va_wsS RJ1 9 yJ0_checkIndex_df160 (Cond.code yJ0_checkIndex_df160 cJ0_checkIndex_df160 2 none :: TW)) := by
    apply tw_sub
    intro x hx
    simp only [va_wsS, List.cons_append, List.nil_append, List.mem_cons] at hx
    rcases hx with rfl | rfl | rfl | rfl | hx
    · exact km_J1_9
    · exact ks_J0_checkIndex_df160
    · exact kn_J0
    · exact kc_J0_checkIndex_df160
    · exact hx
  refine xx_call (rest := []) (va_runS (As := [vo 0 i, vo 0 111]) ⟨hx, hb, hml, ho, hts⟩ (st_ci hi hin (irn (by decide) (by decide))) (va_cwS 2 hts hgood rfl rfl rfl (by decide +kernel) ⟨hfr, hlo⟩) ⟨preT_blind, fun U hU hw => preT_at hP hW hA va_S.rf hU hw⟩ rfl rfl hl.1 rfl (Nat.zero_le _) dS_lc_3 ⟨Nat.zero_le _, Nat.zero_le _⟩) va_S.rf (fun H1 locs1 hir hp hs => ?_)
  refine lv_aload_n hx hb dS_lc_6 rfl (lv_at hl 0 rfl) ?_
  refine lv_iload_n hx hb dS_lc_7 rfl (lv_at hl 1 rfl) ?_
  obtain ⟨c1, c2, c3, c4⟩ := st_ch i.toNat (by omega)
  refine va_tb hx hb (hW.1.1 0 (by decide)).2.2.2 hs (i := Int32.ofInt i) (by
    intro q
    rcases q with q | q
    · exact absurd ((i_ltI (a := i) (b := 0) ii (irn (by decide) (by decide))).mp q) (by omega)
    · rw [i_nat ii] at q
      exact absurd q (by show ¬ 111 ≤ i.toNat; omega)) rfl dS_lc_8 ?_
  refine lv_sipush hx hb dS_lc_9 (v := 255) (by decide +kernel) ?_
  refine lv_iand hx hb dS_lc_12 ?_
  rw [i_nat ii]
  refine lv_i2c hx hb dS_lc_13 c1 ?_
  exact W.zret hx hb hr c4 (fun t ht _ => ⟨rfl, (irn (by omega) (by omega) : ir 0 (wdL.getD i.toNat 0)), by rw [ht]; exact hp, hs.F ht⟩) hs.2.2 dS_lc_14 hlocks
theorem dS_ca_0 : decode cJ0_charAt_5068e 0 = .ok (.aload_n 0, 1) := by decide +kernel
theorem dS_ca_1 : decode cJ0_charAt_5068e 1 = .ok (.invokevirtual 492, 3) := by decide +kernel
theorem dS_ca_4 : decode cJ0_charAt_5068e 4 = .ok (.ifCond .eq 12, 3) := by decide +kernel
theorem dS_ca_7 : decode cJ0_charAt_5068e 7 = .ok (.aload_n 0, 1) := by decide +kernel
theorem dS_ca_8 : decode cJ0_charAt_5068e 8 = .ok (.getfield 9, 3) := by decide +kernel
theorem dS_ca_11 : decode cJ0_charAt_5068e 11 = .ok (.iload_n 1, 1) := by decide +kernel
theorem dS_ca_12 : decode cJ0_charAt_5068e 12 = .ok (.invokestatic 495, 3) := by decide +kernel
theorem dS_ca_15 : decode cJ0_charAt_5068e 15 = .ok (.ireturn, 1) := by decide +kernel
theorem st_ca {i : Int} (hi : 0 ≤ i) (hin : i < 111) : Met l yJ0_charAt_5068e (Cond.code yJ0_charAt_5068e cJ0_charAt_5068e 2 (some .char) :: TW) { frames := 3, cells := 0, slots := 0, locals := 64 } (va_Pc [.ref (adK 0), vo 0 i] (PreT adK adV D cy A S v)) (QcB D cy A 0 S (wdL.getD i.toNat 0, v)) 0 0 A := by
  have ii : ir 0 i := irn (by omega) (by omega)
  refine metT rfl (Nat.le_refl 2) fun p e R s m below meth c ls hT hl => ?_
  obtain ⟨hx, hb, hml, ho, hts, hfr, hlo, hr, hlocks, hP, hW, hA⟩ := hT
  refine lv_aload_n hx hb dS_ca_0 rfl (lv_at hl 0 rfl) ?_
  have hgood : GoodIn TW (wsV RJ0 492 RJ0 yJ0_isLatin1_aae02 (Cond.code yJ0_isLatin1_aae02 cJ0_isLatin1_aae02 1 (some .boolean) :: TW)) := by
    apply tw_sub
    intro x hx
    simp only [wsV, List.cons_append, List.nil_append, List.mem_cons] at hx
    rcases hx with rfl | rfl | rfl | rfl | rfl | hx
    · exact km_J0_492
    · exact ki_J0_isLatin1_aae02
    · exact kv_J0_isLatin1_aae02
    · exact kn_J0
    · exact kc_J0_isLatin1_aae02
    · exact hx
  refine xx_call (rest := []) (va_runV (As := []) ⟨hx, hb, hml, ho, hts⟩ st_isL (cwV 0 hts hgood rfl rfl rfl ⟨rfl, by decide +kernel⟩ ⟨Nat.le_trans (by decide : 1 ≤ 3) hfr, Nat.le_trans (by decide : 20 ≤ 64) hlo⟩) ⟨preT_blind, vk_recv hW.1 (by decide) va_S.rf, fun U hU hw => preT_at hP hW hA va_S.rf hU hw⟩ rfl rfl hl.1 rfl (lv_room (st := []) (by decide)) dS_ca_1 ⟨Nat.zero_le _, Nat.zero_le _⟩) va_S.rf (fun H1 locs1 hir hp hs => ?_)
  refine lv_if_eq hx hb dS_ca_4 (tgt := 16) rfl (fun q => absurd q (show ¬ Int32.ofInt 1 = 0 by decide)) (fun _ => ?_)
  refine lv_aload_n hx hb dS_ca_7 rfl (lv_at hl 0 rfl) ?_
  refine vk_getf hx hb (hW.1.1 0 (by decide)).2.2.1 hs ho (hts _ kf_J0_9) (fun x h => h) dS_ca_8 ?_
  refine lv_iload_n hx hb dS_ca_11 rfl (lv_at hl 1 rfl) ?_
  have hgood2 : GoodIn TW (va_wsS RJ0 495 yJ1_charAt_3b067 (Cond.code yJ1_charAt_3b067 cJ1_charAt_3b067 2 (some .char) :: TW)) := by
    apply tw_sub
    intro x hx
    simp only [va_wsS, List.cons_append, List.nil_append, List.mem_cons] at hx
    rcases hx with rfl | rfl | rfl | rfl | hx
    · exact km_J0_495
    · exact ks_J1_charAt_3b067
    · exact kn_J1
    · exact kc_J1_charAt_3b067
    · exact hx
  obtain ⟨c1, c2, c3, c4⟩ := st_ch i.toNat (by omega)
  refine xx_call (rest := []) (va_runS (As := [.ref (adV 0), vo 0 i]) ⟨hx, hb, hml, ho, hts⟩ (st_lc hi hin) (va_cwS 2 hts hgood2 rfl rfl rfl (by decide +kernel) ⟨hfr, hlo⟩) ⟨preT_blind, fun U hU hw => preT_at hp hW hA hs hU hw⟩ rfl rfl hl.1 rfl (Nat.zero_le _) dS_ca_12 ⟨Nat.zero_le _, Nat.zero_le _⟩) hs (fun H2 locs2 hir2 hp2 hs2 => ?_)
  exact W.zret hx hb hr c4 (fun t ht _ => ⟨rfl, (irn (by omega) (by omega) : ir 0 (wdL.getD i.toNat 0)), by rw [ht]; exact hp2, hs2.F ht⟩) hs2.2.2 dS_ca_15 hlocks
end JDK
theorem okStrLen {Y : YT} {Γ : List (Nat × Nat)} {d pc idx : Nat} {E : List Nat} (hown : Y.1 = RX10) (h8 : d ≤ 8) (km : Cond.methodLink RX10 idx yJ0_length_8abf5 ∈ TW) (hfr : 6 ≤ Y.2.2.2.1) (hlo : 160 ≤ Y.2.2.2.2.1) (hd : decode Y.2.1 pc = .ok (.ldc 57, 2)) (hd2 : decode Y.2.1 (pc + 2) = .ok (.invokevirtual idx, 3)) (hE : pc + 5 ∈ E) : OkE Y Γ d 0 pc E eSL := by
  intro Z hC L S v r st hf hdd hk
  cases hf
  have hk := hk ir0b _ hE
  obtain ⟨own, cc, nL, fr, lo, τr⟩ := Y
  obtain ⟨p, l, e, R, s, m, args, below, meth, c, D, cy, A, H0, Q, cells, slots⟩ := Z
  obtain ⟨hx, hbb, hml, ho, hts, hfrR, hloR, hce, hsl, hA, hW, rfl⟩ := hC
  obtain ⟨-, -, ⟨adK, adV, h3, h4, h5, h6⟩, -⟩ := hW
  dsimp only at hown hfr hlo hd hd2
  subst hown
  intro H locs ls g1 g2 g3
  refine va_ldcS hx hbb ho h4 hd ?_
  have hgood : GoodIn TW (wsV RX10 idx RJ0 yJ0_length_8abf5 (Cond.code yJ0_length_8abf5 cJ0_length_8abf5 1 (some .int) :: TW)) := by
    apply tw_sub
    intro x hx
    simp only [wsV, List.cons_append, List.nil_append, List.mem_cons] at hx
    rcases hx with rfl | rfl | rfl | rfl | rfl | hx
    · exact km
    · exact ki_J0_length_8abf5
    · exact kv_J0_length_8abf5
    · exact kn_J0
    · exact kc_J0_length_8abf5
    · exact hx
  exact xx_call (rest := st) (va_runV (As := []) ⟨hx, hbb, hml, ho, hts⟩ (st_len (S := S) (v := v)) (cwV 0 hts hgood rfl rfl rfl ⟨rfl, by decide +kernel⟩ ⟨Nat.le_trans (Nat.le_trans (by decide : 2 ≤ 6) hfr) hfrR, Nat.le_trans (Nat.le_trans (by decide : 8 + (1 + 11) + 20 ≤ 160) hlo) hloR⟩) ⟨preT_blind, vk_recv h3 (by decide) g3, fun U hU hw => preT_at g2 ⟨h3, h5, h6⟩ hA g3 hU hw⟩ rfl rfl g1.1 rfl (lv_room (Nat.le_trans hdd h8)) hd2 ⟨hce, hsl⟩) g3 (fun H1 locs1 hir hp hs => hk H1 locs1 ls g1 hp hs)
theorem okStrAt {Y : YT} {Γ : List (Nat × Nat)} {d pc p1 idx : Nat} {E : List Nat} {i : QE} (hi : OkE Y Γ (d + 1) 0 (pc + 2) [p1] i) (h8 : d ≤ 8) (hown : Y.1 = RX10) (km : Cond.methodLink RX10 idx yJ0_charAt_5068e ∈ TW) (hfr : 6 ≤ Y.2.2.2.1) (hlo : 160 ≤ Y.2.2.2.2.1) (hd : decode Y.2.1 pc = .ok (.ldc 57, 2)) (hd2 : decode Y.2.1 p1 = .ok (.invokevirtual idx, 3)) (hE : p1 + 3 ∈ E) : OkE Y Γ d 5 pc E (eSA i) := by
  intro Z hC L S v r st hf hdd hk
  obtain ⟨x, h1, h2⟩ := Option.bind_eq_some_iff.mp hf
  by_cases hin : 0 ≤ x.1 ∧ x.1 < 111
  case neg => rw [if_neg hin] at h2; cases h2
  rw [if_pos hin] at h2
  cases h2
  obtain ⟨c1, c2, c3, c4⟩ := st_ch x.1.toNat (by omega)
  have hk := hk ⟨c2, by show wdL.getD x.1.toNat 0 < 65536; omega⟩ _ hE
  have hC0 := hC
  have hi := hi Z hC L S v x
  obtain ⟨own, cc, nL, fr, lo, τr⟩ := Y
  obtain ⟨p, l, e, R, s, m, args, below, meth, c, D, cy, A, H0, Q, cells, slots⟩ := Z
  obtain ⟨hx, hbb, hml, ho, hts, hfrR, hloR, hce, hsl, hA, hW, rfl⟩ := hC
  obtain ⟨-, -, ⟨adK, adV, h3, h4, h5, h6⟩, -⟩ := hW
  dsimp only at hown hfr hlo hd hd2
  subst hown
  intro H locs ls g1 g2 g3
  refine va_ldcS hx hbb ho h4 hd ?_
  refine hi (.ref (adK 0) :: st) h1 (by simp only [cat, List.map_cons, List.sum_cons, Value.category] at hdd ⊢; omega) (fun ix t ht => ?_) H locs ls g1 g2 g3
  rw [List.mem_singleton.mp ht]
  clear g1 g2 g3 H locs ls
  intro H locs ls g1 g2 g3
  have hgood : GoodIn TW (wsV RX10 idx RJ0 yJ0_charAt_5068e (Cond.code yJ0_charAt_5068e cJ0_charAt_5068e 2 (some .char) :: TW)) := by
    apply tw_sub
    intro x hx
    simp only [wsV, List.cons_append, List.nil_append, List.mem_cons] at hx
    rcases hx with rfl | rfl | rfl | rfl | rfl | hx
    · exact km
    · exact ki_J0_charAt_5068e
    · exact kv_J0_charAt_5068e
    · exact kn_J0
    · exact kc_J0_charAt_5068e
    · exact hx
  exact xx_call (rest := st) (va_runV (As := [vo 0 x.1]) ⟨hx, hbb, hml, ho, hts⟩ (st_ca (S := S) (v := x.2) hin.1 hin.2) (cwV 1 hts hgood rfl rfl rfl ⟨rfl, by decide +kernel⟩ ⟨Nat.le_trans (Nat.le_trans (by decide : 4 ≤ 6) hfr) hfrR, Nat.le_trans (Nat.le_trans (by decide : 8 + (2 + 11) + 64 ≤ 160) hlo) hloR⟩) ⟨preT_blind, vk_recv h3 (by decide) g3, fun U hU hw => preT_at g2 ⟨h3, h5, h6⟩ hA g3 hU hw⟩ rfl rfl g1.1 rfl (lv_room (Nat.le_trans hdd h8)) hd2 ⟨hce, hsl⟩) g3 (fun H1 locs1 hir hp hs => hk H1 locs1 ls g1 hp hs)
