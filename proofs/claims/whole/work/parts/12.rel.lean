/-! THE MACHINE'S HEAP AND LOCALS held against numbers -/
def eτ : Nat → Nat
  | 20 => 0
  | 23 => 5
  | 24 => 3
  | 40 => 0
  | 41 => 1
  | 42 => 4
  | 44 => 3
  | _ => 2
def aT : Nat → FieldType
  | 20 => .int
  | 23 => .char
  | 24 => .boolean
  | 40 => .int
  | 41 => .long
  | 42 => .byte
  | 44 => .boolean
  | 30 => .object RX0
  | 32 => .object RX2
  | 33 => .object RX3
  | 34 => .object RX4
  | 37 => .object RX7
  | 38 => .object RX8
  | _ => .object RX9
def τF : FieldType → Nat
  | .long => 1
  | .object _ => 2
  | .array _ => 2
  | .boolean => 3
  | .byte => 4
  | .char => 5
  | _ => 0
def tyA : Nat → Nat → FieldType
  | 0 => tyX0
  | 1 => tyX1
  | 2 => tyX2
  | 3 => tyX3
  | 4 => tyX4
  | 5 => tyX5
  | 6 => tyX6
  | 7 => tyX7
  | 8 => tyX8
  | 9 => tyX9
  | 10 => tyX10
  | 11 => tyX11
  | _ => tyX12
def cτ (ci k : Nat) : Nat := τF (tyA ci k)
abbrev kL : List Nat := [20, 23, 24, 30, 32, 33, 34, 37, 38, 39, 40, 41, 42, 44]
def tysL (cy : Nat → ClassId) : List (ClassId × FieldType) := kL.map fun κ => (cy κ, aT κ)
def nestL : List (String × Nat × MethodName × String) := [(RX11, 11, yX10_init, "RoundRows"), (RX11, 18, yX5_init, "RoundRows"), (RX6, 29, yX1_init, "RoundRows"), (RX6, 34, yX2_init, "RoundRows"), (RX6, 35, yX0_init, "RoundRows"), (RX8, 29, yX3_init, "RoundRows"), (RX8, 30, yX4_init, "RoundRows"), (RX7, 21, yX9_init, "RoundRows"), (RX11, 57, yX9_init, "RoundRows"), (RX3, 69, yX11_quotient, "RoundRows"), (RX8, 74, yX11_remainder, "RoundRows"), (RX8, 87, yX11_quotient_, "RoundRows"), (RX3, 97, yX11_valueOf, "RoundRows"), (RX4, 54, yX11_held, "RoundRows"), (RX1, 65, yX11_held, "RoundRows")]
def StrK (A : Nat → Prop) (U : State) : Prop := ∃ adK adV : Nat → Nat, vk_S 1 [111] [[115, 116, 101, 112, 32, 109, 101, 97, 115, 117, 114, 101, 32, 103, 97, 117, 103, 101, 32, 97, 109, 111, 117, 110, 116, 32, 99, 111, 117, 110, 116, 101, 114, 32, 115, 105, 108, 101, 110, 99, 101, 32, 108, 101, 97, 115, 116, 32, 109, 111, 115, 116, 32, 97, 114, 99, 104, 105, 118, 101, 32, 109, 101, 97, 110, 32, 108, 97, 116, 101, 115, 116, 32, 98, 121, 32, 115, 104, 97, 114, 101, 32, 102, 111, 114, 101, 99, 97, 115, 116, 32, 115, 101, 97, 115, 111, 110, 32, 98, 97, 110, 100, 32, 115, 104, 111, 119, 32, 111, 114, 32]] adK adV A U U.heap ∧ vk_R RX10 57 "step measure gauge amount counter silence least most archive mean latest by share forecast season band show or " (adK 0) U ∧ va_Z "java/lang/String" "COMPACT_STRINGS" "Z" (.int 1) A U U.heap ∧ va_Zq "jdk/internal/util/Preconditions" "SIOOBE_FORMATTER" "Ljava/util/function/BiFunction;" A U U.heap
def objL : List String := [RX2, RX0, RX8, RX3, RX4, RX7, RX9]
def WK (D : va_G) (cy : Nat → ClassId) (A : Nat → Prop) (U : State) : Prop := va_K D vwCl (tysL cy) U ∧ (∀ q ∈ nestL, va_Nw (.methodLinkNest q.1 q.2.1 q.2.2.1 q.2.2.2) U) ∧ StrK A U ∧ ArrOfT U (cy 14) .int ∧ ∀ C ∈ objL, va_AO C U
theorem WK.moved {D : va_G} {cy : Nat → ClassId} {A : Nat → Prop} {s U : State} (h : WK D cy A s) (hW : s.WarmedH U.vm) (hq : ∀ a : Nat, a < s.heap.size → ¬ A a → U.heap[a]? = s.heap[a]?) : WK D cy A U := by
  obtain ⟨h1, h2, ⟨adK, adV, h3, h4, h5, h6⟩, h7, h8⟩ := h
  exact ⟨va_K.moved hW.alike h1, fun q hm => va_Nw.warmM hW (h2 q hm), ⟨adK, adV, (vk_S.moved hW.alike h3).kept hq, vk_R.warm hW h4, (va_Z.moved hW.alike h5).kept hq, (va_Zq.moved hW.alike h6).kept hq⟩, arrOfT_moved hW.alike h7, fun C hC => va_AO.moved hW.alike (h8 C hC)⟩
theorem WK.same {D : va_G} {cy : Nat → ClassId} {A : Nat → Prop} {s U : State} (h : WK D cy A s) (hv : U.vm = s.vm) (hh : U.heap = s.heap) : WK D cy A U := by
  obtain ⟨h1, h2, ⟨adK, adV, h3, h4, h5, h6⟩, h7, h8⟩ := h
  have hA : s.vm.Alike U.vm := by rw [hv]; exact Vm.Alike.refl _
  have hq : ∀ a : Nat, a < s.heap.size → ¬ A a → U.heap[a]? = s.heap[a]? := fun a _ _ => by rw [hh]
  exact ⟨va_K.moved hA h1, fun q hm => va_Nw.same rfl hv.symm (h2 q hm), ⟨adK, adV, (vk_S.moved hA h3).kept hq, vk_R.same hv h4, (va_Z.moved hA h5).kept hq, (va_Zq.moved hA h6).kept hq⟩, arrOfT_moved hA h7, fun C hC => va_AO.moved hA (h8 C hC)⟩
def cOk (D : va_G) (cy : Nat → ClassId) (κ : Nat) (n : Int) (f : Int → Int) (a : Nat) (H : Heap) : Prop :=
  (κ ≤ 19 ∧ ∃ q : vw_C, vwCl[κ - 1]? = some q ∧ (∀ k : Nat, k < q.2.2 → ir (cτ (κ - 1) k) (f k)) ∧ t_OB a (D.1 (κ - 1)) q.2.2 (D.2 (κ - 1)) H (fun k => vo (cτ (κ - 1) k) (f k)))
  ∨ (20 ≤ κ ∧ κ ∈ kL ∧ 0 ≤ n ∧ n < 2147483648 ∧ (∀ k : Nat, (k : Int) < n → ir (eτ κ) (f k)) ∧ H[a]? = some (arrV (cy κ) n.toNat (fun k => vo (eτ κ) (f k))))
  ∨ (κ = 14 ∧ 0 ≤ n ∧ n < 2147483648 ∧ (∀ k : Nat, (k : Int) < n → ir 0 (f k)) ∧ ∃ scr : Cell, H[a]? = some scr ∧ scr.cls = cy 14 ∧ (∀ k, scr.vm ≠ .statics k) ∧ scr.vm ≠ .unknown ∧ scr.slots.size = n.toNat ∧ ∀ k : Nat, (k : Int) < n → scr.slots[k]? = some (vo 0 (f k)))
def hpOk (D : va_G) (cy : Nat → ClassId) (A : Nat → Prop) (S : QS) (v : QV) (H : Heap) : Prop := S.2.2 = H.size ∧ ∀ a : Int, S.1 a ≠ 0 → 0 ≤ a ∧ (S.1 a = 14 ∨ A a.toNat) ∧ cOk D cy (S.1 a) (S.2.1 a) (v a) a.toNat H
theorem cOk.kept {D : va_G} {cy : Nat → ClassId} {κ : Nat} {n : Int} {f : Int → Int} {a : Nat} {H H1 : Heap} (h : cOk D cy κ n f a H) (hq : H1[a]? = H[a]?) : cOk D cy κ n f a H1 := by
  rcases h with ⟨h1, q, h2, h3, h4⟩ | ⟨h1, h2, h3, h4, h5, h6⟩ | ⟨h1, h2, h3, h4, scr, h5, h6⟩
  · exact Or.inl ⟨h1, q, h2, h3, h4.kept hq⟩
  · exact Or.inr (Or.inl ⟨h1, h2, h3, h4, h5, hq.trans h6⟩)
  · exact Or.inr (Or.inr ⟨h1, h2, h3, h4, scr, hq.trans h5, h6⟩)
/-- one cell changes -/
theorem hpOk.put {D : va_G} {cy : Nat → ClassId} {A : Nat → Prop} {S : QS} {v : QV} {H H1 : Heap} (h : hpOk D cy A S v H) {a i z : Int} (hk : S.1 a ≠ 0) (hz : H1.size = H.size) (oq : ∀ q : Nat, q ≠ a.toNat → H1[q]? = H[q]?) (hc : cOk D cy (S.1 a) (S.2.1 a) (fun j => if j = i then z else v a j) a.toNat H1) : hpOk D cy A S (vu v a i z) H1 := by
  refine ⟨by rw [hz]; exact h.1, fun b hb => ?_⟩
  obtain ⟨h1, h2, h3⟩ := h.2 b hb
  refine ⟨h1, h2, ?_⟩
  by_cases e : b = a
  · subst e
    have : vu v b i z b = fun j => if j = i then z else v b j := by
      funext j
      simp [vu]
    rw [this]
    exact hc
  · have e1 : vu v a i z b = v b := by
      funext j
      simp [vu, e]
    rw [e1]
    have ha := (h.2 a hk).1
    exact h3.kept (oq _ (fun x => e (by omega)))
def LvOk (nL : Nat) (Γ : List (Nat × Nat)) (L : QL) (ls : Array Slot) : Prop := ls.size = nL ∧ lv_wf ls ∧ ∀ q ∈ Γ, ir q.2 (L q.1) ∧ ls[q.1]? = some (.val (vo q.2 (L q.1)))
theorem LvOk.has {nL : Nat} {Γ : List (Nat × Nat)} {L : QL} {ls : Array Slot} (h : LvOk nL Γ L ls) : lv_has ls nL (Γ.map fun q => (q.1, vo q.2 (L q.1))) := by
  refine ⟨h.1, h.2.1, fun q hq => ?_⟩
  obtain ⟨x, hx, rfl⟩ := List.mem_map.mp hq
  exact (h.2.2 x hx).2
theorem LvOk.sub {nL : Nat} {Γ Γ' : List (Nat × Nat)} {L : QL} {ls : Array Slot} (h : LvOk nL Γ L ls) (hs : ∀ q ∈ Γ', q ∈ Γ) : LvOk nL Γ' L ls := ⟨h.1, h.2.1, fun q hq => h.2.2 q (hs q hq)⟩
/-- a store of one slot -/
theorem LvOk.set1 {nL : Nat} {Γ Γ' : List (Nat × Nat)} {L : QL} {ls ls' : Array Slot} {k τ : Nat} {z : Int} (h : LvOk nL Γ L ls) (hz : ir τ z) (hτ : ct τ = 1)
    (h' : lv_has ls' nL ((k, vo τ z) :: (Γ.map fun q => (q.1, vo q.2 (L q.1))).filter (fun q => !(q.1 == k) && !(q.1 + 1 == k && q.2.category == 2))))
    (hΓ : ∀ q ∈ Γ', q = (k, τ) ∨ (q ∈ Γ ∧ q.1 ≠ k ∧ ¬ (q.1 + 1 = k ∧ ct q.2 = 2))) : LvOk nL Γ' (lu L k z) ls' := by
  refine ⟨h'.1, h'.2.1, fun q hq => ?_⟩
  rcases hΓ q hq with rfl | ⟨h1, h2, h3⟩
  · simp only [lu, if_true]
    exact ⟨hz, h'.2.2 _ List.mem_cons_self⟩
  · simp only [lu, if_neg h2]
    refine ⟨(h.2.2 q h1).1, h'.2.2 (q.1, vo q.2 (L q.1)) (List.mem_cons_of_mem _ (List.mem_filter.mpr ⟨List.mem_map.mpr ⟨q, h1, rfl⟩, ?_⟩))⟩
    rw [vo_ct]
    simp only [Bool.and_eq_true, Bool.not_eq_true', beq_eq_false_iff_ne, ne_eq, Bool.and_eq_false_iff]
    refine ⟨h2, ?_⟩
    by_cases e : q.1 + 1 = k
    · exact Or.inr (fun x => h3 ⟨e, x⟩)
    · exact Or.inl e
/-- a store of two -/
theorem LvOk.set2 {nL : Nat} {Γ Γ' : List (Nat × Nat)} {L : QL} {ls ls' : Array Slot} {k : Nat} {z : Int} (h : LvOk nL Γ L ls) (hz : ir 1 z)
    (h' : lv_has ls' nL ((k, vo 1 z) :: (Γ.map fun q => (q.1, vo q.2 (L q.1))).filter (fun q => !(q.1 == k) && (!(q.1 == k + 1) && !(q.1 + 1 == k && q.2.category == 2)))))
    (hΓ : ∀ q ∈ Γ', q = (k, 1) ∨ (q ∈ Γ ∧ q.1 ≠ k ∧ q.1 ≠ k + 1 ∧ ¬ (q.1 + 1 = k ∧ ct q.2 = 2))) : LvOk nL Γ' (lu L k z) ls' := by
  refine ⟨h'.1, h'.2.1, fun q hq => ?_⟩
  rcases hΓ q hq with rfl | ⟨h1, h2, h4, h3⟩
  · simp only [lu, if_true]
    exact ⟨hz, h'.2.2 _ List.mem_cons_self⟩
  · simp only [lu, if_neg h2]
    refine ⟨(h.2.2 q h1).1, h'.2.2 (q.1, vo q.2 (L q.1)) (List.mem_cons_of_mem _ (List.mem_filter.mpr ⟨List.mem_map.mpr ⟨q, h1, rfl⟩, ?_⟩))⟩
    rw [vo_ct]
    simp only [Bool.and_eq_true, Bool.not_eq_true', beq_eq_false_iff_ne, ne_eq, Bool.and_eq_false_iff]
    refine ⟨h2, h4, ?_⟩
    by_cases e : q.1 + 1 = k
    · exact Or.inr (fun x => h3 ⟨e, x⟩)
    · exact Or.inl e
/-! the machine around a method, in one tuple; a method's own numbers in another: its class, code, locals, frames, words of locals, answer's type -/
abbrev ZT : Type := Program × Launch × Env × Room × State × MethodId × Array Value × List Frame × Method × Code × va_G × (Nat → ClassId) × (Nat → Prop) × Heap × (State → Prop) × Nat × Nat
abbrev YT : Type := String × ByteArray × Nat × Nat × Nat × Nat
def WX : ZT → Nat → List (Nat × Nat) → QL → QS → QV → Nat → List Value → Prop
  | (p, l, e, R, s, m, args, below, meth, c, D, cy, A, H0, Q, cells, slots), nL, Γ, L, S, v, pc, st =>
    ∀ (H : Heap) (locs : List Loc) (ls : Array Slot), LvOk nL Γ L ls → hpOk D cy A S v H → va_S A H0 H locs → W p l e R s m args below meth c H locs cells slots Q (F0 m pc ls st)
def MC : YT → ZT → Prop
  | (own, cc, nL, fr, lo, _), (p, _, _, R, s, m, args, _, _, c, D, cy, A, H0, _, cells, slots) =>
    p.tables.exec = Jvm.exec ∧ c.code = cc ∧ c.maxLocals = nL ∧ s.vm.findClass own = some m.cls ∧ (∀ w ∈ TW, w.before args s = true) ∧ fr ≤ R.frames ∧ lo ≤ R.locals ∧ cells ≤ R.cells ∧ slots ≤ R.slots ∧ (∀ q, H0.size ≤ q → A q) ∧ WK D cy A s ∧ s.heap = H0
def rI : Nat → Instr
  | 1 => .lreturn
  | 2 => .areturn
  | 9 => .return_
  | _ => .ireturn
def rst (τ : Nat) (z : Int) : List Value := if τ = 9 then [] else [vo τ z]
def RetW : YT → ZT → QS → QV → Int → Prop
  | (_, cc, _, _, _, τ), (p, l, e, R, s, m, args, below, meth, c, D, cy, A, H0, Q, cells, slots), S, v, z =>
    ∀ (H : Heap) (locs : List Loc) (ls : Array Slot) (pc : Nat), hpOk D cy A S v H → va_S A H0 H locs → decode cc pc = .ok (rI τ, 1) → ir τ z → W p l e R s m args below meth c H locs cells slots Q (F0 m pc ls (rst τ z))
abbrev cat (st : List Value) : Nat := (st.map fun v => v.category).sum
def OkE (Y : YT) (Γ : List (Nat × Nat)) (d τ pc : Nat) (E : List Nat) (f : QE) : Prop := ∀ (Z : ZT), MC Y Z → ∀ (L : QL) (S : QS) (v : QV) (r : Int × QV) (st : List Value), f L S v = some r → cat st ≤ d → (ir τ r.1 → ∀ t ∈ E, WX Z Y.2.2.1 Γ L S r.2 t (vo τ r.1 :: st)) → WX Z Y.2.2.1 Γ L S v pc st
def OkC (Y : YT) (Γ : List (Nat × Nat)) (d pc : Nat) (T F : List Nat) (f : QC) : Prop := ∀ (Z : ZT), MC Y Z → ∀ (L : QL) (S : QS) (v : QV) (r : Bool × QV) (st : List Value), f L S v = some r → cat st ≤ d → (r.1 = true → ∀ t ∈ T, WX Z Y.2.2.1 Γ L S r.2 t st) → (r.1 = false → ∀ t ∈ F, WX Z Y.2.2.1 Γ L S r.2 t st) → WX Z Y.2.2.1 Γ L S v pc st
def irs : List Nat → List Int → Prop
  | [], [] => True
  | τ :: τs, z :: zs => ir τ z ∧ irs τs zs
  | _, _ => False
def vos : List Nat → List Int → List Value
  | τ :: τs, z :: zs => vo τ z :: vos τs zs
  | _, _ => []
def cts : List Nat → Nat
  | [] => 0
  | τ :: τs => ct τ + cts τs
def OkEs (Y : YT) (Γ : List (Nat × Nat)) (d : Nat) (τs : List Nat) (pc : Nat) (E : List Nat) (f : List QE) : Prop := ∀ (Z : ZT), MC Y Z → ∀ (L : QL) (S : QS) (v : QV) (r : List Int × QV) (st : List Value), eAs f L S v = some r → cat st ≤ d → (irs τs r.1 → ∀ t ∈ E, WX Z Y.2.2.1 Γ L S r.2 t ((vos τs r.1).reverse ++ st)) → WX Z Y.2.2.1 Γ L S v pc st
def OkS (Y : YT) (Γ Γ' : List (Nat × Nat)) (pc : Nat) (E : List Nat) (Γb : List (Nat × Nat)) (B : List Nat) (Γk : List (Nat × Nat)) (K : List Nat) (f : QT) : Prop := ∀ (Z : ZT), MC Y Z → ∀ (L : QL) (S : QS) (v : QV) (r : (Nat × Int) × QL × QV), f L S v = some r → (r.1.1 = 0 → ∀ t ∈ E, WX Z Y.2.2.1 Γ' r.2.1 S r.2.2 t []) → (r.1.1 = 1 → ∀ t ∈ B, WX Z Y.2.2.1 Γb r.2.1 S r.2.2 t []) → (r.1.1 = 2 → ∀ t ∈ K, WX Z Y.2.2.1 Γk r.2.1 S r.2.2 t []) → (r.1.1 = 3 → RetW Y Z S r.2.2 r.1.2) → WX Z Y.2.2.1 Γ L S v pc []
theorem WX.sub {Z : ZT} {nL : Nat} {Γ Γ' : List (Nat × Nat)} {L : QL} {S : QS} {v : QV} {pc : Nat} {st : List Value} (h : WX Z nL Γ' L S v pc st) (hs : ∀ q ∈ Γ', q ∈ Γ) : WX Z nL Γ L S v pc st := by
  obtain ⟨p, l, e, R, s, m, args, below, meth, c, D, cy, A, H0, Q, cells, slots⟩ := Z
  exact fun H locs ls h1 h2 h3 => h H locs ls (h1.sub hs) h2 h3
