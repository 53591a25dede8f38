/-! MAKING: a constructor's meaning; a state is (shape, contents, cells left, slots left) -/
abbrev QN : Type := QS × QV × Nat × Nat
abbrev NT : Type := QL → QN → Option (QL × QN)
abbrev NM : Type := Int → QN → Option QN
def dz (τ : Nat) : Int := if τ = 2 then -1 else 0
def nAl (κ : Nat) (n : Int) (m : Nat) (d : Int → Int) (N : QN) : Option QN := if 1 ≤ N.2.2.1 ∧ m ≤ N.2.2.2 then some ((fun a => if a = (N.1.2.2 : Int) then κ else N.1.1 a, fun a => if a = (N.1.2.2 : Int) then n else N.1.2.1 a, N.1.2.2 + 1), (fun a k => if a = (N.1.2.2 : Int) then d k else N.2.1 a k), N.2.2.1 - 1, N.2.2.2 - m) else none
def nCall (g : NM) (mc ms : Nat) (a : Int) (N : QN) : Option QN := if mc ≤ N.2.2.1 ∧ ms ≤ N.2.2.2 then (g a (N.1, N.2.1, mc, ms)).map fun M => (M.1, M.2.1, N.2.2.1 - mc, N.2.2.2 - ms) else none
def nLift (s : QT) : NT := fun L N => (s L N.1 N.2.1).bind fun r => if r.1.1 = 0 then some (r.2.1, (N.1, r.2.2, N.2.2)) else none
def nSeq (a b : NT) : NT := fun L N => (a L N).bind fun r => b r.1 r.2
def nSkip : NT := fun L N => some (L, N)
/-- this.k = new array -/
def nFA (ci : Nat) (k : Int) (κ : Nat) (n : Int) : NT := fun L N => (nAl κ n n.toNat (fun _ => dz (eτ κ)) N).bind fun M => if M.1.1 (L 0) = ci + 1 then some (L, (M.1, vu M.2.1 (L 0) k (N.1.2.2 : Int), M.2.2)) else none
/-- this.k = new object -/
def nFO (ci : Nat) (k : Int) (cj n : Nat) (g : NM) (mc ms : Nat) : NT := fun L N => (nAl (cj + 1) 0 n (fun j => dz (cτ cj j.toNat)) N).bind fun M => (nCall g mc ms (N.1.2.2 : Int) M).bind fun K => if K.1.1 (L 0) = ci + 1 then some (L, (K.1, vu K.2.1 (L 0) k (N.1.2.2 : Int), K.2.2)) else none
/-- an array's place = new object -/
def nAO (κ : Nat) (a i : QE) (cj n : Nat) (g : NM) (mc ms : Nat) : NT := fun L N => (a L N.1 N.2.1).bind fun ra => (i L N.1 ra.2).bind fun ri => (nAl (cj + 1) 0 n (fun j => dz (cτ cj j.toNat)) (N.1, ri.2, N.2.2)).bind fun M => (nCall g mc ms (N.1.2.2 : Int) M).bind fun K => if K.1.1 ra.1 = κ ∧ 0 ≤ ri.1 ∧ ri.1 < K.1.2.1 ra.1 ∧ K.1.1 (N.1.2.2 : Int) = cj + 1 then some (L, (K.1, vu K.2.1 ra.1 ri.1 (N.1.2.2 : Int), K.2.2)) else none
def nWh (c : QC) (b : NT) : Nat → NT
  | 0 => fun _ _ => none
  | n + 1 => fun L N => (c L N.1 N.2.1).bind fun t => if t.1 then (b L (N.1, t.2, N.2.2)).bind fun r => nWh c b n r.1 r.2 else some (L, (N.1, t.2, N.2.2))
def nM (s : NT) : NM := fun a N => (s (aL 0 [2] [a]) N).map fun r => r.2
/-! the machine around it -/
def ZC : ZT → Nat → Nat → ZT
  | (p, l, e, R, s, m, args, below, meth, c, D, cy, A, H0, Q, _, _), k, u => (p, l, e, R, s, m, args, below, meth, c, D, cy, A, H0, Q, k, u)
def zc (Z : ZT) : Nat := Z.2.2.2.2.2.2.2.2.2.2.2.2.2.2.2.1
def zs (Z : ZT) : Nat := Z.2.2.2.2.2.2.2.2.2.2.2.2.2.2.2.2
def zI (Z : ZT) : Prop := Z.2.2.2.2.2.2.2.2.1.name = "<init>"
theorem MC.at {Y : YT} {Z : ZT} (h : MC Y Z) {k u : Nat} (h1 : k ≤ zc Z) (h2 : u ≤ zs Z) : MC Y (ZC Z k u) := by
  obtain ⟨own, cc, nL, fr, lo, τr⟩ := Y
  obtain ⟨p, l, e, R, s, m, args, below, meth, c, D, cy, A, H0, Q, cells, slots⟩ := Z
  obtain ⟨hx, hb, hml, ho, hts, hfr, hlo, hce, hsl, hA, hW, h0⟩ := h
  exact ⟨hx, hb, hml, ho, hts, hfr, hlo, Nat.le_trans h1 hce, Nat.le_trans h2 hsl, hA, hW, h0⟩
def WXN (Z : ZT) (nL : Nat) (Γ : List (Nat × Nat)) (L : QL) (N : QN) (pc : Nat) (st : List Value) : Prop := ∀ k u : Nat, k + N.2.2.1 = zc Z → u + N.2.2.2 = zs Z → WX (ZC Z k u) nL Γ L N.1 N.2.1 pc st
def OkN (Y : YT) (Γ Γ' : List (Nat × Nat)) (pc : Nat) (E : List Nat) (f : NT) : Prop := ∀ (Z : ZT), MC Y Z → zI Z → ∀ (L : QL) (N : QN) (r : QL × QN), f L N = some r → (∀ t ∈ E, WXN Z Y.2.2.1 Γ' r.1 r.2 t []) → WXN Z Y.2.2.1 Γ L N pc []
theorem okN_skip {Y : YT} {Γ : List (Nat × Nat)} {pc : Nat} {E : List Nat} (h : pc ∈ E) : OkN Y Γ Γ pc E nSkip := by
  intro Z hC hI L N r hf hk
  cases hf
  exact hk pc h
theorem okN_seq {Γ1 : List (Nat × Nat)} {p1 : Nat} {Y : YT} {Γ Γ' : List (Nat × Nat)} {pc : Nat} {E : List Nat} {a b : NT} (ha : OkN Y Γ Γ1 pc [p1] a) (hb : OkN Y Γ1 Γ' p1 E b) : OkN Y Γ Γ' pc E (nSeq a b) := by
  intro Z hC hI L N r hf hk
  obtain ⟨x, h1, h2⟩ := Option.bind_eq_some_iff.mp hf
  refine ha Z hC hI L N x h1 (fun t ht => ?_)
  rw [List.mem_singleton.mp ht]
  exact hb Z hC hI x.1 x.2 r h2 hk
theorem okN_lift {Y : YT} {Γ Γ' : List (Nat × Nat)} {pc : Nat} {E : List Nat} {s : QT} (h : OkS Y Γ Γ' pc E [] [] [] [] s) : OkN Y Γ Γ' pc E (nLift s) := by
  intro Z hC hI L N r hf hk k u hk1 hu1
  obtain ⟨x, h1, h2⟩ := Option.bind_eq_some_iff.mp hf
  by_cases h0 : x.1.1 = 0
  · rw [if_pos h0] at h2
    cases h2
    refine h (ZC Z k u) (hC.at (by omega) (by omega)) L N.1 N.2.1 x h1 (fun _ t ht => hk t ht k u hk1 hu1) (fun q => absurd (h0.symm.trans q) (by decide)) (fun q => absurd (h0.symm.trans q) (by decide)) (fun q => absurd (h0.symm.trans q) (by decide))
  · rw [if_neg h0] at h2; cases h2
theorem okN_weak {Y : YT} {Γ Γ0 Γ' Γ1 : List (Nat × Nat)} {pc : Nat} {E : List Nat} {s : NT} (h : OkN Y Γ0 Γ1 pc E s) (h1 : ∀ q ∈ Γ0, q ∈ Γ) (h2 : ∀ q ∈ Γ', q ∈ Γ1) : OkN Y Γ Γ' pc E s := by
  intro Z hC hI L N r hf hk k u hk1 hu1
  exact (h Z hC hI L N r hf (fun t ht k u e1 e2 => (hk t ht k u e1 e2).sub h2) k u hk1 hu1).sub h1
/-- a loop: the test at pc goes to p1 or out; the body goes back to pc -/
theorem okN_while {Y : YT} {Γ : List (Nat × Nat)} {pc p1 n : Nat} {E : List Nat} {c : QC} {b : NT} (hc : OkC Y Γ 0 pc [p1] E c) (hb : OkN Y Γ Γ p1 [pc] b) : OkN Y Γ Γ pc E (nWh c b n) := by
  intro Z hC hI
  induction n with
  | zero => intro L N r hf; cases hf
  | succ n ih =>
    intro L N r hf hk k u hk1 hu1
    obtain ⟨t, h1, h2⟩ := Option.bind_eq_some_iff.mp hf
    refine hc (ZC Z k u) (hC.at (by omega) (by omega)) L N.1 N.2.1 t [] h1 (Nat.zero_le _) (fun ht q hq => ?_) (fun ht q hq => ?_)
    · rw [if_pos ht] at h2
      obtain ⟨x, h3, h4⟩ := Option.bind_eq_some_iff.mp h2
      rw [List.mem_singleton.mp hq]
      refine hb Z hC hI L (N.1, t.2, N.2.2) x h3 (fun q hq => ?_) k u hk1 hu1
      rw [List.mem_singleton.mp hq]
      exact ih x.1 x.2 r h4 hk
    · rw [if_neg (by rw [ht]; decide)] at h2
      cases h2
      exact hk q hq k u hk1 hu1
/-- what is new at the heap's end -/
theorem hpOk.push {D : va_G} {cy : Nat → ClassId} {A : Nat → Prop} {S : QS} {v : QV} {H H1 : Heap} {κ : Nat} {n : Int} {d : Int → Int} (h : hpOk D cy A S v H) (hz : H1.size = H.size + 1) (ho : ∀ q : Nat, q < H.size → H1[q]? = H[q]?) (hA : A H.size) (hc : cOk D cy κ n d H.size H1) : hpOk D cy A (fun a => if a = (S.2.2 : Int) then κ else S.1 a, fun a => if a = (S.2.2 : Int) then n else S.2.1 a, S.2.2 + 1) (fun a k => if a = (S.2.2 : Int) then d k else v a k) H1 := by
  refine ⟨by show S.2.2 + 1 = H1.size; rw [hz, h.1], fun a ha => ?_⟩
  have e0 : S.2.2 = H.size := h.1
  by_cases e : a = (S.2.2 : Int)
  · subst e
    simp only [if_true] at ha ⊢
    rw [Int.toNat_natCast, e0]
    exact ⟨by omega, Or.inr hA, hc⟩
  · simp only [if_neg e] at ha ⊢
    obtain ⟨q1, q2, q3⟩ := h.2 a ha
    refine ⟨q1, q2, q3.kept ?_⟩
    by_cases hl : a.toNat < H.size
    · exact ho _ hl
    · rw [Array.getElem?_eq_none (by omega), Array.getElem?_eq_none (by omega)]
