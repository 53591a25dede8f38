/-! WHERE THINGS LIE: kinds, lengths and pointers of the class's things from b on, of the reference's from M on (laid by wip/whole/gen/gen7.py) -/
/-- nothing that no method may write has changed -/
def Kp (S : QS) (v w : QV) : Prop := ∀ a k, Wc (S.1 a) k = false → Wm (S.1 a) k = false → w a k = v a k
/-- the class ran -/
def Kc (S : QS) (v w : QV) : Prop := ∀ a k, Wc (S.1 a) k = false → w a k = v a k
/-- the reference ran -/
def Km (S : QS) (v w : QV) : Prop := ∀ a k, Wm (S.1 a) k = false → w a k = v a k
theorem Kc.p {S : QS} {v w : QV} (h : Kc S v w) : Kp S v w := fun a k h1 _ => h a k h1
theorem Km.p {S : QS} {v w : QV} (h : Km S v w) : Kp S v w := fun a k _ h2 => h a k h2
theorem Kp.rf {S : QS} {v : QV} : Kp S v v := fun _ _ _ _ => rfl
theorem Kp.tr {S : QS} {u v w : QV} (h : Kp S u v) (h' : Kp S v w) : Kp S u w := fun a k h1 h2 => (h' a k h1 h2).trans (h a k h1 h2)
theorem Kc.rf {S : QS} {v : QV} : Kc S v v := fun _ _ _ => rfl
theorem Kc.tr {S : QS} {u v w : QV} (h : Kc S u v) (h' : Kc S v w) : Kc S u w := fun a k h1 => (h' a k h1).trans (h a k h1)
theorem Km.rf {S : QS} {v : QV} : Km S v v := fun _ _ _ => rfl
theorem Km.tr {S : QS} {u v w : QV} (h : Km S u v) (h' : Km S v w) : Km S u w := fun a k h1 => (h' a k h1).trans (h a k h1)
theorem Kc.of {g : QM} (hg : KM Wc g) {zs : List Int} {S : QS} {v w : QV} {z : Int} (h : g zs S v = some (z, w)) : Kc S v w := hg zs S v (z, w) h
theorem Km.of {g : QM} (hg : KM Wm g) {zs : List Int} {S : QS} {v w : QV} {z : Int} (h : g zs S v = some (z, w)) : Km S v w := hg zs S v (z, w) h
theorem Kc.vu {S : QS} {v w : QV} {a i z : Int} (h : Kc S v w) (ha : Wc (S.1 a) i = true) : Kc S v (vu w a i z) := fun b k hb => K_vu ha hb (h b k hb)
theorem Km.vu {S : QS} {v w : QV} {a i z : Int} (h : Km S v w) (ha : Wm (S.1 a) i = true) : Km S v (vu w a i z) := fun b k hb => K_vu ha hb (h b k hb)
theorem Kp.vuc {S : QS} {v w : QV} {a i z : Int} (h : Kp S v w) (ha : Wc (S.1 a) i = true) : Kp S v (vu w a i z) := fun b k hb hm => K_vu ha hb (h b k hb hm)
/-- a Tape -/
def LTp (S : QS) (v : QV) (T : Int) : Prop := S.1 T = 11 ∧ v T 0 = T + 1 ∧ v T 2 = T + 2 ∧ v T 3 = T + 3 ∧ v T 4 = T + 4 ∧ S.1 (T + 1) = 23 ∧ S.2.1 (T + 1) = 1000 ∧ S.1 (T + 2) = 20 ∧ S.2.1 (T + 2) = 1000 ∧ S.1 (T + 3) = 20 ∧ S.2.1 (T + 3) = 1000 ∧ S.1 (T + 4) = 20 ∧ S.2.1 (T + 4) = 1000
theorem LTp.k {S : QS} {v : QV} {T : Int} (h : LTp S v T) : S.1 T = 11 := h.1
theorem LTp.p0 {S : QS} {v : QV} {T : Int} (h : LTp S v T) : v T 0 = T + 1 := h.2.1
theorem LTp.p2 {S : QS} {v : QV} {T : Int} (h : LTp S v T) : v T 2 = T + 2 := h.2.2.1
theorem LTp.p3 {S : QS} {v : QV} {T : Int} (h : LTp S v T) : v T 3 = T + 3 := h.2.2.2.1
theorem LTp.p4 {S : QS} {v : QV} {T : Int} (h : LTp S v T) : v T 4 = T + 4 := h.2.2.2.2.1
theorem LTp.a1 {S : QS} {v : QV} {T : Int} (h : LTp S v T) : S.1 (T + 1) = 23 := h.2.2.2.2.2.1
theorem LTp.n1 {S : QS} {v : QV} {T : Int} (h : LTp S v T) : S.2.1 (T + 1) = 1000 := h.2.2.2.2.2.2.1
theorem LTp.a2 {S : QS} {v : QV} {T : Int} (h : LTp S v T) : S.1 (T + 2) = 20 := h.2.2.2.2.2.2.2.1
theorem LTp.n2 {S : QS} {v : QV} {T : Int} (h : LTp S v T) : S.2.1 (T + 2) = 1000 := h.2.2.2.2.2.2.2.2.1
theorem LTp.a3 {S : QS} {v : QV} {T : Int} (h : LTp S v T) : S.1 (T + 3) = 20 := h.2.2.2.2.2.2.2.2.2.1
theorem LTp.n3 {S : QS} {v : QV} {T : Int} (h : LTp S v T) : S.2.1 (T + 3) = 1000 := h.2.2.2.2.2.2.2.2.2.2.1
theorem LTp.a4 {S : QS} {v : QV} {T : Int} (h : LTp S v T) : S.1 (T + 4) = 20 := h.2.2.2.2.2.2.2.2.2.2.2.1
theorem LTp.n4 {S : QS} {v : QV} {T : Int} (h : LTp S v T) : S.2.1 (T + 4) = 1000 := h.2.2.2.2.2.2.2.2.2.2.2.2
theorem LTp.keep {S : QS} {v w : QV} {T : Int} (hk : Kp S v w) (h : LTp S v T) : LTp S w T := by
  exact ⟨h.k, (hk _ _ (by rw [h.k]; rfl) (by rw [h.k]; rfl)).trans h.p0, (hk _ _ (by rw [h.k]; rfl) (by rw [h.k]; rfl)).trans h.p2, (hk _ _ (by rw [h.k]; rfl) (by rw [h.k]; rfl)).trans h.p3, (hk _ _ (by rw [h.k]; rfl) (by rw [h.k]; rfl)).trans h.p4, h.a1, h.n1, h.a2, h.n2, h.a3, h.n3, h.a4, h.n4⟩
/-- a Parser -/
def LPs (S : QS) (v : QV) (x : Int) : Prop := S.1 x = 6 ∧ v x 5 = x + 1 ∧ v x 6 = x + 2 ∧ v x 8 = x + 3 ∧ S.1 (x + 1) = 20 ∧ S.2.1 (x + 1) = 8 ∧ S.1 (x + 2) = 20 ∧ S.2.1 (x + 2) = 8 ∧ S.1 (x + 3) = 20 ∧ S.2.1 (x + 3) = 60
theorem LPs.k {S : QS} {v : QV} {x : Int} (h : LPs S v x) : S.1 x = 6 := h.1
theorem LPs.p5 {S : QS} {v : QV} {x : Int} (h : LPs S v x) : v x 5 = x + 1 := h.2.1
theorem LPs.p6 {S : QS} {v : QV} {x : Int} (h : LPs S v x) : v x 6 = x + 2 := h.2.2.1
theorem LPs.p8 {S : QS} {v : QV} {x : Int} (h : LPs S v x) : v x 8 = x + 3 := h.2.2.2.1
theorem LPs.a1 {S : QS} {v : QV} {x : Int} (h : LPs S v x) : S.1 (x + 1) = 20 := h.2.2.2.2.1
theorem LPs.n1 {S : QS} {v : QV} {x : Int} (h : LPs S v x) : S.2.1 (x + 1) = 8 := h.2.2.2.2.2.1
theorem LPs.a2 {S : QS} {v : QV} {x : Int} (h : LPs S v x) : S.1 (x + 2) = 20 := h.2.2.2.2.2.2.1
theorem LPs.n2 {S : QS} {v : QV} {x : Int} (h : LPs S v x) : S.2.1 (x + 2) = 8 := h.2.2.2.2.2.2.2.1
theorem LPs.a3 {S : QS} {v : QV} {x : Int} (h : LPs S v x) : S.1 (x + 3) = 20 := h.2.2.2.2.2.2.2.2.1
theorem LPs.n3 {S : QS} {v : QV} {x : Int} (h : LPs S v x) : S.2.1 (x + 3) = 60 := h.2.2.2.2.2.2.2.2.2
theorem LPs.keep {S : QS} {v w : QV} {x : Int} (hk : Kp S v w) (h : LPs S v x) : LPs S w x := by
  exact ⟨h.k, (hk _ _ (by rw [h.k]; rfl) (by rw [h.k]; rfl)).trans h.p5, (hk _ _ (by rw [h.k]; rfl) (by rw [h.k]; rfl)).trans h.p6, (hk _ _ (by rw [h.k]; rfl) (by rw [h.k]; rfl)).trans h.p8, h.a1, h.n1, h.a2, h.n2, h.a3, h.n3⟩
/-- Formulas -/
def LFo (S : QS) (v : QV) (F : Int) : Prop := S.1 F = 2 ∧ v F 3 = F + 1 ∧ v F 4 = F + 2 ∧ v F 5 = F + 3 ∧ v F 6 = F + 4 ∧ v F 7 = F + 5 ∧ S.1 (F + 1) = 20 ∧ S.2.1 (F + 1) = 60 ∧ S.1 (F + 2) = 20 ∧ S.2.1 (F + 2) = 60 ∧ S.1 (F + 3) = 20 ∧ S.2.1 (F + 3) = 4 ∧ S.1 (F + 4) = 20 ∧ S.2.1 (F + 4) = 4 ∧ S.1 (F + 5) = 20 ∧ S.2.1 (F + 5) = 30
theorem LFo.k {S : QS} {v : QV} {F : Int} (h : LFo S v F) : S.1 F = 2 := h.1
theorem LFo.p3 {S : QS} {v : QV} {F : Int} (h : LFo S v F) : v F 3 = F + 1 := h.2.1
theorem LFo.p4 {S : QS} {v : QV} {F : Int} (h : LFo S v F) : v F 4 = F + 2 := h.2.2.1
theorem LFo.p5 {S : QS} {v : QV} {F : Int} (h : LFo S v F) : v F 5 = F + 3 := h.2.2.2.1
theorem LFo.p6 {S : QS} {v : QV} {F : Int} (h : LFo S v F) : v F 6 = F + 4 := h.2.2.2.2.1
theorem LFo.p7 {S : QS} {v : QV} {F : Int} (h : LFo S v F) : v F 7 = F + 5 := h.2.2.2.2.2.1
theorem LFo.a1 {S : QS} {v : QV} {F : Int} (h : LFo S v F) : S.1 (F + 1) = 20 := h.2.2.2.2.2.2.1
theorem LFo.n1 {S : QS} {v : QV} {F : Int} (h : LFo S v F) : S.2.1 (F + 1) = 60 := h.2.2.2.2.2.2.2.1
theorem LFo.a2 {S : QS} {v : QV} {F : Int} (h : LFo S v F) : S.1 (F + 2) = 20 := h.2.2.2.2.2.2.2.2.1
theorem LFo.n2 {S : QS} {v : QV} {F : Int} (h : LFo S v F) : S.2.1 (F + 2) = 60 := h.2.2.2.2.2.2.2.2.2.1
theorem LFo.a3 {S : QS} {v : QV} {F : Int} (h : LFo S v F) : S.1 (F + 3) = 20 := h.2.2.2.2.2.2.2.2.2.2.1
theorem LFo.n3 {S : QS} {v : QV} {F : Int} (h : LFo S v F) : S.2.1 (F + 3) = 4 := h.2.2.2.2.2.2.2.2.2.2.2.1
theorem LFo.a4 {S : QS} {v : QV} {F : Int} (h : LFo S v F) : S.1 (F + 4) = 20 := h.2.2.2.2.2.2.2.2.2.2.2.2.1
theorem LFo.n4 {S : QS} {v : QV} {F : Int} (h : LFo S v F) : S.2.1 (F + 4) = 4 := h.2.2.2.2.2.2.2.2.2.2.2.2.2.1
theorem LFo.a5 {S : QS} {v : QV} {F : Int} (h : LFo S v F) : S.1 (F + 5) = 20 := h.2.2.2.2.2.2.2.2.2.2.2.2.2.2.1
theorem LFo.n5 {S : QS} {v : QV} {F : Int} (h : LFo S v F) : S.2.1 (F + 5) = 30 := h.2.2.2.2.2.2.2.2.2.2.2.2.2.2.2
theorem LFo.keep {S : QS} {v w : QV} {F : Int} (hk : Kp S v w) (h : LFo S v F) : LFo S w F := by
  exact ⟨h.k, (hk _ _ (by rw [h.k]; rfl) (by rw [h.k]; rfl)).trans h.p3, (hk _ _ (by rw [h.k]; rfl) (by rw [h.k]; rfl)).trans h.p4, (hk _ _ (by rw [h.k]; rfl) (by rw [h.k]; rfl)).trans h.p5, (hk _ _ (by rw [h.k]; rfl) (by rw [h.k]; rfl)).trans h.p6, (hk _ _ (by rw [h.k]; rfl) (by rw [h.k]; rfl)).trans h.p7, h.a1, h.n1, h.a2, h.n2, h.a3, h.n3, h.a4, h.n4, h.a5, h.n5⟩
/-- an Outlook -/
def LOu (S : QS) (v : QV) (o : Int) : Prop := S.1 o = 5 ∧ v o 3 = o + 1 ∧ v o 4 = o + 2 ∧ v o 5 = o + 3 ∧ v o 6 = o + 4 ∧ S.1 (o + 1) = 20 ∧ S.2.1 (o + 1) = 24 ∧ S.1 (o + 2) = 20 ∧ S.2.1 (o + 2) = 24 ∧ S.1 (o + 3) = 20 ∧ S.2.1 (o + 3) = 30 ∧ S.1 (o + 4) = 24 ∧ S.2.1 (o + 4) = 30
theorem LOu.k {S : QS} {v : QV} {o : Int} (h : LOu S v o) : S.1 o = 5 := h.1
theorem LOu.p3 {S : QS} {v : QV} {o : Int} (h : LOu S v o) : v o 3 = o + 1 := h.2.1
theorem LOu.p4 {S : QS} {v : QV} {o : Int} (h : LOu S v o) : v o 4 = o + 2 := h.2.2.1
theorem LOu.p5 {S : QS} {v : QV} {o : Int} (h : LOu S v o) : v o 5 = o + 3 := h.2.2.2.1
theorem LOu.p6 {S : QS} {v : QV} {o : Int} (h : LOu S v o) : v o 6 = o + 4 := h.2.2.2.2.1
theorem LOu.a1 {S : QS} {v : QV} {o : Int} (h : LOu S v o) : S.1 (o + 1) = 20 := h.2.2.2.2.2.1
theorem LOu.n1 {S : QS} {v : QV} {o : Int} (h : LOu S v o) : S.2.1 (o + 1) = 24 := h.2.2.2.2.2.2.1
theorem LOu.a2 {S : QS} {v : QV} {o : Int} (h : LOu S v o) : S.1 (o + 2) = 20 := h.2.2.2.2.2.2.2.1
theorem LOu.n2 {S : QS} {v : QV} {o : Int} (h : LOu S v o) : S.2.1 (o + 2) = 24 := h.2.2.2.2.2.2.2.2.1
theorem LOu.a3 {S : QS} {v : QV} {o : Int} (h : LOu S v o) : S.1 (o + 3) = 20 := h.2.2.2.2.2.2.2.2.2.1
theorem LOu.n3 {S : QS} {v : QV} {o : Int} (h : LOu S v o) : S.2.1 (o + 3) = 30 := h.2.2.2.2.2.2.2.2.2.2.1
theorem LOu.a4 {S : QS} {v : QV} {o : Int} (h : LOu S v o) : S.1 (o + 4) = 24 := h.2.2.2.2.2.2.2.2.2.2.2.1
theorem LOu.n4 {S : QS} {v : QV} {o : Int} (h : LOu S v o) : S.2.1 (o + 4) = 30 := h.2.2.2.2.2.2.2.2.2.2.2.2
theorem LOu.keep {S : QS} {v w : QV} {o : Int} (hk : Kp S v w) (h : LOu S v o) : LOu S w o := by
  exact ⟨h.k, (hk _ _ (by rw [h.k]; rfl) (by rw [h.k]; rfl)).trans h.p3, (hk _ _ (by rw [h.k]; rfl) (by rw [h.k]; rfl)).trans h.p4, (hk _ _ (by rw [h.k]; rfl) (by rw [h.k]; rfl)).trans h.p5, (hk _ _ (by rw [h.k]; rfl) (by rw [h.k]; rfl)).trans h.p6, h.a1, h.n1, h.a2, h.n2, h.a3, h.n3, h.a4, h.n4⟩
/-- a Ring -/
def LRi (S : QS) (v : QV) (r : Int) : Prop := S.1 r = 8 ∧ v r 0 = r + 1 ∧ v r 1 = r + 2 ∧ S.1 (r + 1) = 20 ∧ S.2.1 (r + 1) = 120 ∧ S.1 (r + 2) = 39 ∧ S.2.1 (r + 2) = 4 ∧ (∀ m, 0 ≤ m → m < 4 → v (r + 2) m = r + (3 + m)) ∧ (∀ m, 0 ≤ m → m < 4 → S.1 (r + (3 + m)) = 10)
theorem LRi.k {S : QS} {v : QV} {r : Int} (h : LRi S v r) : S.1 r = 8 := h.1
theorem LRi.p0 {S : QS} {v : QV} {r : Int} (h : LRi S v r) : v r 0 = r + 1 := h.2.1
theorem LRi.p1 {S : QS} {v : QV} {r : Int} (h : LRi S v r) : v r 1 = r + 2 := h.2.2.1
theorem LRi.a1 {S : QS} {v : QV} {r : Int} (h : LRi S v r) : S.1 (r + 1) = 20 := h.2.2.2.1
theorem LRi.n1 {S : QS} {v : QV} {r : Int} (h : LRi S v r) : S.2.1 (r + 1) = 120 := h.2.2.2.2.1
theorem LRi.a2 {S : QS} {v : QV} {r : Int} (h : LRi S v r) : S.1 (r + 2) = 39 := h.2.2.2.2.2.1
theorem LRi.n2 {S : QS} {v : QV} {r : Int} (h : LRi S v r) : S.2.1 (r + 2) = 4 := h.2.2.2.2.2.2.1
theorem LRi.e {S : QS} {v : QV} {r : Int} (h : LRi S v r) : ∀ m, 0 ≤ m → m < 4 → v (r + 2) m = r + (3 + m) := h.2.2.2.2.2.2.2.1
theorem LRi.t {S : QS} {v : QV} {r : Int} (h : LRi S v r) : ∀ m, 0 ≤ m → m < 4 → S.1 (r + (3 + m)) = 10 := h.2.2.2.2.2.2.2.2
theorem LRi.keep {S : QS} {v w : QV} {r : Int} (hk : Kp S v w) (h : LRi S v r) : LRi S w r := by
  exact ⟨h.k, (hk _ _ (by rw [h.k]; rfl) (by rw [h.k]; rfl)).trans h.p0, (hk _ _ (by rw [h.k]; rfl) (by rw [h.k]; rfl)).trans h.p1, h.a1, h.n1, h.a2, h.n2, fun m h0 h1 => (hk _ _ (by rw [h.a2]; rfl) (by rw [h.a2]; rfl)).trans (h.e m h0 h1), h.t⟩
/-- a State -/
def LSt (S : QS) (v : QV) (s : Int) : Prop := S.1 s = 9 ∧ v s 2 = s + 1 ∧ v s 3 = s + 2 ∧ v s 4 = s + 3 ∧ S.1 (s + 1) = 33 ∧ S.2.1 (s + 1) = 4 ∧ S.1 (s + 2) = 34 ∧ S.2.1 (s + 2) = 4 ∧ S.1 (s + 3) = 37 ∧ S.2.1 (s + 3) = 4 ∧ (∀ m, 0 ≤ m → m < 4 → v (s + 1) m = s + (4 + 6 * m)) ∧ (∀ m, 0 ≤ m → m < 4 → v (s + 2) m = s + (5 + 6 * m)) ∧ (∀ m, 0 ≤ m → m < 4 → v (s + 3) m = s + (28 + 7 * m)) ∧ (∀ m, 0 ≤ m → m < 4 → S.1 (s + (4 + 6 * m)) = 4) ∧ (∀ m, 0 ≤ m → m < 4 → LOu S v (s + (5 + 6 * m))) ∧ (∀ m, 0 ≤ m → m < 4 → LRi S v (s + (28 + 7 * m)))
theorem LSt.k {S : QS} {v : QV} {s : Int} (h : LSt S v s) : S.1 s = 9 := h.1
theorem LSt.p2 {S : QS} {v : QV} {s : Int} (h : LSt S v s) : v s 2 = s + 1 := h.2.1
theorem LSt.p3 {S : QS} {v : QV} {s : Int} (h : LSt S v s) : v s 3 = s + 2 := h.2.2.1
theorem LSt.p4 {S : QS} {v : QV} {s : Int} (h : LSt S v s) : v s 4 = s + 3 := h.2.2.2.1
theorem LSt.a1 {S : QS} {v : QV} {s : Int} (h : LSt S v s) : S.1 (s + 1) = 33 := h.2.2.2.2.1
theorem LSt.n1 {S : QS} {v : QV} {s : Int} (h : LSt S v s) : S.2.1 (s + 1) = 4 := h.2.2.2.2.2.1
theorem LSt.a2 {S : QS} {v : QV} {s : Int} (h : LSt S v s) : S.1 (s + 2) = 34 := h.2.2.2.2.2.2.1
theorem LSt.n2 {S : QS} {v : QV} {s : Int} (h : LSt S v s) : S.2.1 (s + 2) = 4 := h.2.2.2.2.2.2.2.1
theorem LSt.a3 {S : QS} {v : QV} {s : Int} (h : LSt S v s) : S.1 (s + 3) = 37 := h.2.2.2.2.2.2.2.2.1
theorem LSt.n3 {S : QS} {v : QV} {s : Int} (h : LSt S v s) : S.2.1 (s + 3) = 4 := h.2.2.2.2.2.2.2.2.2.1
theorem LSt.em {S : QS} {v : QV} {s : Int} (h : LSt S v s) : ∀ m, 0 ≤ m → m < 4 → v (s + 1) m = s + (4 + 6 * m) := h.2.2.2.2.2.2.2.2.2.2.1
theorem LSt.eo {S : QS} {v : QV} {s : Int} (h : LSt S v s) : ∀ m, 0 ≤ m → m < 4 → v (s + 2) m = s + (5 + 6 * m) := h.2.2.2.2.2.2.2.2.2.2.2.1
theorem LSt.er {S : QS} {v : QV} {s : Int} (h : LSt S v s) : ∀ m, 0 ≤ m → m < 4 → v (s + 3) m = s + (28 + 7 * m) := h.2.2.2.2.2.2.2.2.2.2.2.2.1
theorem LSt.m {S : QS} {v : QV} {s : Int} (h : LSt S v s) : ∀ m, 0 ≤ m → m < 4 → S.1 (s + (4 + 6 * m)) = 4 := h.2.2.2.2.2.2.2.2.2.2.2.2.2.1
theorem LSt.o {S : QS} {v : QV} {s : Int} (h : LSt S v s) : ∀ m, 0 ≤ m → m < 4 → LOu S v (s + (5 + 6 * m)) := h.2.2.2.2.2.2.2.2.2.2.2.2.2.2.1
theorem LSt.r {S : QS} {v : QV} {s : Int} (h : LSt S v s) : ∀ m, 0 ≤ m → m < 4 → LRi S v (s + (28 + 7 * m)) := h.2.2.2.2.2.2.2.2.2.2.2.2.2.2.2
theorem LSt.keep {S : QS} {v w : QV} {s : Int} (hk : Kp S v w) (h : LSt S v s) : LSt S w s := by
  exact ⟨h.k, (hk _ _ (by rw [h.k]; rfl) (by rw [h.k]; rfl)).trans h.p2, (hk _ _ (by rw [h.k]; rfl) (by rw [h.k]; rfl)).trans h.p3, (hk _ _ (by rw [h.k]; rfl) (by rw [h.k]; rfl)).trans h.p4, h.a1, h.n1, h.a2, h.n2, h.a3, h.n3, fun m h0 h1 => (hk _ _ (by rw [h.a1]; rfl) (by rw [h.a1]; rfl)).trans (h.em m h0 h1), fun m h0 h1 => (hk _ _ (by rw [h.a2]; rfl) (by rw [h.a2]; rfl)).trans (h.eo m h0 h1), fun m h0 h1 => (hk _ _ (by rw [h.a3]; rfl) (by rw [h.a3]; rfl)).trans (h.er m h0 h1), h.m, fun m h0 h1 => (h.o m h0 h1).keep hk, fun m h0 h1 => (h.r m h0 h1).keep hk⟩
/-- a Plan -/
def LPl (S : QS) (v : QV) (P : Int) : Prop := S.1 P = 7 ∧ v P 3 = P + 1 ∧ v P 4 = P + 2 ∧ v P 5 = P + 3 ∧ S.1 (P + 1) = 32 ∧ S.2.1 (P + 1) = 4 ∧ S.1 (P + 2) = 30 ∧ S.2.1 (P + 2) = 4 ∧ (∀ m, 0 ≤ m → m < 4 → v (P + 1) m = P + (9 + m)) ∧ (∀ m, 0 ≤ m → m < 4 → v (P + 2) m = P + (13 + m)) ∧ (∀ m, 0 ≤ m → m < 4 → S.1 (P + (9 + m)) = 3) ∧ (∀ m, 0 ≤ m → m < 4 → S.1 (P + (13 + m)) = 1) ∧ LFo S v (P + 3)
theorem LPl.k {S : QS} {v : QV} {P : Int} (h : LPl S v P) : S.1 P = 7 := h.1
theorem LPl.p3 {S : QS} {v : QV} {P : Int} (h : LPl S v P) : v P 3 = P + 1 := h.2.1
theorem LPl.p4 {S : QS} {v : QV} {P : Int} (h : LPl S v P) : v P 4 = P + 2 := h.2.2.1
theorem LPl.p5 {S : QS} {v : QV} {P : Int} (h : LPl S v P) : v P 5 = P + 3 := h.2.2.2.1
theorem LPl.a1 {S : QS} {v : QV} {P : Int} (h : LPl S v P) : S.1 (P + 1) = 32 := h.2.2.2.2.1
theorem LPl.n1 {S : QS} {v : QV} {P : Int} (h : LPl S v P) : S.2.1 (P + 1) = 4 := h.2.2.2.2.2.1
theorem LPl.a2 {S : QS} {v : QV} {P : Int} (h : LPl S v P) : S.1 (P + 2) = 30 := h.2.2.2.2.2.2.1
theorem LPl.n2 {S : QS} {v : QV} {P : Int} (h : LPl S v P) : S.2.1 (P + 2) = 4 := h.2.2.2.2.2.2.2.1
theorem LPl.em {S : QS} {v : QV} {P : Int} (h : LPl S v P) : ∀ m, 0 ≤ m → m < 4 → v (P + 1) m = P + (9 + m) := h.2.2.2.2.2.2.2.2.1
theorem LPl.ea {S : QS} {v : QV} {P : Int} (h : LPl S v P) : ∀ m, 0 ≤ m → m < 4 → v (P + 2) m = P + (13 + m) := h.2.2.2.2.2.2.2.2.2.1
theorem LPl.m {S : QS} {v : QV} {P : Int} (h : LPl S v P) : ∀ m, 0 ≤ m → m < 4 → S.1 (P + (9 + m)) = 3 := h.2.2.2.2.2.2.2.2.2.2.1
theorem LPl.a {S : QS} {v : QV} {P : Int} (h : LPl S v P) : ∀ m, 0 ≤ m → m < 4 → S.1 (P + (13 + m)) = 1 := h.2.2.2.2.2.2.2.2.2.2.2.1
theorem LPl.f {S : QS} {v : QV} {P : Int} (h : LPl S v P) : LFo S v (P + 3) := h.2.2.2.2.2.2.2.2.2.2.2.2
theorem LPl.keep {S : QS} {v w : QV} {P : Int} (hk : Kp S v w) (h : LPl S v P) : LPl S w P := by
  exact ⟨h.k, (hk _ _ (by rw [h.k]; rfl) (by rw [h.k]; rfl)).trans h.p3, (hk _ _ (by rw [h.k]; rfl) (by rw [h.k]; rfl)).trans h.p4, (hk _ _ (by rw [h.k]; rfl) (by rw [h.k]; rfl)).trans h.p5, h.a1, h.n1, h.a2, h.n2, fun m h0 h1 => (hk _ _ (by rw [h.a1]; rfl) (by rw [h.a1]; rfl)).trans (h.em m h0 h1), fun m h0 h1 => (hk _ _ (by rw [h.a2]; rfl) (by rw [h.a2]; rfl)).trans (h.ea m h0 h1), h.m, h.a, h.f.keep hk⟩
/-- the class from b on -/
def LCl (S : QS) (v : QV) (b : Int) : Prop := S.1 b = 12 ∧ v b 0 = b + 1 ∧ v b 1 = b + 6 ∧ v b 4 = b + 44 ∧ v b 8 = b + 773 ∧ v b 9 = b + 886 ∧ v b 12 = b + 887 ∧ v b 13 = b + 888 ∧ S.1 (b + 44) = 38 ∧ S.2.1 (b + 44) = 13 ∧ S.1 (b + 773) = 38 ∧ S.2.1 (b + 773) = 2 ∧ S.1 (b + 886) = 24 ∧ S.2.1 (b + 886) = 2 ∧ S.1 (b + 887) = 20 ∧ S.2.1 (b + 887) = 4 ∧ S.1 (b + 888) = 10 ∧ LTp S v (b + 1) ∧ LPs S v (b + 6) ∧ LPl S v (b + 10) ∧ LPl S v (b + 27) ∧ (∀ i, 0 ≤ i → i < 13 → v (b + 44) i = b + (45 + 56 * i)) ∧ (∀ i, 0 ≤ i → i < 2 → v (b + 773) i = b + (774 + 56 * i)) ∧ (∀ i, 0 ≤ i → i < 13 → LSt S v (b + (45 + 56 * i))) ∧ (∀ i, 0 ≤ i → i < 2 → LSt S v (b + (774 + 56 * i)))
theorem LCl.k {S : QS} {v : QV} {b : Int} (h : LCl S v b) : S.1 b = 12 := h.1
theorem LCl.p0 {S : QS} {v : QV} {b : Int} (h : LCl S v b) : v b 0 = b + 1 := h.2.1
theorem LCl.p1 {S : QS} {v : QV} {b : Int} (h : LCl S v b) : v b 1 = b + 6 := h.2.2.1
theorem LCl.p4 {S : QS} {v : QV} {b : Int} (h : LCl S v b) : v b 4 = b + 44 := h.2.2.2.1
theorem LCl.p8 {S : QS} {v : QV} {b : Int} (h : LCl S v b) : v b 8 = b + 773 := h.2.2.2.2.1
theorem LCl.p9 {S : QS} {v : QV} {b : Int} (h : LCl S v b) : v b 9 = b + 886 := h.2.2.2.2.2.1
theorem LCl.p12 {S : QS} {v : QV} {b : Int} (h : LCl S v b) : v b 12 = b + 887 := h.2.2.2.2.2.2.1
theorem LCl.p13 {S : QS} {v : QV} {b : Int} (h : LCl S v b) : v b 13 = b + 888 := h.2.2.2.2.2.2.2.1
theorem LCl.a44 {S : QS} {v : QV} {b : Int} (h : LCl S v b) : S.1 (b + 44) = 38 := h.2.2.2.2.2.2.2.2.1
theorem LCl.n44 {S : QS} {v : QV} {b : Int} (h : LCl S v b) : S.2.1 (b + 44) = 13 := h.2.2.2.2.2.2.2.2.2.1
theorem LCl.a773 {S : QS} {v : QV} {b : Int} (h : LCl S v b) : S.1 (b + 773) = 38 := h.2.2.2.2.2.2.2.2.2.2.1
theorem LCl.n773 {S : QS} {v : QV} {b : Int} (h : LCl S v b) : S.2.1 (b + 773) = 2 := h.2.2.2.2.2.2.2.2.2.2.2.1
theorem LCl.a886 {S : QS} {v : QV} {b : Int} (h : LCl S v b) : S.1 (b + 886) = 24 := h.2.2.2.2.2.2.2.2.2.2.2.2.1
theorem LCl.n886 {S : QS} {v : QV} {b : Int} (h : LCl S v b) : S.2.1 (b + 886) = 2 := h.2.2.2.2.2.2.2.2.2.2.2.2.2.1
theorem LCl.a887 {S : QS} {v : QV} {b : Int} (h : LCl S v b) : S.1 (b + 887) = 20 := h.2.2.2.2.2.2.2.2.2.2.2.2.2.2.1
theorem LCl.n887 {S : QS} {v : QV} {b : Int} (h : LCl S v b) : S.2.1 (b + 887) = 4 := h.2.2.2.2.2.2.2.2.2.2.2.2.2.2.2.1
theorem LCl.y {S : QS} {v : QV} {b : Int} (h : LCl S v b) : S.1 (b + 888) = 10 := h.2.2.2.2.2.2.2.2.2.2.2.2.2.2.2.2.1
theorem LCl.t {S : QS} {v : QV} {b : Int} (h : LCl S v b) : LTp S v (b + 1) := h.2.2.2.2.2.2.2.2.2.2.2.2.2.2.2.2.2.1
theorem LCl.x {S : QS} {v : QV} {b : Int} (h : LCl S v b) : LPs S v (b + 6) := h.2.2.2.2.2.2.2.2.2.2.2.2.2.2.2.2.2.2.1
theorem LCl.P1 {S : QS} {v : QV} {b : Int} (h : LCl S v b) : LPl S v (b + 10) := h.2.2.2.2.2.2.2.2.2.2.2.2.2.2.2.2.2.2.2.1
theorem LCl.P2 {S : QS} {v : QV} {b : Int} (h : LCl S v b) : LPl S v (b + 27) := h.2.2.2.2.2.2.2.2.2.2.2.2.2.2.2.2.2.2.2.2.1
theorem LCl.es {S : QS} {v : QV} {b : Int} (h : LCl S v b) : ∀ i, 0 ≤ i → i < 13 → v (b + 44) i = b + (45 + 56 * i) := h.2.2.2.2.2.2.2.2.2.2.2.2.2.2.2.2.2.2.2.2.2.1
theorem LCl.eb {S : QS} {v : QV} {b : Int} (h : LCl S v b) : ∀ i, 0 ≤ i → i < 2 → v (b + 773) i = b + (774 + 56 * i) := h.2.2.2.2.2.2.2.2.2.2.2.2.2.2.2.2.2.2.2.2.2.2.1
theorem LCl.s {S : QS} {v : QV} {b : Int} (h : LCl S v b) : ∀ i, 0 ≤ i → i < 13 → LSt S v (b + (45 + 56 * i)) := h.2.2.2.2.2.2.2.2.2.2.2.2.2.2.2.2.2.2.2.2.2.2.2.1
theorem LCl.b {S : QS} {v : QV} {b : Int} (h : LCl S v b) : ∀ i, 0 ≤ i → i < 2 → LSt S v (b + (774 + 56 * i)) := h.2.2.2.2.2.2.2.2.2.2.2.2.2.2.2.2.2.2.2.2.2.2.2.2
theorem LCl.keep {S : QS} {v w : QV} {b : Int} (hk : Kp S v w) (h : LCl S v b) : LCl S w b := by
  exact ⟨h.k, (hk _ _ (by rw [h.k]; rfl) (by rw [h.k]; rfl)).trans h.p0, (hk _ _ (by rw [h.k]; rfl) (by rw [h.k]; rfl)).trans h.p1, (hk _ _ (by rw [h.k]; rfl) (by rw [h.k]; rfl)).trans h.p4, (hk _ _ (by rw [h.k]; rfl) (by rw [h.k]; rfl)).trans h.p8, (hk _ _ (by rw [h.k]; rfl) (by rw [h.k]; rfl)).trans h.p9, (hk _ _ (by rw [h.k]; rfl) (by rw [h.k]; rfl)).trans h.p12, (hk _ _ (by rw [h.k]; rfl) (by rw [h.k]; rfl)).trans h.p13, h.a44, h.n44, h.a773, h.n773, h.a886, h.n886, h.a887, h.n887, h.y, h.t.keep hk, h.x.keep hk, h.P1.keep hk, h.P2.keep hk, fun m h0 h1 => (hk _ _ (by rw [h.a44]; rfl) (by rw [h.a44]; rfl)).trans (h.es m h0 h1), fun m h0 h1 => (hk _ _ (by rw [h.a773]; rfl) (by rw [h.a773]; rfl)).trans (h.eb m h0 h1), fun m h0 h1 => (h.s m h0 h1).keep hk, fun m h0 h1 => (h.b m h0 h1).keep hk⟩
/-- the reference from M on -/
def LMo (S : QS) (v : QV) (M : Int) : Prop := S.1 M = 13 ∧ v M 0 = M + 1 ∧ v M 1 = M + 2 ∧ v M 2 = M + 3 ∧ v M 3 = M + 4 ∧ v M 4 = M + 5 ∧ v M 5 = M + 6 ∧ v M 6 = M + 7 ∧ v M 7 = M + 8 ∧ v M 8 = M + 9 ∧ v M 9 = M + 10 ∧ v M 10 = M + 11 ∧ v M 11 = M + 12 ∧ v M 12 = M + 13 ∧ v M 13 = M + 14 ∧ v M 14 = M + 15 ∧ v M 15 = M + 16 ∧ v M 16 = M + 17 ∧ v M 17 = M + 18 ∧ v M 18 = M + 19 ∧ v M 19 = M + 20 ∧ v M 20 = M + 21 ∧ v M 21 = M + 22 ∧ v M 22 = M + 23 ∧ v M 23 = M + 24 ∧ v M 24 = M + 25 ∧ v M 25 = M + 26 ∧ v M 26 = M + 27 ∧ v M 29 = M + 28 ∧ v M 41 = M + 29 ∧ v M 42 = M + 30 ∧ v M 43 = M + 31 ∧ v M 46 = M + 32 ∧ v M 52 = M + 33 ∧ v M 53 = M + 34 ∧ v M 54 = M + 35 ∧ v M 55 = M + 36 ∧ v M 56 = M + 37 ∧ v M 57 = M + 38 ∧ S.1 (M + 1) = 41 ∧ S.2.1 (M + 1) = 1095 ∧ S.1 (M + 2) = 40 ∧ S.2.1 (M + 2) = 2 ∧ S.1 (M + 3) = 40 ∧ S.2.1 (M + 3) = 2 ∧ S.1 (M + 4) = 40 ∧ S.2.1 (M + 4) = 2 ∧ S.1 (M + 5) = 40 ∧ S.2.1 (M + 5) = 2 ∧ S.1 (M + 6) = 40 ∧ S.2.1 (M + 6) = 2 ∧ S.1 (M + 7) = 40 ∧ S.2.1 (M + 7) = 2 ∧ S.1 (M + 8) = 40 ∧ S.2.1 (M + 8) = 8 ∧ S.1 (M + 9) = 40 ∧ S.2.1 (M + 9) = 8 ∧ S.1 (M + 10) = 40 ∧ S.2.1 (M + 10) = 8 ∧ S.1 (M + 11) = 40 ∧ S.2.1 (M + 11) = 8 ∧ S.1 (M + 12) = 40 ∧ S.2.1 (M + 12) = 8 ∧ S.1 (M + 13) = 40 ∧ S.2.1 (M + 13) = 8 ∧ S.1 (M + 14) = 40 ∧ S.2.1 (M + 14) = 8 ∧ S.1 (M + 15) = 40 ∧ S.2.1 (M + 15) = 8 ∧ S.1 (M + 16) = 40 ∧ S.2.1 (M + 16) = 8 ∧ S.1 (M + 17) = 40 ∧ S.2.1 (M + 17) = 8 ∧ S.1 (M + 18) = 44 ∧ S.2.1 (M + 18) = 8 ∧ S.1 (M + 19) = 40 ∧ S.2.1 (M + 19) = 8 ∧ S.1 (M + 20) = 40 ∧ S.2.1 (M + 20) = 8 ∧ S.1 (M + 21) = 40 ∧ S.2.1 (M + 21) = 8 ∧ S.1 (M + 22) = 40 ∧ S.2.1 (M + 22) = 8 ∧ S.1 (M + 23) = 40 ∧ S.2.1 (M + 23) = 8 ∧ S.1 (M + 24) = 40 ∧ S.2.1 (M + 24) = 200 ∧ S.1 (M + 25) = 40 ∧ S.2.1 (M + 25) = 8 ∧ S.1 (M + 26) = 40 ∧ S.2.1 (M + 26) = 8 ∧ S.1 (M + 27) = 40 ∧ S.2.1 (M + 27) = 8 ∧ S.1 (M + 28) = 42 ∧ S.2.1 (M + 28) = 1000 ∧ S.1 (M + 29) = 42 ∧ S.2.1 (M + 29) = 111 ∧ S.1 (M + 30) = 40 ∧ S.2.1 (M + 30) = 8 ∧ S.1 (M + 31) = 40 ∧ S.2.1 (M + 31) = 64 ∧ S.1 (M + 32) = 40 ∧ S.2.1 (M + 32) = 4 ∧ S.1 (M + 33) = 41 ∧ S.2.1 (M + 33) = 64 ∧ S.1 (M + 34) = 41 ∧ S.2.1 (M + 34) = 4 ∧ S.1 (M + 35) = 41 ∧ S.2.1 (M + 35) = 1095 ∧ S.1 (M + 36) = 41 ∧ S.2.1 (M + 36) = 14235 ∧ S.1 (M + 37) = 41 ∧ S.2.1 (M + 37) = 2190 ∧ S.1 (M + 38) = 44 ∧ S.2.1 (M + 38) = 2
theorem LMo.k {S : QS} {v : QV} {M : Int} (h : LMo S v M) : S.1 M = 13 := h.1
theorem LMo.p0 {S : QS} {v : QV} {M : Int} (h : LMo S v M) : v M 0 = M + 1 := h.2.1
theorem LMo.p1 {S : QS} {v : QV} {M : Int} (h : LMo S v M) : v M 1 = M + 2 := h.2.2.1
theorem LMo.p2 {S : QS} {v : QV} {M : Int} (h : LMo S v M) : v M 2 = M + 3 := h.2.2.2.1
theorem LMo.p3 {S : QS} {v : QV} {M : Int} (h : LMo S v M) : v M 3 = M + 4 := h.2.2.2.2.1
theorem LMo.p4 {S : QS} {v : QV} {M : Int} (h : LMo S v M) : v M 4 = M + 5 := h.2.2.2.2.2.1
theorem LMo.p5 {S : QS} {v : QV} {M : Int} (h : LMo S v M) : v M 5 = M + 6 := h.2.2.2.2.2.2.1
theorem LMo.p6 {S : QS} {v : QV} {M : Int} (h : LMo S v M) : v M 6 = M + 7 := h.2.2.2.2.2.2.2.1
theorem LMo.p7 {S : QS} {v : QV} {M : Int} (h : LMo S v M) : v M 7 = M + 8 := h.2.2.2.2.2.2.2.2.1
theorem LMo.p8 {S : QS} {v : QV} {M : Int} (h : LMo S v M) : v M 8 = M + 9 := h.2.2.2.2.2.2.2.2.2.1
theorem LMo.p9 {S : QS} {v : QV} {M : Int} (h : LMo S v M) : v M 9 = M + 10 := h.2.2.2.2.2.2.2.2.2.2.1
theorem LMo.p10 {S : QS} {v : QV} {M : Int} (h : LMo S v M) : v M 10 = M + 11 := h.2.2.2.2.2.2.2.2.2.2.2.1
theorem LMo.p11 {S : QS} {v : QV} {M : Int} (h : LMo S v M) : v M 11 = M + 12 := h.2.2.2.2.2.2.2.2.2.2.2.2.1
theorem LMo.p12 {S : QS} {v : QV} {M : Int} (h : LMo S v M) : v M 12 = M + 13 := h.2.2.2.2.2.2.2.2.2.2.2.2.2.1
theorem LMo.p13 {S : QS} {v : QV} {M : Int} (h : LMo S v M) : v M 13 = M + 14 := h.2.2.2.2.2.2.2.2.2.2.2.2.2.2.1
theorem LMo.p14 {S : QS} {v : QV} {M : Int} (h : LMo S v M) : v M 14 = M + 15 := h.2.2.2.2.2.2.2.2.2.2.2.2.2.2.2.1
theorem LMo.p15 {S : QS} {v : QV} {M : Int} (h : LMo S v M) : v M 15 = M + 16 := h.2.2.2.2.2.2.2.2.2.2.2.2.2.2.2.2.1
theorem LMo.p16 {S : QS} {v : QV} {M : Int} (h : LMo S v M) : v M 16 = M + 17 := h.2.2.2.2.2.2.2.2.2.2.2.2.2.2.2.2.2.1
theorem LMo.p17 {S : QS} {v : QV} {M : Int} (h : LMo S v M) : v M 17 = M + 18 := h.2.2.2.2.2.2.2.2.2.2.2.2.2.2.2.2.2.2.1
theorem LMo.p18 {S : QS} {v : QV} {M : Int} (h : LMo S v M) : v M 18 = M + 19 := h.2.2.2.2.2.2.2.2.2.2.2.2.2.2.2.2.2.2.2.1
theorem LMo.p19 {S : QS} {v : QV} {M : Int} (h : LMo S v M) : v M 19 = M + 20 := h.2.2.2.2.2.2.2.2.2.2.2.2.2.2.2.2.2.2.2.2.1
theorem LMo.p20 {S : QS} {v : QV} {M : Int} (h : LMo S v M) : v M 20 = M + 21 := h.2.2.2.2.2.2.2.2.2.2.2.2.2.2.2.2.2.2.2.2.2.1
theorem LMo.p21 {S : QS} {v : QV} {M : Int} (h : LMo S v M) : v M 21 = M + 22 := h.2.2.2.2.2.2.2.2.2.2.2.2.2.2.2.2.2.2.2.2.2.2.1
theorem LMo.p22 {S : QS} {v : QV} {M : Int} (h : LMo S v M) : v M 22 = M + 23 := h.2.2.2.2.2.2.2.2.2.2.2.2.2.2.2.2.2.2.2.2.2.2.2.1
theorem LMo.p23 {S : QS} {v : QV} {M : Int} (h : LMo S v M) : v M 23 = M + 24 := h.2.2.2.2.2.2.2.2.2.2.2.2.2.2.2.2.2.2.2.2.2.2.2.2.1
theorem LMo.p24 {S : QS} {v : QV} {M : Int} (h : LMo S v M) : v M 24 = M + 25 := h.2.2.2.2.2.2.2.2.2.2.2.2.2.2.2.2.2.2.2.2.2.2.2.2.2.1
theorem LMo.p25 {S : QS} {v : QV} {M : Int} (h : LMo S v M) : v M 25 = M + 26 := h.2.2.2.2.2.2.2.2.2.2.2.2.2.2.2.2.2.2.2.2.2.2.2.2.2.2.1
theorem LMo.p26 {S : QS} {v : QV} {M : Int} (h : LMo S v M) : v M 26 = M + 27 := h.2.2.2.2.2.2.2.2.2.2.2.2.2.2.2.2.2.2.2.2.2.2.2.2.2.2.2.1
theorem LMo.p29 {S : QS} {v : QV} {M : Int} (h : LMo S v M) : v M 29 = M + 28 := h.2.2.2.2.2.2.2.2.2.2.2.2.2.2.2.2.2.2.2.2.2.2.2.2.2.2.2.2.1
theorem LMo.p41 {S : QS} {v : QV} {M : Int} (h : LMo S v M) : v M 41 = M + 29 := h.2.2.2.2.2.2.2.2.2.2.2.2.2.2.2.2.2.2.2.2.2.2.2.2.2.2.2.2.2.1
theorem LMo.p42 {S : QS} {v : QV} {M : Int} (h : LMo S v M) : v M 42 = M + 30 := h.2.2.2.2.2.2.2.2.2.2.2.2.2.2.2.2.2.2.2.2.2.2.2.2.2.2.2.2.2.2.1
theorem LMo.p43 {S : QS} {v : QV} {M : Int} (h : LMo S v M) : v M 43 = M + 31 := h.2.2.2.2.2.2.2.2.2.2.2.2.2.2.2.2.2.2.2.2.2.2.2.2.2.2.2.2.2.2.2.1
theorem LMo.p46 {S : QS} {v : QV} {M : Int} (h : LMo S v M) : v M 46 = M + 32 := h.2.2.2.2.2.2.2.2.2.2.2.2.2.2.2.2.2.2.2.2.2.2.2.2.2.2.2.2.2.2.2.2.1
theorem LMo.p52 {S : QS} {v : QV} {M : Int} (h : LMo S v M) : v M 52 = M + 33 := h.2.2.2.2.2.2.2.2.2.2.2.2.2.2.2.2.2.2.2.2.2.2.2.2.2.2.2.2.2.2.2.2.2.1
theorem LMo.p53 {S : QS} {v : QV} {M : Int} (h : LMo S v M) : v M 53 = M + 34 := h.2.2.2.2.2.2.2.2.2.2.2.2.2.2.2.2.2.2.2.2.2.2.2.2.2.2.2.2.2.2.2.2.2.2.1
theorem LMo.p54 {S : QS} {v : QV} {M : Int} (h : LMo S v M) : v M 54 = M + 35 := h.2.2.2.2.2.2.2.2.2.2.2.2.2.2.2.2.2.2.2.2.2.2.2.2.2.2.2.2.2.2.2.2.2.2.2.1
theorem LMo.p55 {S : QS} {v : QV} {M : Int} (h : LMo S v M) : v M 55 = M + 36 := h.2.2.2.2.2.2.2.2.2.2.2.2.2.2.2.2.2.2.2.2.2.2.2.2.2.2.2.2.2.2.2.2.2.2.2.2.1
theorem LMo.p56 {S : QS} {v : QV} {M : Int} (h : LMo S v M) : v M 56 = M + 37 := h.2.2.2.2.2.2.2.2.2.2.2.2.2.2.2.2.2.2.2.2.2.2.2.2.2.2.2.2.2.2.2.2.2.2.2.2.2.1
theorem LMo.p57 {S : QS} {v : QV} {M : Int} (h : LMo S v M) : v M 57 = M + 38 := h.2.2.2.2.2.2.2.2.2.2.2.2.2.2.2.2.2.2.2.2.2.2.2.2.2.2.2.2.2.2.2.2.2.2.2.2.2.2.1
theorem LMo.a1 {S : QS} {v : QV} {M : Int} (h : LMo S v M) : S.1 (M + 1) = 41 := h.2.2.2.2.2.2.2.2.2.2.2.2.2.2.2.2.2.2.2.2.2.2.2.2.2.2.2.2.2.2.2.2.2.2.2.2.2.2.2.1
theorem LMo.n1 {S : QS} {v : QV} {M : Int} (h : LMo S v M) : S.2.1 (M + 1) = 1095 := h.2.2.2.2.2.2.2.2.2.2.2.2.2.2.2.2.2.2.2.2.2.2.2.2.2.2.2.2.2.2.2.2.2.2.2.2.2.2.2.2.1
theorem LMo.a2 {S : QS} {v : QV} {M : Int} (h : LMo S v M) : S.1 (M + 2) = 40 := h.2.2.2.2.2.2.2.2.2.2.2.2.2.2.2.2.2.2.2.2.2.2.2.2.2.2.2.2.2.2.2.2.2.2.2.2.2.2.2.2.2.1
theorem LMo.n2 {S : QS} {v : QV} {M : Int} (h : LMo S v M) : S.2.1 (M + 2) = 2 := h.2.2.2.2.2.2.2.2.2.2.2.2.2.2.2.2.2.2.2.2.2.2.2.2.2.2.2.2.2.2.2.2.2.2.2.2.2.2.2.2.2.2.1
theorem LMo.a3 {S : QS} {v : QV} {M : Int} (h : LMo S v M) : S.1 (M + 3) = 40 := h.2.2.2.2.2.2.2.2.2.2.2.2.2.2.2.2.2.2.2.2.2.2.2.2.2.2.2.2.2.2.2.2.2.2.2.2.2.2.2.2.2.2.2.1
theorem LMo.n3 {S : QS} {v : QV} {M : Int} (h : LMo S v M) : S.2.1 (M + 3) = 2 := h.2.2.2.2.2.2.2.2.2.2.2.2.2.2.2.2.2.2.2.2.2.2.2.2.2.2.2.2.2.2.2.2.2.2.2.2.2.2.2.2.2.2.2.2.1
theorem LMo.a4 {S : QS} {v : QV} {M : Int} (h : LMo S v M) : S.1 (M + 4) = 40 := h.2.2.2.2.2.2.2.2.2.2.2.2.2.2.2.2.2.2.2.2.2.2.2.2.2.2.2.2.2.2.2.2.2.2.2.2.2.2.2.2.2.2.2.2.2.1
theorem LMo.n4 {S : QS} {v : QV} {M : Int} (h : LMo S v M) : S.2.1 (M + 4) = 2 := h.2.2.2.2.2.2.2.2.2.2.2.2.2.2.2.2.2.2.2.2.2.2.2.2.2.2.2.2.2.2.2.2.2.2.2.2.2.2.2.2.2.2.2.2.2.2.1
theorem LMo.a5 {S : QS} {v : QV} {M : Int} (h : LMo S v M) : S.1 (M + 5) = 40 := h.2.2.2.2.2.2.2.2.2.2.2.2.2.2.2.2.2.2.2.2.2.2.2.2.2.2.2.2.2.2.2.2.2.2.2.2.2.2.2.2.2.2.2.2.2.2.2.1
theorem LMo.n5 {S : QS} {v : QV} {M : Int} (h : LMo S v M) : S.2.1 (M + 5) = 2 := h.2.2.2.2.2.2.2.2.2.2.2.2.2.2.2.2.2.2.2.2.2.2.2.2.2.2.2.2.2.2.2.2.2.2.2.2.2.2.2.2.2.2.2.2.2.2.2.2.1
theorem LMo.a6 {S : QS} {v : QV} {M : Int} (h : LMo S v M) : S.1 (M + 6) = 40 := h.2.2.2.2.2.2.2.2.2.2.2.2.2.2.2.2.2.2.2.2.2.2.2.2.2.2.2.2.2.2.2.2.2.2.2.2.2.2.2.2.2.2.2.2.2.2.2.2.2.1
theorem LMo.n6 {S : QS} {v : QV} {M : Int} (h : LMo S v M) : S.2.1 (M + 6) = 2 := h.2.2.2.2.2.2.2.2.2.2.2.2.2.2.2.2.2.2.2.2.2.2.2.2.2.2.2.2.2.2.2.2.2.2.2.2.2.2.2.2.2.2.2.2.2.2.2.2.2.2.1
theorem LMo.a7 {S : QS} {v : QV} {M : Int} (h : LMo S v M) : S.1 (M + 7) = 40 := h.2.2.2.2.2.2.2.2.2.2.2.2.2.2.2.2.2.2.2.2.2.2.2.2.2.2.2.2.2.2.2.2.2.2.2.2.2.2.2.2.2.2.2.2.2.2.2.2.2.2.2.1
theorem LMo.n7 {S : QS} {v : QV} {M : Int} (h : LMo S v M) : S.2.1 (M + 7) = 2 := h.2.2.2.2.2.2.2.2.2.2.2.2.2.2.2.2.2.2.2.2.2.2.2.2.2.2.2.2.2.2.2.2.2.2.2.2.2.2.2.2.2.2.2.2.2.2.2.2.2.2.2.2.1
theorem LMo.a8 {S : QS} {v : QV} {M : Int} (h : LMo S v M) : S.1 (M + 8) = 40 := h.2.2.2.2.2.2.2.2.2.2.2.2.2.2.2.2.2.2.2.2.2.2.2.2.2.2.2.2.2.2.2.2.2.2.2.2.2.2.2.2.2.2.2.2.2.2.2.2.2.2.2.2.2.1
theorem LMo.n8 {S : QS} {v : QV} {M : Int} (h : LMo S v M) : S.2.1 (M + 8) = 8 := h.2.2.2.2.2.2.2.2.2.2.2.2.2.2.2.2.2.2.2.2.2.2.2.2.2.2.2.2.2.2.2.2.2.2.2.2.2.2.2.2.2.2.2.2.2.2.2.2.2.2.2.2.2.2.1
theorem LMo.a9 {S : QS} {v : QV} {M : Int} (h : LMo S v M) : S.1 (M + 9) = 40 := h.2.2.2.2.2.2.2.2.2.2.2.2.2.2.2.2.2.2.2.2.2.2.2.2.2.2.2.2.2.2.2.2.2.2.2.2.2.2.2.2.2.2.2.2.2.2.2.2.2.2.2.2.2.2.2.1
theorem LMo.n9 {S : QS} {v : QV} {M : Int} (h : LMo S v M) : S.2.1 (M + 9) = 8 := h.2.2.2.2.2.2.2.2.2.2.2.2.2.2.2.2.2.2.2.2.2.2.2.2.2.2.2.2.2.2.2.2.2.2.2.2.2.2.2.2.2.2.2.2.2.2.2.2.2.2.2.2.2.2.2.2.1
theorem LMo.a10 {S : QS} {v : QV} {M : Int} (h : LMo S v M) : S.1 (M + 10) = 40 := h.2.2.2.2.2.2.2.2.2.2.2.2.2.2.2.2.2.2.2.2.2.2.2.2.2.2.2.2.2.2.2.2.2.2.2.2.2.2.2.2.2.2.2.2.2.2.2.2.2.2.2.2.2.2.2.2.2.1
theorem LMo.n10 {S : QS} {v : QV} {M : Int} (h : LMo S v M) : S.2.1 (M + 10) = 8 := h.2.2.2.2.2.2.2.2.2.2.2.2.2.2.2.2.2.2.2.2.2.2.2.2.2.2.2.2.2.2.2.2.2.2.2.2.2.2.2.2.2.2.2.2.2.2.2.2.2.2.2.2.2.2.2.2.2.2.1
theorem LMo.a11 {S : QS} {v : QV} {M : Int} (h : LMo S v M) : S.1 (M + 11) = 40 := h.2.2.2.2.2.2.2.2.2.2.2.2.2.2.2.2.2.2.2.2.2.2.2.2.2.2.2.2.2.2.2.2.2.2.2.2.2.2.2.2.2.2.2.2.2.2.2.2.2.2.2.2.2.2.2.2.2.2.2.1
theorem LMo.n11 {S : QS} {v : QV} {M : Int} (h : LMo S v M) : S.2.1 (M + 11) = 8 := h.2.2.2.2.2.2.2.2.2.2.2.2.2.2.2.2.2.2.2.2.2.2.2.2.2.2.2.2.2.2.2.2.2.2.2.2.2.2.2.2.2.2.2.2.2.2.2.2.2.2.2.2.2.2.2.2.2.2.2.2.1
theorem LMo.a12 {S : QS} {v : QV} {M : Int} (h : LMo S v M) : S.1 (M + 12) = 40 := h.2.2.2.2.2.2.2.2.2.2.2.2.2.2.2.2.2.2.2.2.2.2.2.2.2.2.2.2.2.2.2.2.2.2.2.2.2.2.2.2.2.2.2.2.2.2.2.2.2.2.2.2.2.2.2.2.2.2.2.2.2.1
theorem LMo.n12 {S : QS} {v : QV} {M : Int} (h : LMo S v M) : S.2.1 (M + 12) = 8 := h.2.2.2.2.2.2.2.2.2.2.2.2.2.2.2.2.2.2.2.2.2.2.2.2.2.2.2.2.2.2.2.2.2.2.2.2.2.2.2.2.2.2.2.2.2.2.2.2.2.2.2.2.2.2.2.2.2.2.2.2.2.2.1
theorem LMo.a13 {S : QS} {v : QV} {M : Int} (h : LMo S v M) : S.1 (M + 13) = 40 := h.2.2.2.2.2.2.2.2.2.2.2.2.2.2.2.2.2.2.2.2.2.2.2.2.2.2.2.2.2.2.2.2.2.2.2.2.2.2.2.2.2.2.2.2.2.2.2.2.2.2.2.2.2.2.2.2.2.2.2.2.2.2.2.1
theorem LMo.n13 {S : QS} {v : QV} {M : Int} (h : LMo S v M) : S.2.1 (M + 13) = 8 := h.2.2.2.2.2.2.2.2.2.2.2.2.2.2.2.2.2.2.2.2.2.2.2.2.2.2.2.2.2.2.2.2.2.2.2.2.2.2.2.2.2.2.2.2.2.2.2.2.2.2.2.2.2.2.2.2.2.2.2.2.2.2.2.2.1
theorem LMo.a14 {S : QS} {v : QV} {M : Int} (h : LMo S v M) : S.1 (M + 14) = 40 := h.2.2.2.2.2.2.2.2.2.2.2.2.2.2.2.2.2.2.2.2.2.2.2.2.2.2.2.2.2.2.2.2.2.2.2.2.2.2.2.2.2.2.2.2.2.2.2.2.2.2.2.2.2.2.2.2.2.2.2.2.2.2.2.2.2.1
theorem LMo.n14 {S : QS} {v : QV} {M : Int} (h : LMo S v M) : S.2.1 (M + 14) = 8 := h.2.2.2.2.2.2.2.2.2.2.2.2.2.2.2.2.2.2.2.2.2.2.2.2.2.2.2.2.2.2.2.2.2.2.2.2.2.2.2.2.2.2.2.2.2.2.2.2.2.2.2.2.2.2.2.2.2.2.2.2.2.2.2.2.2.2.1
theorem LMo.a15 {S : QS} {v : QV} {M : Int} (h : LMo S v M) : S.1 (M + 15) = 40 := h.2.2.2.2.2.2.2.2.2.2.2.2.2.2.2.2.2.2.2.2.2.2.2.2.2.2.2.2.2.2.2.2.2.2.2.2.2.2.2.2.2.2.2.2.2.2.2.2.2.2.2.2.2.2.2.2.2.2.2.2.2.2.2.2.2.2.2.1
theorem LMo.n15 {S : QS} {v : QV} {M : Int} (h : LMo S v M) : S.2.1 (M + 15) = 8 := h.2.2.2.2.2.2.2.2.2.2.2.2.2.2.2.2.2.2.2.2.2.2.2.2.2.2.2.2.2.2.2.2.2.2.2.2.2.2.2.2.2.2.2.2.2.2.2.2.2.2.2.2.2.2.2.2.2.2.2.2.2.2.2.2.2.2.2.2.1
theorem LMo.a16 {S : QS} {v : QV} {M : Int} (h : LMo S v M) : S.1 (M + 16) = 40 := h.2.2.2.2.2.2.2.2.2.2.2.2.2.2.2.2.2.2.2.2.2.2.2.2.2.2.2.2.2.2.2.2.2.2.2.2.2.2.2.2.2.2.2.2.2.2.2.2.2.2.2.2.2.2.2.2.2.2.2.2.2.2.2.2.2.2.2.2.2.1
theorem LMo.n16 {S : QS} {v : QV} {M : Int} (h : LMo S v M) : S.2.1 (M + 16) = 8 := h.2.2.2.2.2.2.2.2.2.2.2.2.2.2.2.2.2.2.2.2.2.2.2.2.2.2.2.2.2.2.2.2.2.2.2.2.2.2.2.2.2.2.2.2.2.2.2.2.2.2.2.2.2.2.2.2.2.2.2.2.2.2.2.2.2.2.2.2.2.2.1
theorem LMo.a17 {S : QS} {v : QV} {M : Int} (h : LMo S v M) : S.1 (M + 17) = 40 := h.2.2.2.2.2.2.2.2.2.2.2.2.2.2.2.2.2.2.2.2.2.2.2.2.2.2.2.2.2.2.2.2.2.2.2.2.2.2.2.2.2.2.2.2.2.2.2.2.2.2.2.2.2.2.2.2.2.2.2.2.2.2.2.2.2.2.2.2.2.2.2.1
theorem LMo.n17 {S : QS} {v : QV} {M : Int} (h : LMo S v M) : S.2.1 (M + 17) = 8 := h.2.2.2.2.2.2.2.2.2.2.2.2.2.2.2.2.2.2.2.2.2.2.2.2.2.2.2.2.2.2.2.2.2.2.2.2.2.2.2.2.2.2.2.2.2.2.2.2.2.2.2.2.2.2.2.2.2.2.2.2.2.2.2.2.2.2.2.2.2.2.2.2.1
theorem LMo.a18 {S : QS} {v : QV} {M : Int} (h : LMo S v M) : S.1 (M + 18) = 44 := h.2.2.2.2.2.2.2.2.2.2.2.2.2.2.2.2.2.2.2.2.2.2.2.2.2.2.2.2.2.2.2.2.2.2.2.2.2.2.2.2.2.2.2.2.2.2.2.2.2.2.2.2.2.2.2.2.2.2.2.2.2.2.2.2.2.2.2.2.2.2.2.2.2.1
theorem LMo.n18 {S : QS} {v : QV} {M : Int} (h : LMo S v M) : S.2.1 (M + 18) = 8 := h.2.2.2.2.2.2.2.2.2.2.2.2.2.2.2.2.2.2.2.2.2.2.2.2.2.2.2.2.2.2.2.2.2.2.2.2.2.2.2.2.2.2.2.2.2.2.2.2.2.2.2.2.2.2.2.2.2.2.2.2.2.2.2.2.2.2.2.2.2.2.2.2.2.2.1
theorem LMo.a19 {S : QS} {v : QV} {M : Int} (h : LMo S v M) : S.1 (M + 19) = 40 := h.2.2.2.2.2.2.2.2.2.2.2.2.2.2.2.2.2.2.2.2.2.2.2.2.2.2.2.2.2.2.2.2.2.2.2.2.2.2.2.2.2.2.2.2.2.2.2.2.2.2.2.2.2.2.2.2.2.2.2.2.2.2.2.2.2.2.2.2.2.2.2.2.2.2.2.1
theorem LMo.n19 {S : QS} {v : QV} {M : Int} (h : LMo S v M) : S.2.1 (M + 19) = 8 := h.2.2.2.2.2.2.2.2.2.2.2.2.2.2.2.2.2.2.2.2.2.2.2.2.2.2.2.2.2.2.2.2.2.2.2.2.2.2.2.2.2.2.2.2.2.2.2.2.2.2.2.2.2.2.2.2.2.2.2.2.2.2.2.2.2.2.2.2.2.2.2.2.2.2.2.2.1
theorem LMo.a20 {S : QS} {v : QV} {M : Int} (h : LMo S v M) : S.1 (M + 20) = 40 := h.2.2.2.2.2.2.2.2.2.2.2.2.2.2.2.2.2.2.2.2.2.2.2.2.2.2.2.2.2.2.2.2.2.2.2.2.2.2.2.2.2.2.2.2.2.2.2.2.2.2.2.2.2.2.2.2.2.2.2.2.2.2.2.2.2.2.2.2.2.2.2.2.2.2.2.2.2.1
theorem LMo.n20 {S : QS} {v : QV} {M : Int} (h : LMo S v M) : S.2.1 (M + 20) = 8 := h.2.2.2.2.2.2.2.2.2.2.2.2.2.2.2.2.2.2.2.2.2.2.2.2.2.2.2.2.2.2.2.2.2.2.2.2.2.2.2.2.2.2.2.2.2.2.2.2.2.2.2.2.2.2.2.2.2.2.2.2.2.2.2.2.2.2.2.2.2.2.2.2.2.2.2.2.2.2.1
theorem LMo.a21 {S : QS} {v : QV} {M : Int} (h : LMo S v M) : S.1 (M + 21) = 40 := h.2.2.2.2.2.2.2.2.2.2.2.2.2.2.2.2.2.2.2.2.2.2.2.2.2.2.2.2.2.2.2.2.2.2.2.2.2.2.2.2.2.2.2.2.2.2.2.2.2.2.2.2.2.2.2.2.2.2.2.2.2.2.2.2.2.2.2.2.2.2.2.2.2.2.2.2.2.2.2.1
theorem LMo.n21 {S : QS} {v : QV} {M : Int} (h : LMo S v M) : S.2.1 (M + 21) = 8 := h.2.2.2.2.2.2.2.2.2.2.2.2.2.2.2.2.2.2.2.2.2.2.2.2.2.2.2.2.2.2.2.2.2.2.2.2.2.2.2.2.2.2.2.2.2.2.2.2.2.2.2.2.2.2.2.2.2.2.2.2.2.2.2.2.2.2.2.2.2.2.2.2.2.2.2.2.2.2.2.2.1
theorem LMo.a22 {S : QS} {v : QV} {M : Int} (h : LMo S v M) : S.1 (M + 22) = 40 := h.2.2.2.2.2.2.2.2.2.2.2.2.2.2.2.2.2.2.2.2.2.2.2.2.2.2.2.2.2.2.2.2.2.2.2.2.2.2.2.2.2.2.2.2.2.2.2.2.2.2.2.2.2.2.2.2.2.2.2.2.2.2.2.2.2.2.2.2.2.2.2.2.2.2.2.2.2.2.2.2.2.1
theorem LMo.n22 {S : QS} {v : QV} {M : Int} (h : LMo S v M) : S.2.1 (M + 22) = 8 := h.2.2.2.2.2.2.2.2.2.2.2.2.2.2.2.2.2.2.2.2.2.2.2.2.2.2.2.2.2.2.2.2.2.2.2.2.2.2.2.2.2.2.2.2.2.2.2.2.2.2.2.2.2.2.2.2.2.2.2.2.2.2.2.2.2.2.2.2.2.2.2.2.2.2.2.2.2.2.2.2.2.2.1
theorem LMo.a23 {S : QS} {v : QV} {M : Int} (h : LMo S v M) : S.1 (M + 23) = 40 := h.2.2.2.2.2.2.2.2.2.2.2.2.2.2.2.2.2.2.2.2.2.2.2.2.2.2.2.2.2.2.2.2.2.2.2.2.2.2.2.2.2.2.2.2.2.2.2.2.2.2.2.2.2.2.2.2.2.2.2.2.2.2.2.2.2.2.2.2.2.2.2.2.2.2.2.2.2.2.2.2.2.2.2.1
theorem LMo.n23 {S : QS} {v : QV} {M : Int} (h : LMo S v M) : S.2.1 (M + 23) = 8 := h.2.2.2.2.2.2.2.2.2.2.2.2.2.2.2.2.2.2.2.2.2.2.2.2.2.2.2.2.2.2.2.2.2.2.2.2.2.2.2.2.2.2.2.2.2.2.2.2.2.2.2.2.2.2.2.2.2.2.2.2.2.2.2.2.2.2.2.2.2.2.2.2.2.2.2.2.2.2.2.2.2.2.2.2.1
theorem LMo.a24 {S : QS} {v : QV} {M : Int} (h : LMo S v M) : S.1 (M + 24) = 40 := h.2.2.2.2.2.2.2.2.2.2.2.2.2.2.2.2.2.2.2.2.2.2.2.2.2.2.2.2.2.2.2.2.2.2.2.2.2.2.2.2.2.2.2.2.2.2.2.2.2.2.2.2.2.2.2.2.2.2.2.2.2.2.2.2.2.2.2.2.2.2.2.2.2.2.2.2.2.2.2.2.2.2.2.2.2.1
theorem LMo.n24 {S : QS} {v : QV} {M : Int} (h : LMo S v M) : S.2.1 (M + 24) = 200 := h.2.2.2.2.2.2.2.2.2.2.2.2.2.2.2.2.2.2.2.2.2.2.2.2.2.2.2.2.2.2.2.2.2.2.2.2.2.2.2.2.2.2.2.2.2.2.2.2.2.2.2.2.2.2.2.2.2.2.2.2.2.2.2.2.2.2.2.2.2.2.2.2.2.2.2.2.2.2.2.2.2.2.2.2.2.2.1
theorem LMo.a25 {S : QS} {v : QV} {M : Int} (h : LMo S v M) : S.1 (M + 25) = 40 := h.2.2.2.2.2.2.2.2.2.2.2.2.2.2.2.2.2.2.2.2.2.2.2.2.2.2.2.2.2.2.2.2.2.2.2.2.2.2.2.2.2.2.2.2.2.2.2.2.2.2.2.2.2.2.2.2.2.2.2.2.2.2.2.2.2.2.2.2.2.2.2.2.2.2.2.2.2.2.2.2.2.2.2.2.2.2.2.1
theorem LMo.n25 {S : QS} {v : QV} {M : Int} (h : LMo S v M) : S.2.1 (M + 25) = 8 := h.2.2.2.2.2.2.2.2.2.2.2.2.2.2.2.2.2.2.2.2.2.2.2.2.2.2.2.2.2.2.2.2.2.2.2.2.2.2.2.2.2.2.2.2.2.2.2.2.2.2.2.2.2.2.2.2.2.2.2.2.2.2.2.2.2.2.2.2.2.2.2.2.2.2.2.2.2.2.2.2.2.2.2.2.2.2.2.2.1
theorem LMo.a26 {S : QS} {v : QV} {M : Int} (h : LMo S v M) : S.1 (M + 26) = 40 := h.2.2.2.2.2.2.2.2.2.2.2.2.2.2.2.2.2.2.2.2.2.2.2.2.2.2.2.2.2.2.2.2.2.2.2.2.2.2.2.2.2.2.2.2.2.2.2.2.2.2.2.2.2.2.2.2.2.2.2.2.2.2.2.2.2.2.2.2.2.2.2.2.2.2.2.2.2.2.2.2.2.2.2.2.2.2.2.2.2.1
theorem LMo.n26 {S : QS} {v : QV} {M : Int} (h : LMo S v M) : S.2.1 (M + 26) = 8 := h.2.2.2.2.2.2.2.2.2.2.2.2.2.2.2.2.2.2.2.2.2.2.2.2.2.2.2.2.2.2.2.2.2.2.2.2.2.2.2.2.2.2.2.2.2.2.2.2.2.2.2.2.2.2.2.2.2.2.2.2.2.2.2.2.2.2.2.2.2.2.2.2.2.2.2.2.2.2.2.2.2.2.2.2.2.2.2.2.2.2.1
theorem LMo.a27 {S : QS} {v : QV} {M : Int} (h : LMo S v M) : S.1 (M + 27) = 40 := h.2.2.2.2.2.2.2.2.2.2.2.2.2.2.2.2.2.2.2.2.2.2.2.2.2.2.2.2.2.2.2.2.2.2.2.2.2.2.2.2.2.2.2.2.2.2.2.2.2.2.2.2.2.2.2.2.2.2.2.2.2.2.2.2.2.2.2.2.2.2.2.2.2.2.2.2.2.2.2.2.2.2.2.2.2.2.2.2.2.2.2.1
theorem LMo.n27 {S : QS} {v : QV} {M : Int} (h : LMo S v M) : S.2.1 (M + 27) = 8 := h.2.2.2.2.2.2.2.2.2.2.2.2.2.2.2.2.2.2.2.2.2.2.2.2.2.2.2.2.2.2.2.2.2.2.2.2.2.2.2.2.2.2.2.2.2.2.2.2.2.2.2.2.2.2.2.2.2.2.2.2.2.2.2.2.2.2.2.2.2.2.2.2.2.2.2.2.2.2.2.2.2.2.2.2.2.2.2.2.2.2.2.2.1
theorem LMo.a28 {S : QS} {v : QV} {M : Int} (h : LMo S v M) : S.1 (M + 28) = 42 := h.2.2.2.2.2.2.2.2.2.2.2.2.2.2.2.2.2.2.2.2.2.2.2.2.2.2.2.2.2.2.2.2.2.2.2.2.2.2.2.2.2.2.2.2.2.2.2.2.2.2.2.2.2.2.2.2.2.2.2.2.2.2.2.2.2.2.2.2.2.2.2.2.2.2.2.2.2.2.2.2.2.2.2.2.2.2.2.2.2.2.2.2.2.1
theorem LMo.n28 {S : QS} {v : QV} {M : Int} (h : LMo S v M) : S.2.1 (M + 28) = 1000 := h.2.2.2.2.2.2.2.2.2.2.2.2.2.2.2.2.2.2.2.2.2.2.2.2.2.2.2.2.2.2.2.2.2.2.2.2.2.2.2.2.2.2.2.2.2.2.2.2.2.2.2.2.2.2.2.2.2.2.2.2.2.2.2.2.2.2.2.2.2.2.2.2.2.2.2.2.2.2.2.2.2.2.2.2.2.2.2.2.2.2.2.2.2.2.1
theorem LMo.a29 {S : QS} {v : QV} {M : Int} (h : LMo S v M) : S.1 (M + 29) = 42 := h.2.2.2.2.2.2.2.2.2.2.2.2.2.2.2.2.2.2.2.2.2.2.2.2.2.2.2.2.2.2.2.2.2.2.2.2.2.2.2.2.2.2.2.2.2.2.2.2.2.2.2.2.2.2.2.2.2.2.2.2.2.2.2.2.2.2.2.2.2.2.2.2.2.2.2.2.2.2.2.2.2.2.2.2.2.2.2.2.2.2.2.2.2.2.2.1
theorem LMo.n29 {S : QS} {v : QV} {M : Int} (h : LMo S v M) : S.2.1 (M + 29) = 111 := h.2.2.2.2.2.2.2.2.2.2.2.2.2.2.2.2.2.2.2.2.2.2.2.2.2.2.2.2.2.2.2.2.2.2.2.2.2.2.2.2.2.2.2.2.2.2.2.2.2.2.2.2.2.2.2.2.2.2.2.2.2.2.2.2.2.2.2.2.2.2.2.2.2.2.2.2.2.2.2.2.2.2.2.2.2.2.2.2.2.2.2.2.2.2.2.2.1
theorem LMo.a30 {S : QS} {v : QV} {M : Int} (h : LMo S v M) : S.1 (M + 30) = 40 := h.2.2.2.2.2.2.2.2.2.2.2.2.2.2.2.2.2.2.2.2.2.2.2.2.2.2.2.2.2.2.2.2.2.2.2.2.2.2.2.2.2.2.2.2.2.2.2.2.2.2.2.2.2.2.2.2.2.2.2.2.2.2.2.2.2.2.2.2.2.2.2.2.2.2.2.2.2.2.2.2.2.2.2.2.2.2.2.2.2.2.2.2.2.2.2.2.2.1
theorem LMo.n30 {S : QS} {v : QV} {M : Int} (h : LMo S v M) : S.2.1 (M + 30) = 8 := h.2.2.2.2.2.2.2.2.2.2.2.2.2.2.2.2.2.2.2.2.2.2.2.2.2.2.2.2.2.2.2.2.2.2.2.2.2.2.2.2.2.2.2.2.2.2.2.2.2.2.2.2.2.2.2.2.2.2.2.2.2.2.2.2.2.2.2.2.2.2.2.2.2.2.2.2.2.2.2.2.2.2.2.2.2.2.2.2.2.2.2.2.2.2.2.2.2.2.1
theorem LMo.a31 {S : QS} {v : QV} {M : Int} (h : LMo S v M) : S.1 (M + 31) = 40 := h.2.2.2.2.2.2.2.2.2.2.2.2.2.2.2.2.2.2.2.2.2.2.2.2.2.2.2.2.2.2.2.2.2.2.2.2.2.2.2.2.2.2.2.2.2.2.2.2.2.2.2.2.2.2.2.2.2.2.2.2.2.2.2.2.2.2.2.2.2.2.2.2.2.2.2.2.2.2.2.2.2.2.2.2.2.2.2.2.2.2.2.2.2.2.2.2.2.2.2.1
theorem LMo.n31 {S : QS} {v : QV} {M : Int} (h : LMo S v M) : S.2.1 (M + 31) = 64 := h.2.2.2.2.2.2.2.2.2.2.2.2.2.2.2.2.2.2.2.2.2.2.2.2.2.2.2.2.2.2.2.2.2.2.2.2.2.2.2.2.2.2.2.2.2.2.2.2.2.2.2.2.2.2.2.2.2.2.2.2.2.2.2.2.2.2.2.2.2.2.2.2.2.2.2.2.2.2.2.2.2.2.2.2.2.2.2.2.2.2.2.2.2.2.2.2.2.2.2.2.1
theorem LMo.a32 {S : QS} {v : QV} {M : Int} (h : LMo S v M) : S.1 (M + 32) = 40 := h.2.2.2.2.2.2.2.2.2.2.2.2.2.2.2.2.2.2.2.2.2.2.2.2.2.2.2.2.2.2.2.2.2.2.2.2.2.2.2.2.2.2.2.2.2.2.2.2.2.2.2.2.2.2.2.2.2.2.2.2.2.2.2.2.2.2.2.2.2.2.2.2.2.2.2.2.2.2.2.2.2.2.2.2.2.2.2.2.2.2.2.2.2.2.2.2.2.2.2.2.2.1
theorem LMo.n32 {S : QS} {v : QV} {M : Int} (h : LMo S v M) : S.2.1 (M + 32) = 4 := h.2.2.2.2.2.2.2.2.2.2.2.2.2.2.2.2.2.2.2.2.2.2.2.2.2.2.2.2.2.2.2.2.2.2.2.2.2.2.2.2.2.2.2.2.2.2.2.2.2.2.2.2.2.2.2.2.2.2.2.2.2.2.2.2.2.2.2.2.2.2.2.2.2.2.2.2.2.2.2.2.2.2.2.2.2.2.2.2.2.2.2.2.2.2.2.2.2.2.2.2.2.2.1
theorem LMo.a33 {S : QS} {v : QV} {M : Int} (h : LMo S v M) : S.1 (M + 33) = 41 := h.2.2.2.2.2.2.2.2.2.2.2.2.2.2.2.2.2.2.2.2.2.2.2.2.2.2.2.2.2.2.2.2.2.2.2.2.2.2.2.2.2.2.2.2.2.2.2.2.2.2.2.2.2.2.2.2.2.2.2.2.2.2.2.2.2.2.2.2.2.2.2.2.2.2.2.2.2.2.2.2.2.2.2.2.2.2.2.2.2.2.2.2.2.2.2.2.2.2.2.2.2.2.2.1
theorem LMo.n33 {S : QS} {v : QV} {M : Int} (h : LMo S v M) : S.2.1 (M + 33) = 64 := h.2.2.2.2.2.2.2.2.2.2.2.2.2.2.2.2.2.2.2.2.2.2.2.2.2.2.2.2.2.2.2.2.2.2.2.2.2.2.2.2.2.2.2.2.2.2.2.2.2.2.2.2.2.2.2.2.2.2.2.2.2.2.2.2.2.2.2.2.2.2.2.2.2.2.2.2.2.2.2.2.2.2.2.2.2.2.2.2.2.2.2.2.2.2.2.2.2.2.2.2.2.2.2.2.1
theorem LMo.a34 {S : QS} {v : QV} {M : Int} (h : LMo S v M) : S.1 (M + 34) = 41 := h.2.2.2.2.2.2.2.2.2.2.2.2.2.2.2.2.2.2.2.2.2.2.2.2.2.2.2.2.2.2.2.2.2.2.2.2.2.2.2.2.2.2.2.2.2.2.2.2.2.2.2.2.2.2.2.2.2.2.2.2.2.2.2.2.2.2.2.2.2.2.2.2.2.2.2.2.2.2.2.2.2.2.2.2.2.2.2.2.2.2.2.2.2.2.2.2.2.2.2.2.2.2.2.2.2.1
theorem LMo.n34 {S : QS} {v : QV} {M : Int} (h : LMo S v M) : S.2.1 (M + 34) = 4 := h.2.2.2.2.2.2.2.2.2.2.2.2.2.2.2.2.2.2.2.2.2.2.2.2.2.2.2.2.2.2.2.2.2.2.2.2.2.2.2.2.2.2.2.2.2.2.2.2.2.2.2.2.2.2.2.2.2.2.2.2.2.2.2.2.2.2.2.2.2.2.2.2.2.2.2.2.2.2.2.2.2.2.2.2.2.2.2.2.2.2.2.2.2.2.2.2.2.2.2.2.2.2.2.2.2.2.1
theorem LMo.a35 {S : QS} {v : QV} {M : Int} (h : LMo S v M) : S.1 (M + 35) = 41 := h.2.2.2.2.2.2.2.2.2.2.2.2.2.2.2.2.2.2.2.2.2.2.2.2.2.2.2.2.2.2.2.2.2.2.2.2.2.2.2.2.2.2.2.2.2.2.2.2.2.2.2.2.2.2.2.2.2.2.2.2.2.2.2.2.2.2.2.2.2.2.2.2.2.2.2.2.2.2.2.2.2.2.2.2.2.2.2.2.2.2.2.2.2.2.2.2.2.2.2.2.2.2.2.2.2.2.2.1
theorem LMo.n35 {S : QS} {v : QV} {M : Int} (h : LMo S v M) : S.2.1 (M + 35) = 1095 := h.2.2.2.2.2.2.2.2.2.2.2.2.2.2.2.2.2.2.2.2.2.2.2.2.2.2.2.2.2.2.2.2.2.2.2.2.2.2.2.2.2.2.2.2.2.2.2.2.2.2.2.2.2.2.2.2.2.2.2.2.2.2.2.2.2.2.2.2.2.2.2.2.2.2.2.2.2.2.2.2.2.2.2.2.2.2.2.2.2.2.2.2.2.2.2.2.2.2.2.2.2.2.2.2.2.2.2.2.1
theorem LMo.a36 {S : QS} {v : QV} {M : Int} (h : LMo S v M) : S.1 (M + 36) = 41 := h.2.2.2.2.2.2.2.2.2.2.2.2.2.2.2.2.2.2.2.2.2.2.2.2.2.2.2.2.2.2.2.2.2.2.2.2.2.2.2.2.2.2.2.2.2.2.2.2.2.2.2.2.2.2.2.2.2.2.2.2.2.2.2.2.2.2.2.2.2.2.2.2.2.2.2.2.2.2.2.2.2.2.2.2.2.2.2.2.2.2.2.2.2.2.2.2.2.2.2.2.2.2.2.2.2.2.2.2.2.1
theorem LMo.n36 {S : QS} {v : QV} {M : Int} (h : LMo S v M) : S.2.1 (M + 36) = 14235 := h.2.2.2.2.2.2.2.2.2.2.2.2.2.2.2.2.2.2.2.2.2.2.2.2.2.2.2.2.2.2.2.2.2.2.2.2.2.2.2.2.2.2.2.2.2.2.2.2.2.2.2.2.2.2.2.2.2.2.2.2.2.2.2.2.2.2.2.2.2.2.2.2.2.2.2.2.2.2.2.2.2.2.2.2.2.2.2.2.2.2.2.2.2.2.2.2.2.2.2.2.2.2.2.2.2.2.2.2.2.2.1
theorem LMo.a37 {S : QS} {v : QV} {M : Int} (h : LMo S v M) : S.1 (M + 37) = 41 := h.2.2.2.2.2.2.2.2.2.2.2.2.2.2.2.2.2.2.2.2.2.2.2.2.2.2.2.2.2.2.2.2.2.2.2.2.2.2.2.2.2.2.2.2.2.2.2.2.2.2.2.2.2.2.2.2.2.2.2.2.2.2.2.2.2.2.2.2.2.2.2.2.2.2.2.2.2.2.2.2.2.2.2.2.2.2.2.2.2.2.2.2.2.2.2.2.2.2.2.2.2.2.2.2.2.2.2.2.2.2.2.1
theorem LMo.n37 {S : QS} {v : QV} {M : Int} (h : LMo S v M) : S.2.1 (M + 37) = 2190 := h.2.2.2.2.2.2.2.2.2.2.2.2.2.2.2.2.2.2.2.2.2.2.2.2.2.2.2.2.2.2.2.2.2.2.2.2.2.2.2.2.2.2.2.2.2.2.2.2.2.2.2.2.2.2.2.2.2.2.2.2.2.2.2.2.2.2.2.2.2.2.2.2.2.2.2.2.2.2.2.2.2.2.2.2.2.2.2.2.2.2.2.2.2.2.2.2.2.2.2.2.2.2.2.2.2.2.2.2.2.2.2.2.1
theorem LMo.a38 {S : QS} {v : QV} {M : Int} (h : LMo S v M) : S.1 (M + 38) = 44 := h.2.2.2.2.2.2.2.2.2.2.2.2.2.2.2.2.2.2.2.2.2.2.2.2.2.2.2.2.2.2.2.2.2.2.2.2.2.2.2.2.2.2.2.2.2.2.2.2.2.2.2.2.2.2.2.2.2.2.2.2.2.2.2.2.2.2.2.2.2.2.2.2.2.2.2.2.2.2.2.2.2.2.2.2.2.2.2.2.2.2.2.2.2.2.2.2.2.2.2.2.2.2.2.2.2.2.2.2.2.2.2.2.2.1
theorem LMo.n38 {S : QS} {v : QV} {M : Int} (h : LMo S v M) : S.2.1 (M + 38) = 2 := h.2.2.2.2.2.2.2.2.2.2.2.2.2.2.2.2.2.2.2.2.2.2.2.2.2.2.2.2.2.2.2.2.2.2.2.2.2.2.2.2.2.2.2.2.2.2.2.2.2.2.2.2.2.2.2.2.2.2.2.2.2.2.2.2.2.2.2.2.2.2.2.2.2.2.2.2.2.2.2.2.2.2.2.2.2.2.2.2.2.2.2.2.2.2.2.2.2.2.2.2.2.2.2.2.2.2.2.2.2.2.2.2.2.2
theorem LMo.keep {S : QS} {v w : QV} {M : Int} (hk : Kp S v w) (h : LMo S v M) : LMo S w M := by
  exact ⟨h.k, (hk _ _ (by rw [h.k]; rfl) (by rw [h.k]; rfl)).trans h.p0, (hk _ _ (by rw [h.k]; rfl) (by rw [h.k]; rfl)).trans h.p1, (hk _ _ (by rw [h.k]; rfl) (by rw [h.k]; rfl)).trans h.p2, (hk _ _ (by rw [h.k]; rfl) (by rw [h.k]; rfl)).trans h.p3, (hk _ _ (by rw [h.k]; rfl) (by rw [h.k]; rfl)).trans h.p4, (hk _ _ (by rw [h.k]; rfl) (by rw [h.k]; rfl)).trans h.p5, (hk _ _ (by rw [h.k]; rfl) (by rw [h.k]; rfl)).trans h.p6, (hk _ _ (by rw [h.k]; rfl) (by rw [h.k]; rfl)).trans h.p7, (hk _ _ (by rw [h.k]; rfl) (by rw [h.k]; rfl)).trans h.p8, (hk _ _ (by rw [h.k]; rfl) (by rw [h.k]; rfl)).trans h.p9, (hk _ _ (by rw [h.k]; rfl) (by rw [h.k]; rfl)).trans h.p10, (hk _ _ (by rw [h.k]; rfl) (by rw [h.k]; rfl)).trans h.p11, (hk _ _ (by rw [h.k]; rfl) (by rw [h.k]; rfl)).trans h.p12, (hk _ _ (by rw [h.k]; rfl) (by rw [h.k]; rfl)).trans h.p13, (hk _ _ (by rw [h.k]; rfl) (by rw [h.k]; rfl)).trans h.p14, (hk _ _ (by rw [h.k]; rfl) (by rw [h.k]; rfl)).trans h.p15, (hk _ _ (by rw [h.k]; rfl) (by rw [h.k]; rfl)).trans h.p16, (hk _ _ (by rw [h.k]; rfl) (by rw [h.k]; rfl)).trans h.p17, (hk _ _ (by rw [h.k]; rfl) (by rw [h.k]; rfl)).trans h.p18, (hk _ _ (by rw [h.k]; rfl) (by rw [h.k]; rfl)).trans h.p19, (hk _ _ (by rw [h.k]; rfl) (by rw [h.k]; rfl)).trans h.p20, (hk _ _ (by rw [h.k]; rfl) (by rw [h.k]; rfl)).trans h.p21, (hk _ _ (by rw [h.k]; rfl) (by rw [h.k]; rfl)).trans h.p22, (hk _ _ (by rw [h.k]; rfl) (by rw [h.k]; rfl)).trans h.p23, (hk _ _ (by rw [h.k]; rfl) (by rw [h.k]; rfl)).trans h.p24, (hk _ _ (by rw [h.k]; rfl) (by rw [h.k]; rfl)).trans h.p25, (hk _ _ (by rw [h.k]; rfl) (by rw [h.k]; rfl)).trans h.p26, (hk _ _ (by rw [h.k]; rfl) (by rw [h.k]; rfl)).trans h.p29, (hk _ _ (by rw [h.k]; rfl) (by rw [h.k]; rfl)).trans h.p41, (hk _ _ (by rw [h.k]; rfl) (by rw [h.k]; rfl)).trans h.p42, (hk _ _ (by rw [h.k]; rfl) (by rw [h.k]; rfl)).trans h.p43, (hk _ _ (by rw [h.k]; rfl) (by rw [h.k]; rfl)).trans h.p46, (hk _ _ (by rw [h.k]; rfl) (by rw [h.k]; rfl)).trans h.p52, (hk _ _ (by rw [h.k]; rfl) (by rw [h.k]; rfl)).trans h.p53, (hk _ _ (by rw [h.k]; rfl) (by rw [h.k]; rfl)).trans h.p54, (hk _ _ (by rw [h.k]; rfl) (by rw [h.k]; rfl)).trans h.p55, (hk _ _ (by rw [h.k]; rfl) (by rw [h.k]; rfl)).trans h.p56, (hk _ _ (by rw [h.k]; rfl) (by rw [h.k]; rfl)).trans h.p57, h.a1, h.n1, h.a2, h.n2, h.a3, h.n3, h.a4, h.n4, h.a5, h.n5, h.a6, h.n6, h.a7, h.n7, h.a8, h.n8, h.a9, h.n9, h.a10, h.n10, h.a11, h.n11, h.a12, h.n12, h.a13, h.n13, h.a14, h.n14, h.a15, h.n15, h.a16, h.n16, h.a17, h.n17, h.a18, h.n18, h.a19, h.n19, h.a20, h.n20, h.a21, h.n21, h.a22, h.n22, h.a23, h.n23, h.a24, h.n24, h.a25, h.n25, h.a26, h.n26, h.a27, h.n27, h.a28, h.n28, h.a29, h.n29, h.a30, h.n30, h.a31, h.n31, h.a32, h.n32, h.a33, h.n33, h.a34, h.n34, h.a35, h.n35, h.a36, h.n36, h.a37, h.n37, h.a38, h.n38⟩
