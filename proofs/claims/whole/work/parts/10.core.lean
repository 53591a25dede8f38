/-! VALUES AS WHOLE NUMBERS: 0 int, 1 long, 2 reference (-1: null), 3 boolean, 4 byte, 5 char, 9 nothing -/
def vo : Nat → Int → Value
  | 1, z => .long (Int64.ofInt z)
  | 2, z => if z < 0 then .null else .ref z.toNat
  | _, z => .int (Int32.ofInt z)
def ir : Nat → Int → Prop
  | 1, z => -9223372036854775808 ≤ z ∧ z < 9223372036854775808
  | 2, z => -1 ≤ z
  | 3, z => 0 ≤ z ∧ z ≤ 1
  | 4, z => -128 ≤ z ∧ z < 128
  | 5, z => 0 ≤ z ∧ z < 65536
  | _, z => -2147483648 ≤ z ∧ z < 2147483648
def ct : Nat → Nat
  | 1 => 2
  | _ => 1
def w8 (z : Int) : Int := (z + 128) % 256 - 128
def w32 (z : Int) : Int := (z + 2147483648) % 4294967296 - 2147483648
def w64 (z : Int) : Int := (z + 9223372036854775808) % 18446744073709551616 - 9223372036854775808
theorem w32_ir (z : Int) : ir 0 (w32 z) := by show _ ∧ _; unfold w32; omega
theorem w64_ir (z : Int) : ir 1 (w64 z) := by show _ ∧ _; unfold w64; omega
theorem w32_id {z : Int} (h : ir 0 z) : w32 z = z := by have h : _ ∧ _ := h; unfold w32; omega
theorem w64_id {z : Int} (h : ir 1 z) : w64 z = z := by have h : _ ∧ _ := h; unfold w64; omega
theorem ir_0l {z : Int} (h : ir 0 z) : ir 1 z := by have h : _ ∧ _ := h; show _ ∧ _; omega
theorem ir_30 {z : Int} (h : ir 3 z) : ir 0 z := by have h : _ ∧ _ := h; show _ ∧ _; omega
theorem ir_40 {z : Int} (h : ir 4 z) : ir 0 z := by have h : _ ∧ _ := h; show _ ∧ _; omega
theorem ir_50 {z : Int} (h : ir 5 z) : ir 0 z := by have h : _ ∧ _ := h; show _ ∧ _; omega
theorem vo_ct (τ : Nat) (z : Int) : (vo τ z).category = ct τ := by
  unfold vo ct
  split
  · rfl
  · rename_i h; split <;> rfl
  · rename_i h1 h2
    split
    · rename_i h3; exact absurd rfl h1
    · rfl
theorem i_toInt {z : Int} (h : ir 0 z) : (Int32.ofInt z).toInt = z := by
  have h : _ ∧ _ := h
  exact Int32.toInt_ofInt_of_le (by omega) (by omega)
theorem l_toInt {z : Int} (h : ir 1 z) : (Int64.ofInt z).toInt = z := by
  have h : _ ∧ _ := h
  exact Int64.toInt_ofInt_of_le (by omega) (by omega)
theorem i_nat {z : Int} (h : ir 0 z) : (Int32.ofInt z).toNatClampNeg = z.toNat := by
  have h : _ ∧ _ := h
  exact Int32.toNatClampNeg_ofInt_of_le (by omega) (by omega)
theorem i_w (z : Int) : Int32.ofInt (w32 z) = Int32.ofInt z := by
  apply Int32.toInt_inj.mp
  rw [Int32.toInt_ofInt, Int32.toInt_ofInt]
  show Int.bmod _ 4294967296 = Int.bmod _ 4294967296
  rw [Int.bmod_def, Int.bmod_def]
  unfold w32
  split <;> split <;> omega
theorem l_w (z : Int) : Int64.ofInt (w64 z) = Int64.ofInt z := by
  apply Int64.toInt_inj.mp
  rw [Int64.toInt_ofInt, Int64.toInt_ofInt]
  show Int.bmod _ 18446744073709551616 = Int.bmod _ 18446744073709551616
  rw [Int.bmod_def, Int.bmod_def]
  unfold w64
  split <;> split <;> omega
theorem i_of (x : Int32) : ir 0 x.toInt := ⟨x.le_toInt, x.toInt_lt⟩
theorem l_of (x : Int64) : ir 1 x.toInt := ⟨x.le_toInt, x.toInt_lt⟩
theorem i_eqI {a b : Int} (ha : ir 0 a) (hb : ir 0 b) : Int32.ofInt a = Int32.ofInt b ↔ a = b :=
  ⟨fun h => by rw [← i_toInt ha, h, i_toInt hb], fun h => by rw [h]⟩
theorem i_ltI {a b : Int} (ha : ir 0 a) (hb : ir 0 b) : Int32.ofInt a < Int32.ofInt b ↔ a < b := by
  rw [Int32.lt_iff_toInt_lt, i_toInt ha, i_toInt hb]
theorem i_leI {a b : Int} (ha : ir 0 a) (hb : ir 0 b) : Int32.ofInt a ≤ Int32.ofInt b ↔ a ≤ b := by
  rw [Int32.le_iff_toInt_le, i_toInt ha, i_toInt hb]
theorem l_eqI {a b : Int} (ha : ir 1 a) (hb : ir 1 b) : Int64.ofInt a = Int64.ofInt b ↔ a = b :=
  ⟨fun h => by rw [← l_toInt ha, h, l_toInt hb], fun h => by rw [h]⟩
theorem l_ltI {a b : Int} (ha : ir 1 a) (hb : ir 1 b) : Int64.ofInt a < Int64.ofInt b ↔ a < b := by
  rw [Int64.lt_iff_toInt_lt, l_toInt ha, l_toInt hb]
theorem i_add (a b : Int) : Value.int (Int32.ofInt a + Int32.ofInt b) = vo 0 (w32 (a + b)) := by
  show _ = Value.int (Int32.ofInt (w32 (a + b))); rw [i_w, Int32.ofInt_add]
theorem i_sub (a b : Int) : Value.int (Int32.ofInt a - Int32.ofInt b) = vo 0 (w32 (a - b)) := by
  show _ = Value.int (Int32.ofInt (w32 (a - b))); rw [i_w, Int32.ofInt_sub]
theorem i_mul (a b : Int) : Value.int (Int32.ofInt a * Int32.ofInt b) = vo 0 (w32 (a * b)) := by
  show _ = Value.int (Int32.ofInt (w32 (a * b))); rw [i_w, Int32.ofInt_mul]
theorem l_add (a b : Int) : Value.long (Int64.ofInt a + Int64.ofInt b) = vo 1 (w64 (a + b)) := by
  show _ = Value.long (Int64.ofInt (w64 (a + b))); rw [l_w, Int64.ofInt_add]
theorem l_sub (a b : Int) : Value.long (Int64.ofInt a - Int64.ofInt b) = vo 1 (w64 (a - b)) := by
  show _ = Value.long (Int64.ofInt (w64 (a - b))); rw [l_w, Int64.ofInt_sub]
theorem l_mul (a b : Int) : Value.long (Int64.ofInt a * Int64.ofInt b) = vo 1 (w64 (a * b)) := by
  show _ = Value.long (Int64.ofInt (w64 (a * b))); rw [l_w, Int64.ofInt_mul]
theorem i_div {a b : Int} (ha : ir 0 a) (hb : ir 0 b) : Int32.ofInt a / Int32.ofInt b = Int32.ofInt (a.tdiv b) := by
  apply Int32.toInt_inj.mp
  rw [Int32.toInt_div, i_toInt ha, i_toInt hb, Int32.toInt_ofInt]
theorem l_div {a b : Int} (ha : ir 1 a) (hb : ir 1 b) : Int64.ofInt a / Int64.ofInt b = Int64.ofInt (a.tdiv b) := by
  apply Int64.toInt_inj.mp
  rw [Int64.toInt_div, l_toInt ha, l_toInt hb, Int64.toInt_ofInt]
theorem tm_eq (a b : Int) : a - a.tdiv b * b = a.tmod b := by
  have h := Int.tdiv_mul_add_tmod a b
  omega
theorem i_rem {a b : Int} (ha : ir 0 a) (hb : ir 0 b) : Int32.ofInt a - Int32.ofInt a / Int32.ofInt b * Int32.ofInt b = Int32.ofInt (a.tmod b) := by
  rw [i_div ha hb, ← Int32.ofInt_mul, ← Int32.ofInt_sub, tm_eq]
theorem l_rem {a b : Int} (ha : ir 1 a) (hb : ir 1 b) : Int64.ofInt a - Int64.ofInt a / Int64.ofInt b * Int64.ofInt b = Int64.ofInt (a.tmod b) := by
  rw [l_div ha hb, ← Int64.ofInt_mul, ← Int64.ofInt_sub, tm_eq]
theorem i_l {a : Int} (h : ir 0 a) : (Int32.ofInt a).toInt64 = Int64.ofInt a := by
  apply Int64.toInt_inj.mp
  rw [Int32.toInt_toInt64, i_toInt h, l_toInt (ir_0l h)]
theorem l_i (a : Int) (h : ir 1 a) : (Int64.ofInt a).toInt32 = Int32.ofInt a := by
  apply Int32.toInt_inj.mp
  rw [Int64.toInt_toInt32, l_toInt h, Int32.toInt_ofInt]
theorem i_lit {n : Int} (h : ir 0 n) : Value.int (Int32.ofInt n) = vo 0 n := rfl
