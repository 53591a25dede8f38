/-! RULES: shifts, masks, narrowings, the JDK's max, min, abs -/
theorem bvn (z : Int) : (Int32.ofInt z).toBitVec.toNat = (z % 4294967296).toNat := by
  rw [show (Int32.ofInt z).toBitVec = BitVec.ofInt 32 z from rfl, BitVec.toNat_ofInt]
  rfl
theorem bv_eq {x : Int32} {z : Int} (h : x.toBitVec.toNat = (z % 4294967296).toNat) : x = Int32.ofInt z := by
  apply Int32.toBitVec_inj.mp
  apply BitVec.eq_of_toNat_eq
  rw [h, bvn]
theorem mm_eq (a q m : Int) : a * q % m = (a % m * q) % m := by
  rw [Int.mul_emod a q m, Int.mul_emod (a % m) q m, Int.emod_emod_of_dvd _ (Int.dvd_refl m)]
theorem us_eq (n q : Nat) (h : n < 4294967296) : n / q = (w32 (((n / q : Nat) : Int)) % 4294967296).toNat := by
  have : n / q ≤ n := Nat.div_le_self _ _
  generalize n / q = z at this
  unfold w32
  omega
theorem nI_of_int (n : Nat) : nI n = Int32.ofInt n := (Int32.ofInt_eq_ofNat).symm
theorem m31 (y : Int) : Int32.ofInt y &&& 31 = nI (y % 32).toNat := by
  rw [pk_and (Int32.ofInt y) 5 (by decide), bvn]
  congr 1
  omega
theorem sm31 : ∀ n : Nat, n < 32 → ((nI n).toBitVec.smod 32).toNat = n := by decide +kernel
theorem iSh_ok (x y : Int) : Value.int (Int32.ofInt x <<< (Int32.ofInt y &&& 31)) = vo 0 (iSh x y) := by
  rw [vo0]
  refine congrArg Value.int ?_
  unfold iSh
  rw [i_w, m31]
  apply bv_eq
  rw [pk_shl _ _ _ (sm31 (y % 32).toNat (by omega)), bvn]
  generalize (y % 32).toNat = k
  have e : ((2 : Int) ^ k) = ((2 ^ k : Nat) : Int) := by simp
  rw [e]
  generalize (2 ^ k : Nat) = q
  have h1 : (x * (q : Int)) % 4294967296 = (((x % 4294967296).toNat * q % 2 ^ 32 : Nat) : Int) := by
    rw [Int.natCast_emod, Int.natCast_mul, Int.toNat_of_nonneg (Int.emod_nonneg _ (by decide))]
    rw [show ((2 ^ 32 : Nat) : Int) = 4294967296 from rfl]
    exact mm_eq _ _ _
  rw [h1]
  rfl
theorem iSr_ok {x y : Int} (hx : ir 0 x) : Value.int (Int32.ofInt x >>> (Int32.ofInt y &&& 31)) = vo 0 (iSr x y) := by
  rw [vo0]
  refine congrArg Value.int ?_
  apply Int32.toInt_inj.mp
  rw [m31, pk_shr _ _ _ (sm31 (y % 32).toNat (by omega)), i_toInt hx, Int.shiftRight_eq_div_pow]
  have hx2 : _ ∧ _ := hx
  unfold iSr
  generalize (y % 32).toNat = k
  have hp : (1 : Int) ≤ 2 ^ k := by
    have : (0 : Int) < 2 ^ k := Int.pow_pos (by decide)
    omega
  have e : ((2 ^ k : Nat) : Int) = (2 : Int) ^ k := by simp
  rw [e]
  symm
  apply i_toInt
  generalize (2 : Int) ^ k = q at hp
  have b1 : -2147483648 ≤ x / q := by
    rw [Int.le_ediv_iff_mul_le (by omega)]
    have : 0 ≤ 2147483648 * (q - 1) := Int.mul_nonneg (by decide) (by omega)
    have e2 : 2147483648 * (q - 1) = 2147483648 * q - 2147483648 := by omega
    omega
  have b2 : x / q < 2147483648 := by
    apply Int.ediv_lt_of_lt_mul (by omega)
    have : 0 ≤ 2147483648 * (q - 1) := Int.mul_nonneg (by decide) (by omega)
    omega
  exact ⟨b1, b2⟩
theorem iSr_ir {x y : Int} (hx : ir 0 x) : ir 0 (iSr x y) := by
  have h := i_of (Int32.ofInt x >>> (Int32.ofInt y &&& 31))
  have e := iSr_ok (y := y) hx
  have hx2 : _ ∧ _ := hx
  unfold iSr
  generalize (y % 32).toNat = k
  have hp : (1 : Int) ≤ 2 ^ k := by
    have : (0 : Int) < 2 ^ k := Int.pow_pos (by decide)
    omega
  generalize (2 : Int) ^ k = q at hp
  have b1 : -2147483648 ≤ x / q := by
    rw [Int.le_ediv_iff_mul_le (by omega)]
    have : 0 ≤ 2147483648 * (q - 1) := Int.mul_nonneg (by decide) (by omega)
    omega
  have b2 : x / q < 2147483648 := by
    apply Int.ediv_lt_of_lt_mul (by omega)
    have : 0 ≤ 2147483648 * (q - 1) := Int.mul_nonneg (by decide) (by omega)
    omega
  exact ⟨b1, b2⟩
theorem iUs_ok (x y : Int) : (Int32.ofInt x).toUInt32 >>> ((Int32.ofInt y).toUInt32 &&& Int32.toUInt32 31) = (Int32.ofInt (iUs x y)).toUInt32 := by
  have hs : (((Int32.ofInt y).toUInt32 &&& Int32.toUInt32 31).toBitVec % 32).toNat = (y % 32).toNat := by
    rw [BitVec.toNat_umod]
    show (((Int32.ofInt y).toBitVec &&& 31).toNat) % 32 = _
    rw [BitVec.toNat_and, bvn]
    rw [show (31 : BitVec 32).toNat = 2 ^ 5 - 1 from rfl, Nat.and_two_pow_sub_one_eq_mod]
    omega
  have h := pk_ushr (Int32.ofInt x) (Int32.ofInt y) _ hs
  have e : ((Int32.ofInt x).toUInt32 >>> ((Int32.ofInt y).toUInt32 &&& Int32.toUInt32 31)).toInt32 = Int32.ofInt (iUs x y) := by
    apply bv_eq
    rw [h, bvn]
    unfold iUs
    generalize (y % 32).toNat = k
    have e2 : ((2 : Int) ^ k) = ((2 ^ k : Nat) : Int) := by simp
    rw [e2]
    clear h hs
    generalize (2 ^ k : Nat) = q
    have b0 : 0 ≤ x % 4294967296 := Int.emod_nonneg _ (by decide)
    have b1 : x % 4294967296 < 4294967296 := Int.emod_lt_of_pos _ (by decide)
    generalize x % 4294967296 = u at b0 b1
    obtain ⟨n, rfl⟩ := Int.eq_ofNat_of_zero_le b0
    have e3 : ((n : Int) / (q : Int)) = ((n / q : Nat) : Int) := by simp
    rw [e3]
    exact us_eq n q (by omega)
  have e4 := congrArg Int32.toUInt32 e
  simpa using e4
theorem iAn_ok (x y : Int) : Value.int (Int32.ofInt x &&& Int32.ofInt y) = vo 0 (iAn x y) := by
  rw [vo0]
  refine congrArg Value.int ?_
  unfold iAn
  rw [i_w]
  apply bv_eq
  rw [show (Int32.ofInt x &&& Int32.ofInt y).toBitVec = (Int32.ofInt x).toBitVec &&& (Int32.ofInt y).toBitVec from rfl, BitVec.toNat_and, bvn, bvn]
  have h1 : (x % 4294967296).toNat &&& (y % 4294967296).toNat ≤ (x % 4294967296).toNat := Nat.and_le_left
  omega
theorem iOr_ok (x y : Int) : Value.int (Int32.ofInt x ||| Int32.ofInt y) = vo 0 (iOr x y) := by
  rw [vo0]
  refine congrArg Value.int ?_
  unfold iOr
  rw [i_w]
  apply bv_eq
  rw [show (Int32.ofInt x ||| Int32.ofInt y).toBitVec = (Int32.ofInt x).toBitVec ||| (Int32.ofInt y).toBitVec from rfl, BitVec.toNat_or, bvn, bvn]
  have h1 : (x % 4294967296).toNat ||| (y % 4294967296).toNat < 2 ^ 32 := Nat.or_lt_two_pow (by omega) (by omega)
  omega
theorem bvnL (z : Int) : (Int64.ofInt z).toBitVec.toNat = (z % 18446744073709551616).toNat := by
  rw [show (Int64.ofInt z).toBitVec = BitVec.ofInt 64 z from rfl, BitVec.toNat_ofInt]
  rfl
theorem bv_eqL {x : Int64} {z : Int} (h : x.toBitVec.toNat = (z % 18446744073709551616).toNat) : x = Int64.ofInt z := by
  apply Int64.toBitVec_inj.mp
  apply BitVec.eq_of_toNat_eq
  rw [h, bvnL]
theorem sm63 : ∀ n : Nat, n < 64 → ((Int64.ofNat n).toBitVec.smod 64).toNat = n := by decide +kernel
theorem m63 (y : Int) : Int64.ofInt y &&& 63 = Int64.ofNat (y % 64).toNat := by
  apply Int64.toBitVec_inj.mp
  apply BitVec.eq_of_toNat_eq
  show ((Int64.ofInt y).toBitVec &&& 63).toNat = (BitVec.ofNat 64 (y % 64).toNat).toNat
  rw [BitVec.toNat_and, bvnL, show (63 : BitVec 64).toNat = 2 ^ 6 - 1 from rfl, Nat.and_two_pow_sub_one_eq_mod, BitVec.toNat_ofNat]
  omega
theorem pk_shlL (a s : Int64) (k : Nat) (hs : (s.toBitVec.smod 64).toNat = k) : (a <<< s).toBitVec.toNat = a.toBitVec.toNat * 2 ^ k % 2 ^ 64 := by
  rw [Int64.toBitVec_shiftLeft]
  show (a.toBitVec <<< (s.toBitVec.smod 64).toNat).toNat = _
  rw [BitVec.toNat_shiftLeft, hs, Nat.shiftLeft_eq]
theorem lSh_ok {x y : Int} (hy : ir 0 y) : Int64.ofInt x <<< ((Int32.ofInt y).toInt64 &&& 63) = Int64.ofInt (lSh x y) := by
  unfold lSh
  rw [l_w, i_l hy, m63]
  apply bv_eqL
  rw [pk_shlL _ _ _ (sm63 (y % 64).toNat (by omega)), bvnL]
  generalize (y % 64).toNat = k
  have e : ((2 : Int) ^ k) = ((2 ^ k : Nat) : Int) := by simp
  rw [e]
  generalize (2 ^ k : Nat) = q
  have h1 : (x * (q : Int)) % 18446744073709551616 = (((x % 18446744073709551616).toNat * q % 2 ^ 64 : Nat) : Int) := by
    rw [Int.natCast_emod, Int.natCast_mul, Int.toNat_of_nonneg (Int.emod_nonneg _ (by decide))]
    rw [show ((2 ^ 64 : Nat) : Int) = 18446744073709551616 from rfl]
    exact mm_eq _ _ _
  rw [h1]
  rfl
theorem i2c_ok (x : Int) : ((Int32.ofInt x).toUInt32 % 65536).toInt32 = Int32.ofInt (i2c x) := by
  rw [pk_char]
  rw [nI_of_int, bvn]
  congr 1
  unfold i2c
  omega
theorem w8_ok (x : Int) : (Int32.ofInt x).toInt8.toInt32 = Int32.ofInt (w8 x) := by
  apply Int32.toInt_inj.mp
  have e : ir 0 (w8 x) := by show _ ∧ _; unfold w8; omega
  rw [i_toInt e, Int8.toInt_toInt32, Int32.toInt_toInt8, Int32.toInt_ofInt]
  show Int.bmod (Int.bmod x 4294967296) 256 = _
  rw [Int.bmod_def, Int.bmod_def]
  unfold w8
  split <;> split <;> omega
section STEPS2
variable {Y : YT} {pc : Nat} {E : List Nat}
theorem s_ishl (hd : decode Y.2.1 pc = .ok (.ishl, 1)) (hE : pc + 1 ∈ E) (x y : Int) (_ : ir 0 x) (_ : ir 0 y) : ir 0 (iSh x y) ∧ QSt Y pc E [vo 0 y, vo 0 x] [vo 0 (iSh x y)] := by
  refine ⟨w32_ir _, ?_⟩
  rintro ⟨p, l, e, R, s, m, args, below, meth, c, D, cy, A, H0, Q, cells, slots⟩ ⟨hx, hb, -⟩ Γ L S v st hk H locs ls h1 h2 h3
  refine lv_ishl hx hb hd ?_
  rw [iSh_ok]
  exact hk _ hE H locs ls h1 h2 h3
theorem s_ishr (hd : decode Y.2.1 pc = .ok (.ishr, 1)) (hE : pc + 1 ∈ E) (x y : Int) (ix : ir 0 x) (_ : ir 0 y) : ir 0 (iSr x y) ∧ QSt Y pc E [vo 0 y, vo 0 x] [vo 0 (iSr x y)] := by
  refine ⟨iSr_ir ix, ?_⟩
  rintro ⟨p, l, e, R, s, m, args, below, meth, c, D, cy, A, H0, Q, cells, slots⟩ ⟨hx, hb, -⟩ Γ L S v st hk H locs ls h1 h2 h3
  refine lv_ishr hx hb hd ?_
  rw [iSr_ok ix]
  exact hk _ hE H locs ls h1 h2 h3
theorem s_iushr (hd : decode Y.2.1 pc = .ok (.iushr, 1)) (hE : pc + 1 ∈ E) (x y : Int) (ix : ir 0 x) (_ : ir 0 y) : ir 0 (iUs x y) ∧ QSt Y pc E [vo 0 y, vo 0 x] [vo 0 (iUs x y)] := by
  refine ⟨w32_ir _, ?_⟩
  rintro ⟨p, l, e, R, s, m, args, below, meth, c, D, cy, A, H0, Q, cells, slots⟩ ⟨hx, hb, -⟩ Γ L S v st hk H locs ls h1 h2 h3
  refine lv_iushr hx hb hd (v := Int32.ofInt (iUs x y)) ?_ (hk _ hE H locs ls h1 h2 h3)
  rw [iUs_ok]
  simp
theorem s_iand (hd : decode Y.2.1 pc = .ok (.iand, 1)) (hE : pc + 1 ∈ E) (x y : Int) (_ : ir 0 x) (_ : ir 0 y) : ir 0 (iAn x y) ∧ QSt Y pc E [vo 0 y, vo 0 x] [vo 0 (iAn x y)] := by
  refine ⟨w32_ir _, ?_⟩
  rintro ⟨p, l, e, R, s, m, args, below, meth, c, D, cy, A, H0, Q, cells, slots⟩ ⟨hx, hb, -⟩ Γ L S v st hk H locs ls h1 h2 h3
  refine lv_iand hx hb hd ?_
  rw [iAn_ok]
  exact hk _ hE H locs ls h1 h2 h3
theorem s_ior (hd : decode Y.2.1 pc = .ok (.ior, 1)) (hE : pc + 1 ∈ E) (x y : Int) (_ : ir 0 x) (_ : ir 0 y) : ir 0 (iOr x y) ∧ QSt Y pc E [vo 0 y, vo 0 x] [vo 0 (iOr x y)] := by
  refine ⟨w32_ir _, ?_⟩
  rintro ⟨p, l, e, R, s, m, args, below, meth, c, D, cy, A, H0, Q, cells, slots⟩ ⟨hx, hb, -⟩ Γ L S v st hk H locs ls h1 h2 h3
  refine lv_ior hx hb hd ?_
  rw [iOr_ok]
  exact hk _ hE H locs ls h1 h2 h3
theorem s_lshl (hd : decode Y.2.1 pc = .ok (.lshl, 1)) (hE : pc + 1 ∈ E) (x y : Int) (_ : ir 1 x) (iy : ir 0 y) : ir 1 (lSh x y) ∧ QSt Y pc E [vo 0 y, vo 1 x] [vo 1 (lSh x y)] := by
  refine ⟨w64_ir _, ?_⟩
  rintro ⟨p, l, e, R, s, m, args, below, meth, c, D, cy, A, H0, Q, cells, slots⟩ ⟨hx, hb, -⟩ Γ L S v st hk H locs ls h1 h2 h3
  exact lv_lshl hx hb hd (lSh_ok iy) (hk _ hE H locs ls h1 h2 h3)
theorem s_i2c (hd : decode Y.2.1 pc = .ok (.i2c, 1)) (hE : pc + 1 ∈ E) (x : Int) (_ : ir 0 x) : ir 5 (i2c x) ∧ QSt Y pc E [vo 0 x] [vo 5 (i2c x)] := by
  refine ⟨by show _ ∧ _; unfold i2c; omega, ?_⟩
  rintro ⟨p, l, e, R, s, m, args, below, meth, c, D, cy, A, H0, Q, cells, slots⟩ ⟨hx, hb, -⟩ Γ L S v st hk H locs ls h1 h2 h3
  exact lv_i2c hx hb hd (i2c_ok x) (hk _ hE H locs ls h1 h2 h3)
theorem s_i2b (hd : decode Y.2.1 pc = .ok (.i2b, 1)) (hE : pc + 1 ∈ E) (x : Int) (_ : ir 0 x) : ir 4 (w8 x) ∧ QSt Y pc E [vo 0 x] [vo 4 (w8 x)] := by
  refine ⟨by show _ ∧ _; unfold w8; omega, ?_⟩
  rintro ⟨p, l, e, R, s, m, args, below, meth, c, D, cy, A, H0, Q, cells, slots⟩ ⟨hx, hb, -⟩ Γ L S v st hk H locs ls h1 h2 h3
  exact lv_i2b hx hb hd (w8_ok x) (hk _ hE H locs ls h1 h2 h3)
end STEPS2
