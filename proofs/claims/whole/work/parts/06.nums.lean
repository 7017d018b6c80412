/-! numbers of the machine and of the abstract machine -/
def c32 (x : Int) : Prop := -2147483648 ≤ x ∧ x < 2147483648
def c64 (x : Int) : Prop := -9223372036854775808 ≤ x ∧ x < 9223372036854775808
theorem w32_c (x : Int) : c32 (w32 x) := by unfold c32 w32; omega
theorem w64_c (x : Int) : c64 (w64 x) := by unfold c64 w64; omega
theorem w8_c (x : Int) : c32 (w8 x) := by unfold c32 w8; omega
theorem w16_c (x : Int) : c32 (w16 x) := by unfold c32 w16; omega
theorem c16_c (x : Int) : c32 (c16 x) := by unfold c32 c16; omega
theorem c32_of (x : Int32) : c32 x.toInt := ⟨x.le_toInt, x.toInt_lt⟩
theorem c64_of (x : Int64) : c64 x.toInt := ⟨x.le_toInt, x.toInt_lt⟩
theorem c32_64 {x : Int} (h : c32 x) : c64 x := by unfold c32 at h; unfold c64; omega
theorem n32_id {x : Int} (h : c32 x) : (Int32.ofInt x).toInt = x := Int32.toInt_ofInt_of_le h.1 h.2
theorem n64_id {x : Int} (h : c64 x) : (Int64.ofInt x).toInt = x := Int64.toInt_ofInt_of_le h.1 h.2
theorem w32_id {x : Int} (h : c32 x) : w32 x = x := by unfold c32 at h; unfold w32; omega
theorem w64_id {x : Int} (h : c64 x) : w64 x = x := by unfold c64 at h; unfold w64; omega
theorem n32_w (x : Int) : Int32.ofInt (w32 x) = Int32.ofInt x := by
  apply Int32.toInt_inj.mp
  rw [Int32.toInt_ofInt, Int32.toInt_ofInt]
  show (w32 x).bmod 4294967296 = x.bmod 4294967296
  unfold w32 Int.bmod
  dsimp only
  split <;> split <;> omega
theorem n64_w (x : Int) : Int64.ofInt (w64 x) = Int64.ofInt x := by
  apply Int64.toInt_inj.mp
  rw [Int64.toInt_ofInt, Int64.toInt_ofInt]
  show (w64 x).bmod 18446744073709551616 = x.bmod 18446744073709551616
  unfold w64 Int.bmod
  dsimp only
  split <;> split <;> omega
theorem n32_inj {x y : Int} (hx : c32 x) (hy : c32 y) : Int32.ofInt x = Int32.ofInt y ↔ x = y := by
  constructor
  · intro h
    have := congrArg Int32.toInt h
    rwa [n32_id hx, n32_id hy] at this
  · intro h; rw [h]
theorem n64_inj {x y : Int} (hx : c64 x) (hy : c64 y) : Int64.ofInt x = Int64.ofInt y ↔ x = y := by
  constructor
  · intro h
    have := congrArg Int64.toInt h
    rwa [n64_id hx, n64_id hy] at this
  · intro h; rw [h]
theorem n32_lt {x y : Int} (hx : c32 x) (hy : c32 y) : Int32.ofInt x < Int32.ofInt y ↔ x < y := by
  rw [Int32.lt_iff_toInt_lt, n32_id hx, n32_id hy]
theorem n32_le {x y : Int} (hx : c32 x) (hy : c32 y) : Int32.ofInt x ≤ Int32.ofInt y ↔ x ≤ y := by
  rw [Int32.le_iff_toInt_le, n32_id hx, n32_id hy]
theorem n64_lt {x y : Int} (hx : c64 x) (hy : c64 y) : Int64.ofInt x < Int64.ofInt y ↔ x < y := by
  rw [Int64.lt_iff_toInt_lt, n64_id hx, n64_id hy]
theorem n32_nat {x : Int} (hx : c32 x) : (Int32.ofInt x).toNatClampNeg = x.toNat := by
  show (Int32.ofInt x).toInt.toNat = _
  rw [n32_id hx]
theorem n32_in {x : Int} (hx : c32 x) {n : Nat} (h : 0 ≤ x ∧ x < (n : Int)) : vp_in (Int32.ofInt x) n := by
  unfold vp_in
  rw [n32_nat hx]
  intro q
  rcases q with q | q
  · rw [show (0 : Int32) = Int32.ofInt 0 from rfl, n32_lt hx (by unfold c32; omega)] at q
    omega
  · omega
theorem n32_div {x y : Int} (hx : c32 x) (hy : c32 y) : Int32.ofInt x / Int32.ofInt y = Int32.ofInt (w32 (Int.tdiv x y)) := by
  apply Int32.toInt_inj.mp
  rw [Int32.toInt_div, n32_id hx, n32_id hy, n32_w, Int32.toInt_ofInt]
theorem n64_div {x y : Int} (hx : c64 x) (hy : c64 y) : Int64.ofInt x / Int64.ofInt y = Int64.ofInt (w64 (Int.tdiv x y)) := by
  apply Int64.toInt_inj.mp
  rw [Int64.toInt_div, n64_id hx, n64_id hy, n64_w, Int64.toInt_ofInt]
theorem tmod_c {x y : Int} (hx : c32 x) : c32 (Int.tmod x y) := by
  unfold c32 at hx ⊢
  have h1 := Int.natAbs_tmod x y
  have h2 := Nat.mod_le x.natAbs y.natAbs
  by_cases h0 : 0 ≤ x
  · have h3 := Int.tmod_nonneg y h0
    omega
  · have h3 := Int.tmod_nonneg y (show 0 ≤ -x by omega)
    rw [Int.neg_tmod] at h3
    omega
theorem n32_rem {x y : Int} (hx : c32 x) (hy : c32 y) : Int32.ofInt x - Int32.ofInt x / Int32.ofInt y * Int32.ofInt y = Int32.ofInt (Int.tmod x y) := by
  rw [n32_div hx hy, n32_w, ← Int32.ofInt_mul, ← Int32.ofInt_sub]
  congr 1
  have := Int.tmod_add_tdiv_mul x y
  omega
theorem n32_toInt64 {x : Int} (hx : c32 x) : (Int32.ofInt x).toInt64 = Int64.ofInt x := by
  apply Int64.toInt_inj.mp
  rw [Int32.toInt_toInt64, n32_id hx, n64_id (c32_64 hx)]
theorem n64_toInt32 {x : Int} : (Int64.ofInt x).toInt32 = Int32.ofInt (w32 x) := by
  rw [n32_w]
  exact Int64.toInt32_ofInt
theorem n32_i2b {x : Int} : (Int32.ofInt x).toInt8.toInt32 = Int32.ofInt (w8 x) := by
  apply Int32.toInt_inj.mp
  rw [n32_id (w8_c x), Int32.toInt8_ofInt, Int8.toInt_toInt32, Int8.toInt_ofInt]
  show x.bmod 256 = _
  unfold w8 Int.bmod
  dsimp only
  split <;> omega
theorem n32_i2s {x : Int} : (Int32.ofInt x).toInt16.toInt32 = Int32.ofInt (w16 x) := by
  apply Int32.toInt_inj.mp
  rw [n32_id (w16_c x), Int32.toInt16_ofInt, Int16.toInt_toInt32, Int16.toInt_ofInt]
  show x.bmod 65536 = _
  unfold w16 Int.bmod
  dsimp only
  split <;> omega
theorem iAnd_c (x y : Int) : c32 (iAnd x y) := c32_of _
theorem iOr_c (x y : Int) : c32 (iOr x y) := c32_of _
theorem iXor_c (x y : Int) : c32 (iXor x y) := c32_of _
theorem lAnd_c (x y : Int) : c64 (lAnd x y) := c64_of _
theorem lOr_c (x y : Int) : c64 (lOr x y) := c64_of _
theorem lXor_c (x y : Int) : c64 (lXor x y) := c64_of _
theorem lShl_c (x y : Int) : c64 (lShl x y) := w64_c _
theorem lUshr_c (x y : Int) : c64 (lUshr x y) := w64_c _
theorem fF2L_c (x : Int) : c64 (fF2L x) := c64_of _
theorem fD2L_c (x : Int) : c64 (fD2L x) := c64_of _
theorem fDcmp_c (op : CmpOp) (x y : Int) : c32 (fDcmp op x y) := c32_of _
theorem cmp3_c (x y : Int) : c32 (cmp3 x y) := by unfold cmp3 c32; split <;> (try split) <;> omega
theorem n32_i2c {x : Int} : ((Int32.ofInt x).toUInt32 % 65536).toInt32 = Int32.ofInt (c16 x) := by
  have h1 : ((Int32.ofInt x).toUInt32 % 65536).toNat = (x % 4294967296).toNat % 65536 := by
    rw [UInt32.toNat_mod]
    show (BitVec.ofInt 32 x).toNat % 65536 = _
    rw [BitVec.toNat_ofInt]
    rfl
  have h2 : (Int32.ofInt x).toUInt32 % 65536 = UInt32.ofNat (c16 x).toNat := by
    apply UInt32.toNat_inj.mp
    rw [h1]
    show _ = (BitVec.ofNat 32 (c16 x).toNat).toNat
    rw [BitVec.toNat_ofNat]
    unfold c16
    omega
  rw [h2]
  show UInt32.toInt32 (UInt32.ofNat _) = _
  rw [show c16 x = (((c16 x).toNat : Nat) : Int) by unfold c16; omega, Int32.ofInt_eq_ofNat]
  rfl
theorem n64_63 {y : Int} (hy : c32 y) : ((Int32.ofInt y).toInt64 &&& 63).toBitVec.toNat = (y % 64).toNat := by
  rw [n32_toInt64 hy]
  show (BitVec.ofInt 64 y &&& 63#64).toNat = _
  rw [BitVec.toNat_and, BitVec.toNat_ofInt]
  show (y % 18446744073709551616).toNat &&& (2 ^ 6 - 1) = _
  rw [Nat.and_two_pow_sub_one_eq_mod]
  omega
theorem n64_shl {x y : Int} (hy : c32 y) : Int64.ofInt x <<< ((Int32.ofInt y).toInt64 &&& 63) = Int64.ofInt (lShl x y) := by
  have h0 := n64_63 hy
  have hk : (y % 64).toNat < 64 := by omega
  have h1 : (((Int32.ofInt y).toInt64 &&& 63).toBitVec.smod 64).toNat = (y % 64).toNat := by
    generalize ((Int32.ofInt y).toInt64 &&& 63).toBitVec = v at h0
    have hv : v = BitVec.ofNat 64 (y % 64).toNat := by
      apply BitVec.eq_of_toNat_eq
      rw [h0, BitVec.toNat_ofNat]
      omega
    rw [hv]
    generalize (y % 64).toNat = k at hk
    exact (show ∀ k : Fin 64, ((BitVec.ofNat 64 k.val).smod 64).toNat = k.val by decide +kernel) ⟨k, hk⟩
  apply Int64.toBitVec_inj.mp
  show BitVec.ofInt 64 x <<< (((Int32.ofInt y).toInt64 &&& 63).toBitVec.smod 64).toNat = _
  rw [h1, BitVec.shiftLeft_eq_mul_twoPow]
  unfold lShl
  rw [n64_w]
  show _ = BitVec.ofInt 64 (x * 2 ^ (y % 64).toNat)
  rw [BitVec.ofInt_mul]
  congr 1
  apply BitVec.eq_of_toNat_eq
  rw [BitVec.toNat_twoPow, BitVec.toNat_ofInt]
  have : ((2 : Int) ^ (y % 64).toNat) = ((2 ^ (y % 64).toNat : Nat) : Int) := by rw [Int.natCast_pow]; rfl
  rw [this, ← Int.natCast_emod, Int.toNat_natCast]
theorem n64_ushr {x y : Int} (hy : c32 y) : ((Int64.ofInt x).toUInt64 >>> ((Int32.ofInt y).toInt64.toUInt64 &&& Int64.toUInt64 63)).toInt64 = Int64.ofInt (lUshr x y) := by
  have h1 : ((Int64.ofInt x).toUInt64 >>> ((Int32.ofInt y).toInt64.toUInt64 &&& Int64.toUInt64 63)).toNat = (x % 18446744073709551616).toNat / 2 ^ (y % 64).toNat := by
    rw [UInt64.toNat_shiftRight]
    have h2 : ((Int32.ofInt y).toInt64.toUInt64 &&& Int64.toUInt64 63).toNat = (y % 64).toNat := n64_63 hy
    rw [h2, show ((Int64.ofInt x).toUInt64).toNat = (x % 18446744073709551616).toNat by
      show (BitVec.ofInt 64 x).toNat = _
      rw [BitVec.toNat_ofInt]
      rfl, Nat.shiftRight_eq_div_pow, Nat.mod_eq_of_lt (by omega)]
  generalize (Int64.ofInt x).toUInt64 >>> ((Int32.ofInt y).toInt64.toUInt64 &&& Int64.toUInt64 63) = u at h1 ⊢
  have h3 : u.toInt64 = Int64.ofInt (u.toNat : Int) := by
    rw [Int64.ofInt_eq_ofNat]
    apply Int64.toBitVec_inj.mp
    show u.toBitVec = BitVec.ofNat 64 u.toNat
    apply BitVec.eq_of_toNat_eq
    rw [BitVec.toNat_ofNat]
    exact (Nat.mod_eq_of_lt u.toBitVec.isLt).symm
  rw [h3, h1]
  unfold lUshr
  rw [n64_w]
  congr 1
  rw [Int.natCast_ediv, Int.natCast_pow, Int.toNat_of_nonneg (by omega)]
  rfl
