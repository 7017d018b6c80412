/-! the JDK's count of bits -/
def bn (x : Int) : Nat := (BitVec.ofInt 64 x).toNat
theorem bn_lt (x : Int) : bn x < 18446744073709551616 := (BitVec.ofInt 64 x).isLt
theorem bn_e (x : Int) : bn x = (x % 18446744073709551616).toNat := by
  unfold bn
  rw [BitVec.toNat_ofInt]
  rfl
theorem bn_and (x y : Int) : bn (lAnd x y) = bn x &&& bn y := by
  unfold bn lAnd
  show (BitVec.ofInt 64 ((Int64.ofInt x &&& Int64.ofInt y).toBitVec).toInt).toNat = _
  rw [ofInt_toInt64, Int64.toBitVec_and, BitVec.toNat_and, Int64.toBitVec_ofInt, Int64.toBitVec_ofInt]
theorem bn_ushr (x : Int) {w : Int} (h0 : 0 ≤ w) (h1 : w < 64) : bn (lUshr x w) = bn x / 2 ^ w.toNat := by
  unfold bn lUshr
  rw [ofInt_w64, Int.emod_eq_of_lt h0 h1]
  have : BitVec.ofInt 64 ((x % 18446744073709551616) / 2 ^ w.toNat) = BitVec.ofInt 64 x >>> w.toNat := by
    apply BitVec.eq_of_toNat_eq
    rw [BitVec.toNat_ofInt, BitVec.toNat_ushiftRight, BitVec.toNat_ofInt, Nat.shiftRight_eq_div_pow]
    have e1 : ((2 ^ 64 : Nat) : Int) = 18446744073709551616 := by decide
    rw [e1]
    obtain ⟨n, hn⟩ : ∃ n : Nat, x % 18446744073709551616 = (n : Int) := ⟨(x % 18446744073709551616).toNat, by omega⟩
    have hn2 : n < 18446744073709551616 := by omega
    rw [hn]
    have e2 : (n : Int) / 2 ^ w.toNat = ((n / 2 ^ w.toNat : Nat) : Int) := by norm_cast
    rw [e2]
    have e3 : n / 2 ^ w.toNat ≤ n := Nat.div_le_self _ _
    rw [Int.toNat_natCast]
    generalize n / 2 ^ w.toNat = m at *
    omega
  rw [this, BitVec.toNat_ushiftRight, Nat.shiftRight_eq_div_pow]
theorem bn_w (x : Int) : bn (w64 x) = bn x := by unfold bn; rw [ofInt_w64]
theorem bn_add (x y : Int) : bn (w64 (x + y)) = (bn x + bn y) % 18446744073709551616 := by
  rw [bn_w, bn_e, bn_e, bn_e]
  omega
theorem bn_sub {x y : Int} (h : bn y ≤ bn x) : bn (w64 (x - y)) = bn x - bn y := by
  rw [bn_w]
  rw [bn_e, bn_e] at h ⊢
  rw [bn_e]
  omega
def q1 (a : Int) : Int := w64 (a - (lAnd (lUshr a 1) 6148914691236517205))
def q2 (x : Int) : Int := w64 ((lAnd x 3689348814741910323) + (lAnd (lUshr x 2) 3689348814741910323))
def q3 (x : Int) : Int := lAnd (w64 (x + (lUshr x 4))) 1085102592571150095
def q4 (x : Int) : Int := w64 (x + (lUshr x 8))
def q5 (x : Int) : Int := w64 (x + (lUshr x 16))
def q6 (x : Int) : Int := w64 (x + (lUshr x 32))
theorem bn_q1 (a : Int) : bn (q1 a) = sA 8 (bn a) := by
  have e1 : rep8 85 8 = 6148914691236517205 := by decide
  have e2 : bn 6148914691236517205 = 6148914691236517205 := by decide
  have e3 : bn (lAnd (lUshr a 1) 6148914691236517205) = (bn a / 2) &&& 6148914691236517205 := by
    rw [bn_and, bn_ushr a (by decide) (by decide), e2]
    rfl
  have h1 : (bn a / 2) &&& 6148914691236517205 ≤ bn a / 2 := Nat.and_le_left
  unfold q1 sA
  rw [bn_sub (by rw [e3]; omega), e3, e1]
theorem bn_q2 (x : Int) : bn (q2 x) = sB 8 (bn x) ∧ bn (q2 x) ≤ 7378697629483820646 := by
  have e1 : rep8 51 8 = 3689348814741910323 := by decide
  have e2 : bn 3689348814741910323 = 3689348814741910323 := by decide
  have h1 : (bn x) &&& 3689348814741910323 ≤ 3689348814741910323 := Nat.and_le_right
  have h2 : (bn x / 4) &&& 3689348814741910323 ≤ 3689348814741910323 := Nat.and_le_right
  have e3 : bn (lUshr x 2) = bn x / 4 := bn_ushr x (by decide) (by decide)
  unfold q2 sB
  rw [bn_add, bn_and, bn_and, e3, e2, e1]
  omega
theorem bn_q3 {x : Int} (h : bn x ≤ 7378697629483820646) : bn (q3 x) = sC 8 (bn x) := by
  have e1 : rep8 15 8 = 1085102592571150095 := by decide
  have e2 : bn 1085102592571150095 = 1085102592571150095 := by decide
  have e3 : bn (lUshr x 4) = bn x / 16 := bn_ushr x (by decide) (by decide)
  unfold q3 sC
  rw [bn_and, bn_add, e3, e2, e1, Nat.mod_eq_of_lt (by omega)]
theorem bn_q6 {x : Int} (h : bn x ≤ 578721382704613384) : bn (q6 (q5 (q4 x))) % 128 = sZ (bn x) := by
  have e1 : bn (lUshr x 8) = bn x / 256 := bn_ushr x (by decide) (by decide)
  have f1 : bn (q4 x) = bn x + bn x / 256 := by
    unfold q4
    rw [bn_add, e1, Nat.mod_eq_of_lt (by omega)]
  have e2 : bn (lUshr (q4 x) 16) = bn (q4 x) / 65536 := bn_ushr (q4 x) (by decide) (by decide)
  have f2 : bn (q5 (q4 x)) = (bn x + bn x / 256) + (bn x + bn x / 256) / 65536 := by
    unfold q5
    rw [bn_add, e2, f1, Nat.mod_eq_of_lt (by omega)]
  have e3 : bn (lUshr (q5 (q4 x)) 32) = bn (q5 (q4 x)) / 4294967296 := bn_ushr (q5 (q4 x)) (by decide) (by decide)
  unfold q6 sZ
  rw [bn_add, e3, f2, Nat.mod_eq_of_lt (a := (bn x + bn x / 256) + (bn x + bn x / 256) / 65536 + ((bn x + bn x / 256) + (bn x + bn x / 256) / 65536) / 4294967296) (by omega)]
theorem iAnd127 (x : Int) : iAnd (w32 x) 127 = ((bn x % 128 : Nat) : Int) := by
  unfold iAnd
  show ((Int32.ofInt (w32 x) &&& Int32.ofInt 127).toBitVec).toInt = _
  rw [Int32.toBitVec_and, Int32.toBitVec_ofInt, Int32.toBitVec_ofInt]
  have e1 : (BitVec.ofInt 32 (w32 x) &&& BitVec.ofInt 32 127).toNat = bn x % 128 := by
    rw [BitVec.toNat_and, BitVec.toNat_ofInt, bn_e]
    have e2 : (BitVec.ofInt 32 127).toNat = 2 ^ 7 - 1 := by decide
    rw [e2, Nat.and_two_pow_sub_one_eq_mod]
    have e3 : ((2 ^ 32 : Nat) : Int) = 4294967296 := by decide
    rw [e3]
    unfold w32
    omega
  rw [BitVec.toInt_eq_toNat_of_lt (by rw [e1]; omega), e1]
theorem y_bits (d : Nat) (V : XM) (a : Int) : Yf (d + 1) 308 [xl a] V = some (xi (cnt (bt a) 64), V) := by
  have h : Yf (d + 1) 308 [xl a] V = some (xi (iAnd (w32 (q6 (q5 (q4 (q3 (q2 (q1 a))))))) 127), V) := s_J13_bitCount_95d88 d V a
  obtain ⟨b1, b2⟩ := bn_q2 (q1 a)
  have hT : bn (q3 (q2 (q1 a))) = sT 8 (bn a) := by
    rw [bn_q3 b2, b1, bn_q1]
    rfl
  obtain ⟨p1, p2⟩ := pop_nat (n := bn a) (bn_lt a)
  rw [h, iAnd127, bn_q6 (by rw [hT]; exact p2), hT, p1]
  rfl
