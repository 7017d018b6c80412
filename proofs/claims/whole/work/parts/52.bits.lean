/-! longs as bits -/
def bt (x : Int) (i : Nat) : Bool := (BitVec.ofInt 64 x).getLsbD i
theorem ofInt_toInt64 (b : BitVec 64) : BitVec.ofInt 64 b.toInt = b := BitVec.ofInt_toInt
theorem bt_and (x y : Int) (i : Nat) : bt (lAnd x y) i = (bt x i && bt y i) := by
  unfold bt lAnd
  show (BitVec.ofInt 64 ((Int64.ofInt x &&& Int64.ofInt y).toBitVec).toInt).getLsbD i = _
  rw [ofInt_toInt64, Int64.toBitVec_and, BitVec.getLsbD_and, Int64.toBitVec_ofInt, Int64.toBitVec_ofInt]
theorem bt_or (x y : Int) (i : Nat) : bt (lOr x y) i = (bt x i || bt y i) := by
  unfold bt lOr
  show (BitVec.ofInt 64 ((Int64.ofInt x ||| Int64.ofInt y).toBitVec).toInt).getLsbD i = _
  rw [ofInt_toInt64, Int64.toBitVec_or, BitVec.getLsbD_or, Int64.toBitVec_ofInt, Int64.toBitVec_ofInt]
theorem bt_xor (x y : Int) (i : Nat) : bt (lXor x y) i = (bt x i ^^ bt y i) := by
  unfold bt lXor
  show (BitVec.ofInt 64 ((Int64.ofInt x ^^^ Int64.ofInt y).toBitVec).toInt).getLsbD i = _
  rw [ofInt_toInt64, Int64.toBitVec_xor, BitVec.getLsbD_xor, Int64.toBitVec_ofInt, Int64.toBitVec_ofInt]
theorem bt_big (x : Int) {i : Nat} (h : 64 ≤ i) : bt x i = false := by
  unfold bt; exact BitVec.getLsbD_of_ge _ _ h
theorem ofInt_w64 (x : Int) : BitVec.ofInt 64 (w64 x) = BitVec.ofInt 64 x := by
  have := congrArg Int64.toBitVec (n64_w x)
  rw [Int64.toBitVec_ofInt, Int64.toBitVec_ofInt] at this
  exact this
theorem ofInt_pow (k : Nat) : BitVec.ofInt 64 ((2 : Int) ^ k) = BitVec.twoPow 64 k := by
  apply BitVec.eq_of_toNat_eq
  rw [BitVec.toNat_ofInt, BitVec.toNat_twoPow]
  have : ((2 : Int) ^ k) = ((2 ^ k : Nat) : Int) := by norm_cast
  rw [this]
  omega
theorem bt_bit {w : Int} (h0 : 0 ≤ w) (h1 : w < 64) (i : Nat) : bt (lShl 1 w) i = decide (i = w.toNat) := by
  unfold bt lShl
  rw [ofInt_w64, Int.one_mul, Int.emod_eq_of_lt h0 h1, ofInt_pow, BitVec.getLsbD_twoPow]
  by_cases h : i = w.toNat
  · simp [h]; omega
  · have : ¬ w.toNat = i := fun e => h e.symm
    simp [h, this]
theorem bt_m1 {i : Nat} (h : i < 64) : bt (-1) i = true := by
  unfold bt
  have : BitVec.ofInt 64 (-1) = BitVec.allOnes 64 := by decide
  rw [this, BitVec.getLsbD_allOnes]
  simp [h]
theorem bt_not (x : Int) {i : Nat} (h : i < 64) : bt (lXor x (-1)) i = !bt x i := by
  rw [bt_xor, bt_m1 h]
  cases bt x i <;> rfl
theorem bt_0 (i : Nat) : bt 0 i = false := by
  unfold bt
  have : BitVec.ofInt 64 0 = 0#64 := by decide
  rw [this, BitVec.getLsbD_zero]
theorem bt_ext {x y : Int} (hx : c64 x) (hy : c64 y) (h : ∀ i, i < 64 → bt x i = bt y i) : x = y := by
  have e : BitVec.ofInt 64 x = BitVec.ofInt 64 y := BitVec.eq_of_getLsbD_eq (fun i hi => h i hi)
  have e2 := congrArg BitVec.toInt e
  have e3 := n64_id hx
  have e4 := n64_id hy
  have e5 : (Int64.ofInt x).toInt = (BitVec.ofInt 64 x).toInt := rfl
  have e6 : (Int64.ofInt y).toInt = (BitVec.ofInt 64 y).toInt := rfl
  omega
theorem c64_0 : c64 0 := ⟨by omega, by omega⟩
theorem bt_eq0 {x : Int} (hx : c64 x) : x = 0 ↔ ∀ i, i < 64 → bt x i = false := by
  constructor
  · intro h i _; rw [h, bt_0]
  · intro h; exact bt_ext hx c64_0 (fun i hi => by rw [h i hi, bt_0])
theorem bt_test (x : Int) {w : Int} (h0 : 0 ≤ w) (h1 : w < 64) : lAnd x (lShl 1 w) = 0 ↔ bt x w.toNat = false := by
  rw [bt_eq0 (lAnd_c _ _)]
  constructor
  · intro h
    have := h w.toNat (by omega)
    rw [bt_and, bt_bit h0 h1] at this
    simpa using this
  · intro h i _
    rw [bt_and, bt_bit h0 h1]
    by_cases e : i = w.toNat
    · rw [e, h]; rfl
    · simp [e]
theorem bt_ushr (x : Int) {w : Int} (h0 : 0 ≤ w) (h1 : w < 64) (i : Nat) : bt (lUshr x w) i = bt x (w.toNat + i) := by
  unfold bt lUshr
  rw [ofInt_w64, Int.emod_eq_of_lt h0 h1]
  have : BitVec.ofInt 64 ((x % 18446744073709551616) / 2 ^ w.toNat) = BitVec.ofInt 64 x >>> w.toNat := by
    apply BitVec.eq_of_toNat_eq
    rw [BitVec.toNat_ofInt, BitVec.toNat_ushiftRight, BitVec.toNat_ofInt, Nat.shiftRight_eq_div_pow]
    have e1 : ((2 ^ 64 : Nat) : Int) = 18446744073709551616 := by decide
    rw [e1]
    obtain ⟨n, hn⟩ : ∃ n : Nat, x % 18446744073709551616 = (n : Int) := ⟨(x % 18446744073709551616).toNat, by omega⟩
    have hn2 : n < 18446744073709551616 := by omega
    rw [hn]
    have e2 : (n : Int) / 2 ^ w.toNat = ((n / 2 ^ w.toNat : Nat) : Int) := by norm_cast
    rw [e2]
    have e3 : n / 2 ^ w.toNat ≤ n := Nat.div_le_self _ _
    rw [Int.toNat_natCast]
    generalize n / 2 ^ w.toNat = m at *
    omega
  rw [this, BitVec.getLsbD_ushiftRight]
theorem lAnd1 (x : Int) : lAnd x 1 = if bt x 0 = true then 1 else 0 := by
  have h1 : c64 (1 : Int) := ⟨by omega, by omega⟩
  have e : ∀ i, bt 1 i = decide (i = 0) := by
    intro i
    have := bt_bit (w := 0) (by omega) (by omega) i
    have e1 : lShl 1 0 = 1 := by decide
    rw [e1] at this
    exact this
  by_cases h : bt x 0 = true
  · rw [if_pos h]
    refine bt_ext (lAnd_c _ _) h1 (fun i hi => ?_)
    rw [bt_and, e]
    by_cases e0 : i = 0
    · rw [e0, h]; rfl
    · simp [e0]
  · rw [if_neg h]
    refine bt_ext (lAnd_c _ _) c64_0 (fun i hi => ?_)
    rw [bt_and, e, bt_0]
    by_cases e0 : i = 0
    · rw [e0]; simp at h; rw [h]; rfl
    · simp [e0]
theorem bt_rtest (x : Int) {w : Int} (h0 : 0 ≤ w) (h1 : w < 64) : lAnd (lUshr x w) 1 = if bt x w.toNat = true then 1 else 0 := by
  rw [lAnd1, bt_ushr x h0 h1]
  rfl
