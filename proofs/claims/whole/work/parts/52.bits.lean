/-! longs as bits -/
def bt (x : Int) (i : Nat) : Bool := (BitVec.ofInt 64 x).getLsbD i
theorem ofInt_toInt64 (b : BitVec 64) : BitVec.ofInt 64 b.toInt = b := BitVec.ofInt_toInt
theorem bt_and (x y : Int) (i : Nat) : bt (lAnd x y) i = (bt x i && bt y i) := by
  unfold bt lAnd
  show (BitVec.ofInt 64 ((Int64.ofInt x &&& Int64.ofInt y).toBitVec).toInt).getLsbD i = _
  rw [ofInt_toInt64, Int64.toBitVec_and, BitVec.getLsbD_and, Int64.toBitVec_ofInt, Int64.toBitVec_ofInt]
theorem bt_or (x y : Int) (i : Nat) : bt (lOr x y) i = (bt x i || bt y i) := by
  unfold bt lOr
  show (BitVec.ofInt 64 ((Int64.ofInt x ||| Int64.ofInt y).toBitVec).toInt).getLsbD i = _
  rw [ofInt_toInt64, Int64.toBitVec_or, BitVec.getLsbD_or, Int64.toBitVec_ofInt, Int64.toBitVec_ofInt]
theorem bt_xor (x y : Int) (i : Nat) : bt (lXor x y) i = (bt x i ^^ bt y i) := by
  unfold bt lXor
  show (BitVec.ofInt 64 ((Int64.ofInt x ^^^ Int64.ofInt y).toBitVec).toInt).getLsbD i = _
  rw [ofInt_toInt64, Int64.toBitVec_xor, BitVec.getLsbD_xor, Int64.toBitVec_ofInt, Int64.toBitVec_ofInt]
