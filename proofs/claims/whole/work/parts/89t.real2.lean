/-! reals of longs: what they are, and their order -/
/-- a whole number that a real of a long may be -/
def okR (R : Int) : Prop := -9223372036854775808 ≤ R ∧ R ≤ 9223372036854775808 ∧ R ≠ 9223372036854775807
theorem v64 {v : Int} (hv : c64 v) : (Int64.ofInt v).toInt = v := n64_id hv
theorem absL {v : Int} (hv : c64 v) : v.natAbs ≤ 9223372036854775808 := by unfold c64 at hv; omega
theorem l2d_val {v : Int} (hv : c64 v) : ∃ R, okR R ∧ hasV (FP.Core.decode FP.Core.b64 (FP.l2d (Int64.ofInt v)).toNat) R := by
  have e0 : (FP.l2d (Int64.ofInt v)).toNat = (UInt64.ofNat (FP.Core.encode FP.Core.b64 (FP.Core.roundRatio FP.Core.b64 (decide (v < 0)) v.natAbs 1 0))).toNat := by
    show (UInt64.ofNat (FP.Core.encode FP.Core.b64 (FP.Core.roundRatio FP.Core.b64 (decide ((Int64.ofInt v).toInt < 0)) (Int64.ofInt v).toInt.natAbs 1 0))).toNat = _
    rw [v64 hv]
  rw [e0]
  by_cases h0 : v.natAbs = 0
  · have hv0 : v = 0 := by omega
    subst hv0
    refine ⟨0, ⟨by decide, by decide, by decide⟩, ⟨false, 0, -1074, by decide, fun h => by omega, fun _ => by simp [FP.Core.signed]⟩⟩
  · obtain ⟨c, q, R, h1, h2, h3, h4, h5, h6, h7, h8⟩ := round_nat FP.Core.b64 (decide (v < 0)) h0 (absL hv) (by decide) (by decide) (by decide) (by decide)
    obtain ⟨d1, d2⟩ := dec64 (s := decide (v < 0)) h2 h3 h4 (by omega)
    rw [h1, u64n d1, d2]
    refine ⟨_, ?_, h6⟩
    unfold okR FP.Core.signed
    split <;> omega
theorem l2f_val {v : Int} (hv : c64 v) : ∃ R, okR R ∧ hasV (FP.Core.decode FP.Core.b32 (FP.l2f (Int64.ofInt v)).toNat) R ∧ hasV (FP.Core.decode FP.Core.b64 (FP.f2d (FP.l2f (Int64.ofInt v))).toNat) R := by
  have hd := l2f_dec v
  have e3 : FP.f2d (FP.l2f (Int64.ofInt v)) = UInt64.ofNat (FP.Core.encode FP.Core.b64 (FP.Core.round FP.Core.b64 (FP.Core.decode FP.Core.b32 (FP.l2f (Int64.ofInt v)).toNat))) := by
    unfold FP.f2d
    have : FP.Core.fIsNaN (FP.l2f (Int64.ofInt v)) = false := by
      unfold FP.Core.fIsNaN FP.Core.isNaN
      exact decide_eq_false hd
    rw [this]
    rfl
  rw [e3]
  have e0 : (FP.l2f (Int64.ofInt v)).toNat = (UInt32.ofNat (FP.Core.encode FP.Core.b32 (FP.Core.roundRatio FP.Core.b32 (decide (v < 0)) v.natAbs 1 0))).toNat := by
    show (UInt32.ofNat (FP.Core.encode FP.Core.b32 (FP.Core.roundRatio FP.Core.b32 (decide ((Int64.ofInt v).toInt < 0)) (Int64.ofInt v).toInt.natAbs 1 0))).toNat = _
    rw [v64 hv]
  rw [e0]
  by_cases h0 : v.natAbs = 0
  · have hv0 : v = 0 := by omega
    subst hv0
    refine ⟨0, ⟨by decide, by decide, by decide⟩, ⟨false, 0, -149, by decide, fun h => by omega, fun _ => by simp [FP.Core.signed]⟩, ⟨false, 0, -1074, by decide, fun h => by omega, fun _ => by simp [FP.Core.signed]⟩⟩
  · obtain ⟨c, q, R, h1, h2, h3, h4, h5, h6, h7, h8⟩ := round_nat FP.Core.b32 (decide (v < 0)) h0 (absL hv) (by decide) (by decide) (by decide) (by decide)
    obtain ⟨d1, d2⟩ := dec32 (s := decide (v < 0)) h2 h3 h4 (by omega)
    rw [h1, u32n d1, d2]
    have e1 : FP.Core.b32.tails = 8388608 := by decide
    have e2 : (2 : Nat) ^ FP.Core.b32.p = 16777216 := by decide
    have e4 : FP.Core.b32.qmin = -149 := by decide
    have g1 : FP.Core.b64.tails = 4503599627370496 := by decide
    have g2 : (2 : Nat) ^ FP.Core.b64.p = 9007199254740992 := by decide
    have g3 : FP.Core.b64.qmin = -1074 := by decide
    have g4 : FP.Core.b64.qmax = 971 := by decide
    have g5 : FP.Core.b64.p = 53 := by decide
    rw [e1] at h2
    rw [e2] at h3
    rw [e4] at h4
    have hc0 : c ≠ 0 := by omega
    have hlg : c.log2 = 23 := by
      have a1 : 23 ≤ c.log2 := (Nat.le_log2 hc0).mpr (by omega)
      have a2 : c.log2 < 24 := (Nat.log2_lt hc0).mpr (by omega)
      omega
    have hr : FP.Core.round FP.Core.b64 (.fin (decide (v < 0)) c q) = .fin (decide (v < 0)) (c * 2 ^ 29) (q - 29) := by
      show FP.Core.roundRatio FP.Core.b64 (decide (v < 0)) c 1 q = _
      have hqv : FP.Core.quantum FP.Core.b64 c 1 q = q - 29 := by
        unfold FP.Core.quantum
        rw [lead1 hc0, hlg, g3, g5]
        omega
      unfold FP.Core.roundRatio FP.Core.roundAt FP.Core.unitsNum FP.Core.unitsDen
      rw [if_neg hc0, hqv, show (q - (q - 29)).toNat = 29 by omega, show (q - 29 - q).toNat = 0 by omega, Nat.pow_zero, Nat.mul_one, near1]
      unfold FP.Core.settle FP.Core.bound
      rw [g2, g4, if_pos (by omega), if_pos (by omega)]
    rw [hr]
    obtain ⟨k1, k2⟩ := dec64 (s := decide (v < 0)) (c := c * 2 ^ 29) (q := q - 29) (by omega) (by omega) (by omega) (by omega)
    rw [u64n k1, k2]
    refine ⟨_, ?_, h6, ?_⟩
    · unfold okR FP.Core.signed
      split <;> omega
    · obtain ⟨s', c', q', z1, z2, z3⟩ := h6
      injection z1 with z4 z5 z6
      subst z4; subst z5; subst z6
      refine ⟨_, _, _, rfl, fun h => ?_, fun h => ?_⟩
      · rw [← z2 (by omega), sg_mul, p2c, Int.mul_assoc, ← Int.pow_add, show 29 + (q - 29).toNat = q.toNat by omega]
      · by_cases hq : 0 ≤ q
        · rw [← z2 hq, sg_mul, p2c, Int.mul_assoc, ← Int.pow_add, show q.toNat + (-(q - 29)).toNat = 29 by omega]
        · rw [sg_mul, p2c, z3 (by omega), Int.mul_assoc, ← Int.pow_add, show (-q).toNat + 29 = (-(q - 29)).toNat by omega]
/-- what is read of such a number -/
def clip (R : Int) : Int := max (-9223372036854775808) (min 9223372036854775807 R)
theorem clip_lt {R S : Int} (hR : okR R) (hS : okR S) : (clip R < clip S ↔ R < S) ∧ (clip R = clip S ↔ R = S) := by
  unfold okR at hR hS
  unfold clip
  omega
theorem toL_val {d : FP.Core.Datum} {R : Int} (h : hasV d R) : (FP.Core.toL d).toInt = clip R := by
  unfold FP.Core.toL
  rw [h.int]
  have e : max (-2 ^ 63) (min (2 ^ 63 - 1) R) = clip R := by unfold clip; simp only [show (2 : Int) ^ 63 = 9223372036854775808 by decide]; omega
  have e' : (max (-2 ^ 63 : Int) (min (2 ^ 63 - 1) R)) = clip R := e
  rw [e']
  refine n64_id ?_
  unfold c64 clip
  omega
/-- a cell and its real: one whole number -/
theorem real_val {l c r : Int} (h : isReal l c r) : ∃ R, okR R ∧ c = clip R ∧ hasV (FP.Core.decode FP.Core.b64 (UInt64.ofNat r.toNat).toNat) R := by
  obtain ⟨v, hv, h | h⟩ := h
  · obtain ⟨_, h2, h3⟩ := h
    obtain ⟨R, q1, q2, q3⟩ := l2f_val hv
    have e1 : UInt32.ofNat (fL2F v).toNat = FP.l2f (Int64.ofInt v) := by
      unfold fL2F
      rw [Int.toNat_natCast, UInt32.ofNat_toNat]
    refine ⟨R, q1, ?_, ?_⟩
    · rw [h2]
      unfold fF2L
      rw [e1]
      exact toL_val q2
    · rw [h3]
      unfold fF2D
      rw [e1, Int.toNat_natCast, UInt64.ofNat_toNat]
      exact q3
  · obtain ⟨_, h2, h3⟩ := h
    obtain ⟨R, q1, q2⟩ := l2d_val hv
    have e1 : UInt64.ofNat (fL2D v).toNat = FP.l2d (Int64.ofInt v) := by
      unfold fL2D
      rw [Int.toNat_natCast, UInt64.ofNat_toNat]
    refine ⟨R, q1, ?_, ?_⟩
    · rw [h2]
      unfold fD2L
      rw [e1]
      exact toL_val q2
    · rw [h3, e1]
      exact q2
theorem dcmp_real {l c r l' c' r' : Int} (h : isReal l c r) (k : isReal l' c' r') (op : CmpOp) : (fDcmp op r r' < 0 ↔ c < c') ∧ (0 < fDcmp op r r' ↔ c' < c) := by
  obtain ⟨R, a1, a2, a3⟩ := real_val h
  obtain ⟨S, b1, b2, b3⟩ := real_val k
  have ho : FP.dcmp (UInt64.ofNat r.toNat) (UInt64.ofNat r'.toNat) = some (compare R S) := a3.order b3
  have hl := clip_lt a1 b1
  have hl2 := clip_lt b1 a1
  have hc : fDcmp op r r' = if R < S then -1 else if R = S then 0 else 1 := by
    unfold fDcmp
    rw [ho]
    have : compare R S = compareOfLessAndEq R S := rfl
    rw [this]
    unfold compareOfLessAndEq
    by_cases h1 : R < S
    · rw [if_pos h1, if_pos h1]; rfl
    · rw [if_neg h1, if_neg h1]
      by_cases h2 : R = S
      · rw [if_pos h2, if_pos h2]; rfl
      · rw [if_neg h2, if_neg h2]; rfl
  rw [hc, a2, b2, hl.1, hl2.1]
  constructor
  · (repeat' split) <;> omega
  · (repeat' split) <;> omega
