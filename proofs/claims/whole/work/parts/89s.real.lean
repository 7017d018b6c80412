/-! whole numbers as reals: their order -/
def hasV (d : FP.Core.Datum) (R : Int) : Prop := ∃ (s : Bool) (c : Nat) (q : Int), d = .fin s c q ∧ (0 ≤ q → FP.Core.signed s c * 2 ^ q.toNat = R) ∧ (q < 0 → FP.Core.signed s c = R * 2 ^ (-q).toNat)
theorem sg_mul (s : Bool) (c k : Nat) : FP.Core.signed s (c * k) = FP.Core.signed s c * (k : Int) := by
  unfold FP.Core.signed
  cases s
  · simp
  · simp [Int.neg_mul]
theorem p2c (n : Nat) : ((2 ^ n : Nat) : Int) = (2 : Int) ^ n := by norm_cast
theorem p2pos (n : Nat) : (0 : Int) < 2 ^ n := Int.pow_pos (by decide)
theorem hasV.int {d : FP.Core.Datum} {R : Int} (h : hasV d R) (lo hi : Int) : FP.Core.toInt lo hi d = max lo (min hi R) := by
  obtain ⟨s, c, q, h1, h2, h3⟩ := h
  subst h1
  have : FP.Core.truncate s c q = R := by
    unfold FP.Core.truncate
    by_cases hq : 0 ≤ q
    · have e : (-q).toNat = 0 := by omega
      rw [e, Nat.pow_zero, Nat.div_one, sg_mul, p2c]
      exact h2 hq
    · have e : q.toNat = 0 := by omega
      have h3 := h3 (by omega)
      rw [e, Nat.pow_zero, Nat.mul_one]
      have hp := p2pos (-q).toNat
      have hn : 0 < 2 ^ (-q).toNat := Nat.pow_pos (by decide)
      cases s with
      | false =>
        have h3 : (c : Int) = R * 2 ^ (-q).toNat := h3
        have hR : 0 ≤ R := by
          by_cases k : 0 ≤ R
          · exact k
          · have : R * 2 ^ (-q).toNat < 0 := Int.mul_neg_of_neg_of_pos (by omega) hp
            omega
        obtain ⟨m, hm⟩ : ∃ m : Nat, R = (m : Int) := ⟨R.toNat, by omega⟩
        subst hm
        rw [← p2c] at h3
        have hc : c = m * 2 ^ (-q).toNat := by exact_mod_cast h3
        show ((c / 2 ^ (-q).toNat : Nat) : Int) = (m : Int)
        rw [hc, Nat.mul_div_cancel _ hn]
      | true =>
        have h3 : -(c : Int) = R * 2 ^ (-q).toNat := h3
        have hR : R ≤ 0 := by
          by_cases k : R ≤ 0
          · exact k
          · have : 0 < R * 2 ^ (-q).toNat := Int.mul_pos (by omega) hp
            omega
        obtain ⟨m, hm⟩ : ∃ m : Nat, R = -(m : Int) := ⟨(-R).toNat, by omega⟩
        subst hm
        rw [← p2c, Int.neg_mul] at h3
        have h4 : (c : Int) = (m : Int) * ((2 ^ (-q).toNat : Nat) : Int) := by omega
        have hc : c = m * 2 ^ (-q).toNat := by exact_mod_cast h4
        show -((c / 2 ^ (-q).toNat : Nat) : Int) = -(m : Int)
        rw [hc, Nat.mul_div_cancel _ hn]
  show max lo (min hi (FP.Core.truncate s c q)) = _
  rw [this]
theorem cmp_mul {A B R S K : Int} (hK : 0 < K) (h1 : A * K = R) (h2 : B * K = S) : compare A B = compare R S := by
  show compareOfLessAndEq A B = compareOfLessAndEq R S
  have i1 : A < B ↔ R < S := by
    rw [← h1, ← h2]
    exact ⟨fun h => Int.mul_lt_mul_of_pos_right h hK, fun h => Int.lt_of_mul_lt_mul_right h (by omega)⟩
  have i2 : A = B ↔ R = S := by
    rw [← h1, ← h2]
    exact ⟨fun h => by rw [h], fun h => Int.eq_of_mul_eq_mul_right (by omega) h⟩
  unfold compareOfLessAndEq
  simp only [i1, i2]
theorem hasV.order {d e : FP.Core.Datum} {R S : Int} (h : hasV d R) (k : hasV e S) : FP.Core.order d e = some (compare R S) := by
  obtain ⟨s, c, q, h1, h2, h3⟩ := h
  obtain ⟨t, a, r, k1, k2, k3⟩ := k
  subst h1; subst k1
  show some (compare (FP.Core.signed s (c * 2 ^ (q - min q r).toNat)) (FP.Core.signed t (a * 2 ^ (r - min q r).toNat))) = _
  rw [sg_mul, sg_mul, p2c, p2c]
  congr 1
  by_cases hm : 0 ≤ min q r
  · refine cmp_mul (p2pos (min q r).toNat) ?_ ?_
    · rw [Int.mul_assoc, ← Int.pow_add, show (q - min q r).toNat + (min q r).toNat = q.toNat by omega]
      exact h2 (by omega)
    · rw [Int.mul_assoc, ← Int.pow_add, show (r - min q r).toNat + (min q r).toNat = r.toNat by omega]
      exact k2 (by omega)
  · refine (cmp_mul (p2pos (-(min q r)).toNat) ?_ ?_).symm
    · by_cases hq : 0 ≤ q
      · rw [← h2 hq, Int.mul_assoc, ← Int.pow_add, show q.toNat + (-(min q r)).toNat = (q - min q r).toNat by omega]
      · rw [h3 (by omega), Int.mul_assoc, ← Int.pow_add, show (-q).toNat + (q - min q r).toNat = (-(min q r)).toNat by omega]
    · by_cases hq : 0 ≤ r
      · rw [← k2 hq, Int.mul_assoc, ← Int.pow_add, show r.toNat + (-(min q r)).toNat = (r - min q r).toNat by omega]
      · rw [k3 (by omega), Int.mul_assoc, ← Int.pow_add, show (-r).toNat + (r - min q r).toNat = (-(min q r)).toNat by omega]
theorem lead1 {n : Nat} (h : n ≠ 0) : FP.Core.leading n 1 = (n.log2 : Int) := by
  unfold FP.Core.leading
  have e1 : Nat.log2 1 = 0 := by decide
  have e2 := (Nat.le_log2 h).mp (Nat.le_refl n.log2)
  rw [e1]
  show (if 1 * 2 ^ ((n.log2 : Int) - ((0 : Nat) : Int)).toNat ≤ n * 2 ^ (-((n.log2 : Int) - ((0 : Nat) : Int))).toNat then ((n.log2 : Int) - ((0 : Nat) : Int)) else _) = _
  rw [show ((n.log2 : Int) - ((0 : Nat) : Int)).toNat = n.log2 by omega, show (-((n.log2 : Int) - ((0 : Nat) : Int))).toNat = 0 by omega, if_pos (by omega)]
  omega
theorem near1 (x : Nat) : FP.Core.nearest x 1 = x := by
  unfold FP.Core.nearest
  rw [Nat.mod_one, if_pos (by omega), Nat.div_one]
theorem nearB (n m : Nat) : FP.Core.nearest n m = n / m ∨ (FP.Core.nearest n m = n / m + 1 ∧ n % m ≠ 0) := by
  unfold FP.Core.nearest
  by_cases h1 : 2 * (n % m) < m
  · rw [if_pos h1]; exact .inl rfl
  · rw [if_neg h1]
    by_cases h0 : n % m = 0
    · have : m = 0 := by omega
      subst this
      rw [if_neg (by omega)]
      simp
    · by_cases h2 : m < 2 * (n % m)
      · rw [if_pos h2]; exact .inr ⟨rfl, h0⟩
      · rw [if_neg h2]
        have : n / m % 2 = 0 ∨ n / m % 2 = 1 := by omega
        rcases this with h | h
        · left; omega
        · right; exact ⟨by omega, h0⟩
/-- a whole number rounded: as it is written, and what it is -/
theorem round_nat (f : FP.Core.Fmt) (s : Bool) {n : Nat} (h0 : n ≠ 0) (hn : n ≤ 9223372036854775808) (hp : 1 ≤ f.p) (hp2 : f.p ≤ 53) (hq : f.qmin ≤ -((f.p : Int) - 1)) (hx : 64 ≤ f.qmax) : ∃ (c : Nat) (q : Int) (R : Nat), FP.Core.roundRatio f s n 1 0 = .fin s c q ∧ f.tails ≤ c ∧ c < 2 ^ f.p ∧ f.qmin ≤ q ∧ q ≤ 64 ∧ hasV (.fin s c q) (FP.Core.signed s R) ∧ R ≤ 9223372036854775808 ∧ R ≠ 9223372036854775807 := by
  have hl1 := (Nat.le_log2 h0).mp (Nat.le_refl n.log2)
  have hl2 := (Nat.log2_lt h0).mp (Nat.lt_succ_self n.log2)
  have hk : n.log2 ≤ 63 := by
    have : n.log2 < 64 := (Nat.log2_lt h0).mpr (by omega)
    omega
  have hqv : FP.Core.quantum f n 1 0 = (n.log2 : Int) - ((f.p : Int) - 1) := by
    unfold FP.Core.quantum
    rw [lead1 h0]
    omega
  have h2p : 2 ^ f.p = 2 * f.tails := by
    unfold FP.Core.Fmt.tails
    obtain ⟨m, hm⟩ : ∃ m, f.p = m + 1 := ⟨f.p - 1, by omega⟩
    rw [hm, Nat.add_sub_cancel, Nat.pow_succ]
    omega
  have ht : f.tails = 2 ^ (f.p - 1) := rfl
  unfold FP.Core.roundRatio FP.Core.roundAt FP.Core.unitsNum FP.Core.unitsDen
  rw [if_neg h0, hqv]
  by_cases hc : n.log2 ≤ f.p - 1
  · obtain ⟨j, hj⟩ : ∃ j, f.p - 1 = n.log2 + j := ⟨f.p - 1 - n.log2, by omega⟩
    have e1 : (0 - ((n.log2 : Int) - ((f.p : Int) - 1))).toNat = j := by omega
    have e2 : (((n.log2 : Int) - ((f.p : Int) - 1)) - 0).toNat = 0 := by omega
    have c1 : f.tails ≤ n * 2 ^ j := by
      rw [ht, hj, Nat.pow_add]
      exact Nat.mul_le_mul_right _ hl1
    have c2 : n * 2 ^ j < 2 ^ f.p := by
      rw [show f.p = (n.log2 + 1) + j by omega, Nat.pow_add]
      exact Nat.mul_lt_mul_of_pos_right hl2 (Nat.pow_pos (by decide))
    rw [e1, e2, Nat.pow_zero, Nat.mul_one, near1]
    refine ⟨n * 2 ^ j, (n.log2 : Int) - ((f.p : Int) - 1), n, ?_, c1, c2, by omega, by omega, ⟨s, _, _, rfl, fun h => ?_, fun h => ?_⟩, hn, ?_⟩
    · unfold FP.Core.settle FP.Core.bound
      rw [if_pos c2, if_pos (by omega)]
    · have : j = 0 := by omega
      subst this
      rw [show ((n.log2 : Int) - ((f.p : Int) - 1)).toNat = 0 by omega, Nat.pow_zero, Nat.mul_one]
      simp
    · rw [sg_mul, p2c, show (-((n.log2 : Int) - ((f.p : Int) - 1))).toNat = j by omega]
    · have : 2 ^ (n.log2 + 1) ≤ 2 ^ 53 := Nat.pow_le_pow_right (by decide) (by omega)
      omega
  · obtain ⟨j, hj⟩ : ∃ j, n.log2 = f.p - 1 + j := ⟨n.log2 - (f.p - 1), by omega⟩
    have e1 : (0 - ((n.log2 : Int) - ((f.p : Int) - 1))).toNat = 0 := by omega
    have e2 : (((n.log2 : Int) - ((f.p : Int) - 1)) - 0).toNat = j := by omega
    have hpj : 0 < 2 ^ j := Nat.pow_pos (by decide)
    have d1 : f.tails ≤ n / 2 ^ j := by
      rw [Nat.le_div_iff_mul_le hpj, ht, ← Nat.pow_add, ← hj]
      exact hl1
    have d2 : n / 2 ^ j < 2 ^ f.p := by
      rw [Nat.div_lt_iff_lt_mul hpj, ← Nat.pow_add, show f.p + j = n.log2 + 1 by omega]
      exact hl2
    have hdm := Nat.div_add_mod n (2 ^ j)
    have h63 : ∃ u, 9223372036854775808 = 2 ^ j * u := ⟨2 ^ (63 - j), by rw [← Nat.pow_add, show j + (63 - j) = 63 by omega]⟩
    have j2 : ∃ w, 2 ^ j = 2 * w := ⟨2 ^ (j - 1), by rw [Nat.mul_comm, ← Nat.pow_succ, show (j - 1).succ = j by omega]⟩
    rw [e1, e2, Nat.pow_zero, Nat.mul_one, Nat.one_mul]
    generalize hN : FP.Core.nearest n (2 ^ j) = c
    have hc' : c = n / 2 ^ j ∨ (c = n / 2 ^ j + 1 ∧ n % 2 ^ j ≠ 0) := by rw [← hN]; exact nearB n (2 ^ j)
    have cR : c * 2 ^ j ≤ 9223372036854775808 := by
      obtain ⟨u, hu⟩ := h63
      rw [hu, Nat.mul_comm]
      refine Nat.mul_le_mul_left _ ?_
      have hle : n / 2 ^ j ≤ u := by
        have : n ≤ 2 ^ j * u := by omega
        exact Nat.div_le_of_le_mul this
      rcases hc' with h | ⟨h, hr⟩
      · omega
      · by_cases e : n / 2 ^ j = u
        · exfalso
          rw [e] at hdm
          omega
        · omega
    have odd : c * 2 ^ j ≠ 9223372036854775807 := by
      obtain ⟨w, hw⟩ := j2
      rw [hw, ← Nat.mul_assoc, Nat.mul_comm c 2, Nat.mul_assoc]
      omega
    have ctl : f.tails ≤ c := by omega
    by_cases c3 : c < 2 ^ f.p
    · refine ⟨c, (n.log2 : Int) - ((f.p : Int) - 1), c * 2 ^ j, ?_, ctl, c3, by omega, by omega, ⟨s, _, _, rfl, fun h => ?_, fun h => by omega⟩, cR, odd⟩
      · unfold FP.Core.settle FP.Core.bound
        rw [if_pos c3, if_pos (by omega)]
      · rw [sg_mul, p2c, show ((n.log2 : Int) - ((f.p : Int) - 1)).toNat = j by omega]
    · have hc2 : c = 2 ^ f.p := by omega
      refine ⟨f.tails, (n.log2 : Int) - ((f.p : Int) - 1) + 1, c * 2 ^ j, ?_, Nat.le_refl _, by have : 0 < f.tails := Nat.pow_pos (by decide)
                                                                                                omega, by omega, by omega, ⟨s, _, _, rfl, fun h => ?_, fun h => by omega⟩, cR, odd⟩
      · unfold FP.Core.settle FP.Core.bound
        rw [if_neg c3, if_pos (by omega)]
      · rw [show ((n.log2 : Int) - ((f.p : Int) - 1) + 1).toNat = 1 + j by omega, hc2, h2p, ← p2c, ← sg_mul]
        congr 1
        rw [Nat.pow_add, Nat.pow_one, ← Nat.mul_assoc, Nat.mul_comm f.tails 2]
theorem dec64 {s : Bool} {c : Nat} {q : Int} (h1 : FP.Core.b64.tails ≤ c) (h2 : c < 2 ^ FP.Core.b64.p) (h3 : FP.Core.b64.qmin ≤ q) (h4 : q ≤ 100) : FP.Core.encode FP.Core.b64 (.fin s c q) < 18446744073709551616 ∧ FP.Core.decode FP.Core.b64 (FP.Core.encode FP.Core.b64 (.fin s c q)) = .fin s c q := by
  have e1 : FP.Core.b64.tails = 4503599627370496 := by decide
  have e2 : FP.Core.b64.exps = 2048 := by decide
  have e3 : (2 : Nat) ^ FP.Core.b64.p = 9007199254740992 := by decide
  have e4 : FP.Core.b64.qmin = -1074 := by decide
  rw [e1] at h1
  rw [e3] at h2
  rw [e4] at h3
  have hs : s.toNat = 0 ∨ s.toNat = 1 := by cases s <;> simp
  unfold FP.Core.encode
  dsimp only
  rw [e1, e4, if_neg (by omega)]
  unfold FP.Core.decode FP.Core.fieldE FP.Core.fieldT FP.Core.fieldS FP.Core.assemble
  rw [e1, e2, e4]
  have a1 : ((s.toNat * 2048 + ((q - -1074).toNat + 1)) * 4503599627370496 + (c - 4503599627370496)) % 4503599627370496 = c - 4503599627370496 := by omega
  have a2 : ((s.toNat * 2048 + ((q - -1074).toNat + 1)) * 4503599627370496 + (c - 4503599627370496)) / 4503599627370496 % 2048 = (q - -1074).toNat + 1 := by omega
  have a3 : ((s.toNat * 2048 + ((q - -1074).toNat + 1)) * 4503599627370496 + (c - 4503599627370496)) / 4503599627370496 / 2048 % 2 = s.toNat := by omega
  refine ⟨by omega, ?_⟩
  rw [a1, a2, a3, if_neg (by omega), if_neg (by omega)]
  have b1 : (s.toNat == 1) = s := by cases s <;> rfl
  rw [b1, show 4503599627370496 + (c - 4503599627370496) = c by omega, show (-1074 : Int) + ((((q - -1074).toNat + 1 : Nat) : Int) - 1) = q by omega]
theorem dec32 {s : Bool} {c : Nat} {q : Int} (h1 : FP.Core.b32.tails ≤ c) (h2 : c < 2 ^ FP.Core.b32.p) (h3 : FP.Core.b32.qmin ≤ q) (h4 : q ≤ 100) : FP.Core.encode FP.Core.b32 (.fin s c q) < 4294967296 ∧ FP.Core.decode FP.Core.b32 (FP.Core.encode FP.Core.b32 (.fin s c q)) = .fin s c q := by
  have e1 : FP.Core.b32.tails = 8388608 := by decide
  have e2 : FP.Core.b32.exps = 256 := by decide
  have e3 : (2 : Nat) ^ FP.Core.b32.p = 16777216 := by decide
  have e4 : FP.Core.b32.qmin = -149 := by decide
  rw [e1] at h1
  rw [e3] at h2
  rw [e4] at h3
  have hs : s.toNat = 0 ∨ s.toNat = 1 := by cases s <;> simp
  unfold FP.Core.encode
  dsimp only
  rw [e1, e4, if_neg (by omega)]
  unfold FP.Core.decode FP.Core.fieldE FP.Core.fieldT FP.Core.fieldS FP.Core.assemble
  rw [e1, e2, e4]
  have a1 : ((s.toNat * 256 + ((q - -149).toNat + 1)) * 8388608 + (c - 8388608)) % 8388608 = c - 8388608 := by omega
  have a2 : ((s.toNat * 256 + ((q - -149).toNat + 1)) * 8388608 + (c - 8388608)) / 8388608 % 256 = (q - -149).toNat + 1 := by omega
  have a3 : ((s.toNat * 256 + ((q - -149).toNat + 1)) * 8388608 + (c - 8388608)) / 8388608 / 256 % 2 = s.toNat := by omega
  refine ⟨by omega, ?_⟩
  rw [a1, a2, a3, if_neg (by omega), if_neg (by omega)]
  have b1 : (s.toNat == 1) = s := by cases s <;> rfl
  rw [b1, show 8388608 + (c - 8388608) = c by omega, show (-149 : Int) + ((((q - -149).toNat + 1 : Nat) : Int) - 1) = q by omega]
