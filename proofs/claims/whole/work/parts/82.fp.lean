/-! whole numbers as reals: no NaN comes of them -/
def okD (f : FP.Core.Fmt) : FP.Core.Datum → Prop
  | .nan => False
  | .inf _ => True
  | .fin _ c q => c < 2 ^ f.p ∧ (c < f.tails ∨ (q - f.qmin).toNat + 1 ≤ f.exps - 2)
theorem bound_ok {f : FP.Core.Fmt} (hf : (f.qmax - f.qmin).toNat + 1 ≤ f.exps - 2) (s : Bool) {c : Nat} (q : Int) (hc : c < 2 ^ f.p) : okD f (FP.Core.bound f s c q) := by
  unfold FP.Core.bound
  split
  · exact ⟨hc, .inr (by omega)⟩
  · trivial
theorem round_ok {f : FP.Core.Fmt} (hf : (f.qmax - f.qmin).toNat + 1 ≤ f.exps - 2) (hp : 0 < f.p) {d : FP.Core.Datum} (hd : d ≠ .nan) : okD f (FP.Core.round f d) := by
  have h2 : f.tails < 2 ^ f.p := by
    unfold FP.Core.Fmt.tails
    exact Nat.pow_lt_pow_right (by omega) (by omega)
  cases d with
  | nan => exact absurd rfl hd
  | inf s => trivial
  | fin s c q =>
    unfold FP.Core.round FP.Core.roundRatio
    dsimp only
    split
    · exact ⟨Nat.pos_of_ne_zero (by have := Nat.pow_pos (n := f.p) (show 0 < 2 by omega); omega), .inl (Nat.pow_pos (by omega))⟩
    · unfold FP.Core.roundAt FP.Core.settle
      split
      · rename_i k; exact bound_ok hf s _ k
      · exact bound_ok hf s _ h2
theorem b32_ok : (FP.Core.b32.qmax - FP.Core.b32.qmin).toNat + 1 ≤ FP.Core.b32.exps - 2 := by decide
theorem b64_ok : (FP.Core.b64.qmax - FP.Core.b64.qmin).toNat + 1 ≤ FP.Core.b64.exps - 2 := by decide
/-- the fields of an encoding -/
theorem enc_fields {f : FP.Core.Fmt} (hx : 2 < f.exps) {d : FP.Core.Datum} (h : okD f d) : ∃ (s : Bool) (e t : Nat), FP.Core.encode f d = FP.Core.assemble f s e t ∧ t < f.tails ∧ e < f.exps ∧ (e = f.exps - 1 → t = 0) := by
  have ht : 0 < f.tails := Nat.pow_pos (by omega)
  cases d with
  | nan => exact h.elim
  | inf s => exact ⟨s, _, _, rfl, ht, by omega, fun _ => rfl⟩
  | fin s c q =>
    obtain ⟨h1, h2⟩ := h
    unfold FP.Core.encode
    dsimp only
    by_cases hc : c < f.tails
    · rw [if_pos hc]
      exact ⟨s, _, _, rfl, hc, by omega, fun e => by omega⟩
    · rw [if_neg hc]
      have h3 := h2.resolve_left hc
      refine ⟨s, _, _, rfl, ?_, by omega, fun e => by omega⟩
      have hp : f.p = 0 ∨ 2 ^ f.p = 2 * f.tails := by
        by_cases h0 : f.p = 0
        · exact .inl h0
        · right
          unfold FP.Core.Fmt.tails
          obtain ⟨n, hn⟩ : ∃ n, f.p = n + 1 := ⟨f.p - 1, by omega⟩
          rw [hn, Nat.add_sub_cancel, Nat.pow_succ]
          omega
      rcases hp with hp | hp
      · rw [hp] at h1; omega
      · omega
theorem enc32 {d : FP.Core.Datum} (h : okD FP.Core.b32 d) : FP.Core.encode FP.Core.b32 d < 4294967296 ∧ FP.Core.decode FP.Core.b32 (FP.Core.encode FP.Core.b32 d) ≠ .nan := by
  obtain ⟨s, e, t, h1, h2, h3, h4⟩ := enc_fields (f := FP.Core.b32) (by decide) h
  have e1 : FP.Core.b32.tails = 8388608 := by decide
  have e2 : FP.Core.b32.exps = 256 := by decide
  rw [h1]
  unfold FP.Core.decode FP.Core.fieldE FP.Core.fieldT FP.Core.assemble
  rw [e1] at h2
  rw [e2] at h3 h4
  rw [e1, e2]
  have hs : s.toNat = 0 ∨ s.toNat = 1 := by cases s <;> simp
  have a1 : ((s.toNat * 256 + e) * 8388608 + t) % 8388608 = t := by omega
  have a2 : ((s.toNat * 256 + e) * 8388608 + t) / 8388608 % 256 = e := by omega
  refine ⟨by omega, ?_⟩
  rw [a1, a2]
  split
  · rename_i k
    rw [if_pos (h4 (by omega))]
    exact fun e => by cases e
  · split
    · exact fun e => by cases e
    · exact fun e => by cases e
theorem enc64 {d : FP.Core.Datum} (h : okD FP.Core.b64 d) : FP.Core.encode FP.Core.b64 d < 18446744073709551616 ∧ FP.Core.encode FP.Core.b64 d % 9223372036854775808 ≤ 9218868437227405312 ∧ FP.Core.decode FP.Core.b64 (FP.Core.encode FP.Core.b64 d) ≠ .nan := by
  obtain ⟨s, e, t, h1, h2, h3, h4⟩ := enc_fields (f := FP.Core.b64) (by decide) h
  have e1 : FP.Core.b64.tails = 4503599627370496 := by decide
  have e2 : FP.Core.b64.exps = 2048 := by decide
  rw [h1]
  unfold FP.Core.decode FP.Core.fieldE FP.Core.fieldT FP.Core.assemble
  rw [e1] at h2
  rw [e2] at h3 h4
  rw [e1, e2]
  have hs : s.toNat = 0 ∨ s.toNat = 1 := by cases s <;> simp
  have a1 : ((s.toNat * 2048 + e) * 4503599627370496 + t) % 4503599627370496 = t := by omega
  have a2 : ((s.toNat * 2048 + e) * 4503599627370496 + t) / 4503599627370496 % 2048 = e := by omega
  refine ⟨by omega, ?_, ?_⟩
  · by_cases k : e = 2047
    · have := h4 (by omega)
      omega
    · omega
  · rw [a1, a2]
    split
    · rename_i k
      rw [if_pos (h4 (by omega))]
      exact fun e => by cases e
    · split
      · exact fun e => by cases e
      · exact fun e => by cases e
theorem ofInt_ne (i : Int) : FP.Core.ofInt i ≠ .nan := fun e => by cases e
theorem u32n {n : Nat} (h : n < 4294967296) : (UInt32.ofNat n).toNat = n := by
  show n % 2 ^ 32 = n
  exact Nat.mod_eq_of_lt h
theorem u64n {n : Nat} (h : n < 18446744073709551616) : (UInt64.ofNat n).toNat = n := by
  show n % 2 ^ 64 = n
  exact Nat.mod_eq_of_lt h
theorem l2f_dec (v : Int) : FP.Core.decode FP.Core.b32 (FP.l2f (Int64.ofInt v)).toNat ≠ .nan := by
  have h := enc32 (round_ok b32_ok (by decide) (ofInt_ne (Int64.ofInt v).toInt))
  show FP.Core.decode FP.Core.b32 (UInt32.ofNat (FP.Core.encode FP.Core.b32 (FP.Core.round FP.Core.b32 (FP.Core.ofInt (Int64.ofInt v).toInt)))).toNat ≠ .nan
  rw [u32n h.1]
  exact h.2
theorem fNum_f (v : Int) : fNum (fF2D (fL2F v)) = true := by
  have e1 : UInt32.ofNat (fL2F v).toNat = FP.l2f (Int64.ofInt v) := by
    unfold fL2F
    rw [Int.toNat_natCast, UInt32.ofNat_toNat]
  have e2 : fF2D (fL2F v) = ((FP.f2d (FP.l2f (Int64.ofInt v))).toNat : Int) := by
    unfold fF2D
    rw [e1]
  have hd := l2f_dec v
  have e3 : FP.f2d (FP.l2f (Int64.ofInt v)) = UInt64.ofNat (FP.Core.encode FP.Core.b64 (FP.Core.round FP.Core.b64 (FP.Core.decode FP.Core.b32 (FP.l2f (Int64.ofInt v)).toNat))) := by
    unfold FP.f2d
    have : FP.Core.fIsNaN (FP.l2f (Int64.ofInt v)) = false := by
      unfold FP.Core.fIsNaN FP.Core.isNaN
      exact decide_eq_false hd
    rw [this]
    rfl
  have h := enc64 (round_ok b64_ok (by decide) hd)
  unfold fNum
  rw [e2, Int.toNat_natCast, UInt64.ofNat_toNat, e3]
  simp only [decide_eq_true_eq]
  rw [UInt64.le_iff_toNat_le, UInt64.toNat_and, u64n h.1]
  show _ &&& (2 ^ 63 - 1) ≤ 9218868437227405312
  rw [Nat.and_two_pow_sub_one_eq_mod]
  exact h.2.1
