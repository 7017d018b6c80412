/-! the pure part: tools -/
def b2 (p : Prop) [Decidable p] : Int := if p then 1 else 0
theorem b2_0 {p : Prop} [Decidable p] : b2 p = 0 ↔ ¬ p := by unfold b2; split <;> simp_all
theorem b2_1 {p : Prop} [Decidable p] : b2 p = 1 ↔ p := by unfold b2; split <;> simp_all
theorem b2_01 {p : Prop} [Decidable p] : (b2 p = 0 ∨ b2 p = 1) := by unfold b2; split <;> simp
theorem b2_congr {p q : Prop} [Decidable p] [Decidable q] (h : p ↔ q) : b2 p = b2 q := by unfold b2; simp only [h]
theorem ite_b2 {p : Prop} [Decidable p] {α : Type} {a b : α} : (if b2 p = 0 then a else b) = if p then b else a := by unfold b2; by_cases h : p <;> simp [h]
theorem ite_b21 {p : Prop} [Decidable p] {α : Type} {a b : α} : (if b2 p = 0 ∨ b2 p = 1 then a else b) = a := if_pos b2_01
theorem ci_r {v : Int} {V : XM} {k : Int → XM → XR} : ci (some (xi v, V)) k = k v V := rfl
theorem cl_r {v : Int} {V : XM} {k : Int → XM → XR} : cl (some (xl v, V)) k = k v V := rfl
theorem cr_r {V : XM} {k : XM → XR} : cr (some (xr 9 0, V)) k = k V := rfl
theorem cv_r {v : XS} {V : XM} {k : XM → XR} : cv (some (v, V)) k = k V := rfl
theorem cmp3_lt {a b : Int} : cmp3 a b < 0 ↔ a < b := by unfold cmp3; split <;> (try split) <;> omega
theorem cmp3_gt {a b : Int} : 0 < cmp3 a b ↔ b < a := by unfold cmp3; split <;> (try split) <;> omega
theorem cmp3_eq {a b : Int} : cmp3 a b = 0 ↔ a = b := by unfold cmp3; split <;> (try split) <;> omega
theorem w32_i {x : Int} (h1 : -2147483648 ≤ x) (h2 : x < 2147483648) : w32 x = x := w32_id ⟨h1, h2⟩
/-- two answers by a condition are one -/
theorem some_b2 {p : Prop} [Decidable p] {V : XM} : (if p then some (xi 1, V) else some (xi 0, V) : XR) = some (xi (b2 p), V) := by unfold b2; split <;> rfl
theorem some_b2n {p : Prop} [Decidable p] {V : XM} : (if p then some (xi 0, V) else some (xi 1, V) : XR) = some (xi (b2 (¬ p)), V) := by unfold b2; by_cases h : p <;> simp [h]
theorem someb {p q : Prop} [Decidable p] [Decidable q] {V : XM} (h : p ↔ q) : (some (xi (b2 p), V) : XR) = some (xi (b2 q), V) := by rw [b2_congr h]
theorem y_in (d : Nat) (V : XM) (a b c : Int) : Yf (d + 1) 189 [xl a, xl b, xl c] V = some (xi (b2 (b ≤ a ∧ a ≤ c)), V) := by
  rw [s_X12_in]
  simp only [cmp3_lt, cmp3_gt]
  unfold b2
  by_cases h1 : a < b
  · rw [if_pos h1, if_neg (by omega)]
  · by_cases h2 : c < a
    · rw [if_neg h1, if_pos h2, if_neg (by omega)]
    · rw [if_neg h1, if_neg h2, if_pos (by omega)]
theorem y_inRange (d : Nat) (V : XM) (a b : Int) : Yf (d + 1) 123 [xi a, xi b] V = some (xi (b2 (0 ≤ a ∧ a < b)), V) := by
  rw [s_X11_inRange]
  unfold b2
  by_cases h1 : a < 0
  · rw [if_pos h1, if_neg (by omega)]
  · by_cases h2 : a < b
    · rw [if_neg h1, if_pos h2, if_pos (by omega)]
    · rw [if_neg h1, if_neg h2, if_neg (by omega)]
theorem y_isKind (d : Nat) (V : XM) (k : Int) (h : 0 ≤ (V 14 0 1) ∧ (V 14 0 1) ≤ 24) : Yf (d + 2) 192 [xr 14 0, xi k] V = some (xi (b2 (0 ≤ k ∧ k < (V 14 0 1))), V) := by
  rw [s_X12_isKind, y_in, ci_r, w32_i (by omega) (by omega), ite_b21]
  exact someb (by omega)
theorem y_kindsHas (d : Nat) (V : XM) (k : Int) : Yf (d + 2) 3 [xr 3 0, xi k] V = some (xi (b2 (0 ≤ k ∧ k < (V 3 0 1))), V) := by
  rw [s_X0_has, y_inRange, ci_r, ite_b21]
