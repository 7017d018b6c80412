/-! the two memories agree where it counts -/
theorem ov_c {V : XM} (h : cV V) : cV (ov V) := by
  intro g i k
  unfold ov
  by_cases e : rsl g k = true
  · rw [if_pos e]
    unfold cK c32 c64
    split <;> omega
  · rw [if_neg e]; exact h g i k
theorem xu_c {V : XM} {g i j : Nat} {x : Int} (h : cV V) (hx : cK (WW.1 g) x) : cV (xu V g i j x) := by
  intro a b c
  unfold xu
  by_cases e : a = g ∧ b = i ∧ c = j
  · rw [if_pos e, e.1]; exact hx
  · rw [if_neg e]; exact h a b c
theorem xfl_c {V : XM} {g i : Nat} {lo hi x : Int} (h : cV V) (hx : cK (WW.1 g) x) : cV (xfl V g i lo hi x) := by
  intro a b c
  unfold xfl
  by_cases e : a = g ∧ b = i ∧ (lo ≤ (c : Int) ∧ (c : Int) < hi)
  · rw [if_pos e, e.1]; exact hx
  · rw [if_neg e]; exact h a b c
theorem xz_c {V : XM} {g i n : Nat} (h : cV V) (hn : n < 1000) : cV (xz V g i n) := by
  intro a b c
  unfold xz
  by_cases e : a = 0 ∧ b = 0 ∧ c = 0
  · rw [if_pos e, e.1, ww_0]
    show c32 _
    unfold c32; omega
  · rw [if_neg e]
    by_cases e2 : a = g ∧ b = i
    · rw [if_pos e2]
      unfold cK c32 c64
      split <;> omega
    · rw [if_neg e2]; exact h a b c
