/-! all reference slots said to be made -/
def ov (V : XM) : XM := fun g i k => if rsl g k = true then 1 else V g i k
theorem FC.over {V : XM} (h : V 0 0 0 = 155) : FC (ov V) := ⟨by unfold ov; rw [if_neg (by decide +kernel)]; exact h, fun g i k hr => if_pos hr⟩
theorem FC.fill {V : XM} {g i : Nat} {lo hi x : Int} (h : FC V) (hg : WW.1 g = 1 ∨ WW.1 g = 2 ∨ WW.1 g = 3 ∨ WW.1 g = 4) : FC (xfl V g i lo hi x) := by
  constructor
  · unfold xfl
    rw [if_neg (fun q => (rsl_k (j := 0) rfl hg).2 (by rw [← q.1]; exact ww_0))]
    exact h.1
  · intro a b c hc
    unfold xfl
    rw [if_neg (fun q => by rw [q.1, (rsl_k rfl hg).1] at hc; cases hc)]
    exact h.2 a b c hc
theorem FC.beg {V : XM} (h : FC V) : FC (rBeg V) := by
  unfold rBeg rB3 rB2 rB1
  refine FC.fill (FC.fill (FC.fill (FC.fill ?_ (by decide +kernel)) (by decide +kernel)) (by decide +kernel)) (by decide +kernel)
  repeat (refine FC.put ?_ (by decide +kernel) (by decide +kernel))
  exact h
