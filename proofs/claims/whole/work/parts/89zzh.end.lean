/-! the law's run, over a memory where all is said to be made -/
/-- the memory ahead of the reference's beginning -/
def VZ (V : XM) : XM := ch_108 (xz (cBeg (VA (xz V 2 0 0))) 14 0 107)
theorem VM_Z (V : XM) : VM V = rBeg (VZ V) := rfl
def VO (V : XM) : XM := rBeg (ov (VZ V))
set_option maxRecDepth 100000 in
theorem FC_VO (V : XM) : FC (VO V) := FC.beg (FC.over rfl)
set_option maxRecDepth 100000 in
theorem Inv_VO (V : XM) : Inv (VO V) := by
  refine Inv.start _ (fun k h0 h1 => ?_) rfl ⟨rfl, rfl, rfl, rfl, rfl, rfl, rfl, rfl, rfl, rfl, rfl⟩
  have hk : k = 1 ∨ k = 2 ∨ k = 3 ∨ k = 4 ∨ k = 5 := by omega
  rcases hk with hk | hk | hk | hk | hk <;> subst hk <;> rfl
