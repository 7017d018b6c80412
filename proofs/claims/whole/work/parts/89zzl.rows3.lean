/-! ranges of cells at the loop's first turn -/
theorem cBeg_c {V : XM} (h : cV V) : cV (cBeg V) := by
  unfold cBeg cKin kA
  repeat (first | exact h | (refine xu_c ?_ (cK_01 (by omega))) | (refine xu_c ?_ (by show c32 _; unfold c32; omega)))
theorem rBeg_c {V : XM} (h : cV V) : cV (rBeg V) := by
  unfold rBeg rB3 rB2 rB1
  repeat (first | exact h | (refine xfl_c ?_ (cK_01 (by omega))) | (refine xfl_c ?_ (by show c32 _; unfold c32; omega)) | (refine xu_c ?_ (cK_01 (by omega))) | (refine xu_c ?_ (by show c32 _; unfold c32; omega)))
