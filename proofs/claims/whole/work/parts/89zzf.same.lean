/-! the law's loop, run while the world may still be made -/
theorem eck1 : ((List.range 320).all eCkM) = true := by decide +kernel
theorem xgl_none {α : Type} (d : α) : ∀ (l : List α) (k : Nat), l.length ≤ k → xgl d l k = d := by
  intro l
  induction l with
  | nil => intro k _; rfl
  | cons a l ih =>
    intro k h
    cases k with
    | zero => simp at h
    | succ k => exact ih k (by simpa using h)
theorem xpl_len : XP_l.length = 20 := by decide +kernel
theorem eCk_all (m : Nat) : eCkM m = true := by
  by_cases h : m < 320
  · exact List.all_eq_true.mp eck1 m (List.mem_range.mpr h)
  · have e : XP m = [] := by
      unfold XP xg2
      rw [xgl_none [] XP_l (m / 16) (by rw [xpl_len]; omega)]
      rfl
    unfold eCkM
    rw [e]
    rfl
theorem Xt_of {d m pc : Nat} {ls st : List XS} {V : XM} {r : XS} {Vf : XM} (hV : FC V) (h : Xf d m pc ls st V = some (r, Vf)) : Xt d m pc ls st V = some (r, Vf) ∧ FC Vf := by
  obtain ⟨f, hf⟩ := Xx_some (show Xx WW XP XML false d m pc ls st V = some (r, Vf) from h)
  obtain ⟨a, b⟩ := xex_rt eCk_all f d m pc ls st V hV r Vf hf
  exact ⟨Xx_of a, b⟩
