/-! the law's loop ends with true, also while the world may still be made -/
set_option maxRecDepth 100000 in
theorem VO_1 (V : XM) : (VO V) 1 = V 1 := rfl
theorem law_end (l : Launch) {D : va_G} {dA : Nat → ClassId} {z : Nat} (hb : Base D dA z) (hk : ∀ k, k < 310 → ckM k = true) (d : Nat) (V : XM) (hc : cV (VO V)) (h0 : 0 ≤ V 1 1 0) (h1 : V 1 1 0 ≤ 3072) : ∃ V2, Xt (d + 30) 310 18 [xr 1 0, xr 2 0, xr 14 0, xi 0] [] (VO V) = some (xi 1, V2) ∧ FC V2 := by
  have e : (VO V) 1 1 0 = V 1 1 0 := by rw [VO_1]
  obtain ⟨V2, h⟩ := law_loop l hb hk d 3072 (VO V) 0 (Inv_VO V) hc (by omega) (by omega) (by omega) (by omega) (by omega)
  exact ⟨V2, Xt_of (FC_VO V) h⟩
