/-! the law's loop -/
theorem xsw_p {P : XR → Prop} {x : Int} {d : Nat} {F : Nat → XR} (hd : P (F d)) : ∀ (l : List Nat) (lo : Int), (∀ t ∈ l, P (F t)) → P (xsw x lo d F l) := by
  intro l
  induction l with
  | nil => intro lo _; exact hd
  | cons t l ih =>
    intro lo h
    show P (if x = lo then F t else xsw x (lo + 1) d F l)
    by_cases e : x = lo
    · rw [if_pos e]; exact h t List.mem_cons_self
    · rw [if_neg e]; exact ih _ (fun t ht => h t (List.mem_cons_of_mem _ ht))
theorem law_loop (l : Launch) {D : va_G} {dA : Nat → ClassId} {z : Nat} (hb : Base D dA z) (hk : ∀ k, k < 310 → ckM k = true) (d : Nat) : ∀ (n : Nat) (V : XM) (i : Int), Inv V → cV V → 0 ≤ i → V 1 1 0 ≤ 3072 → 0 ≤ V 1 1 0 → i ≤ V 1 1 0 → V 1 1 0 - i ≤ n → ∃ V2, Xf (d + 30) 310 18 [xr 1 0, xr 2 0, xr 14 0, xi i] [] V = some (xi 1, V2) := by
  intro n
  induction n with
  | zero =>
    intro V i hI hc h0 hL hL0 hiL hn
    exact ⟨V, by rw [s_law_18, if_pos (by unfold w32; omega)]⟩
  | succ n ih =>
    intro V i hI hc h0 hL hL0 hiL hn
    by_cases h6 : i + 6 ≤ V 1 1 0
    · have hsw : ∃ V2, xsw (iAnd (V 1 0 (i.toNat)) 63) 0 2403 (fun t => Xf (d + 30) 310 t [xr 1 0, xr 2 0, xr 14 0, xi i] [] V) lwT = Xf (d + 30) 310 2403 [xr 1 0, xr 2 0, xr 14 0, xi i] [] V2 ∧ V2 1 = V 1 ∧ Inv V2 ∧ cV V2 :=
        xsw_p (P := fun y => ∃ V2, y = Xf (d + 30) 310 2403 [xr 1 0, xr 2 0, xr 14 0, xi i] [] V2 ∧ V2 1 = V 1 ∧ Inv V2 ∧ cV V2) ⟨V, rfl, rfl, hI, hc⟩ lwT 0 (L_cases l hb hk d V i hI hc h0 h6 hL)
      obtain ⟨V2, e, k1, k2, k3⟩ := hsw
      have k4 : V2 1 1 0 = V 1 1 0 := by rw [k1]
      obtain ⟨V3, e3⟩ := ih V2 (i + 6) k2 k3 (by omega) (by omega) (by omega) (by omega) (by omega)
      refine ⟨V3, ?_⟩
      rw [s_law_18, if_neg (by unfold w32; omega), if_pos (by omega), e, s_law_2403, show w32 (i + 6) = i + 6 by unfold w32; omega]
      exact e3
    · exact ⟨V, by rw [s_law_18, if_pos (by unfold w32; omega)]⟩
