/-! a sentence more -/
def cTell (V : XM) (n s a b c : Int) : XM := xu (xu (xu (xu (xu V 33 0 n.toNat s) 34 0 n.toNat a) 35 0 n.toNat b) 36 0 n.toNat c) 6 0 4 (n + 1)
def rTell (V : XM) (n s a b c : Int) : XM := xu (xu (xu (xu (xu V 85 0 n.toNat s) 86 0 n.toNat a) 87 0 n.toNat b) 88 0 n.toNat c) 14 0 22 (n + 1)
theorem y_sadd (d : Nat) (V : XM) {n : Int} (s a b c : Int) (hn : (V 6 0 4) = n) (h0 : 0 ≤ n) (h1 : n < 300) : Yf (d + 1) 64 [xr 6 0, xi s, xi a, xi b, xi c] V = some (xi n, cTell V n s a b c) := by
  rw [s_X4_add, hn, if_pos (by omega), if_pos (by omega), if_pos (by omega), if_pos (by omega), w32_i (by omega) (by omega)]
  rfl
theorem y_tell (d : Nat) (V : XM) {n : Int} (s a b c : Int) (hn : (V 14 0 22) = n) (h0 : 0 ≤ n) (h1 : n < 300) : Yf (d + 1) 210 [xr 14 0, xi s, xi a, xi b, xi c] V = some (xi n, rTell V n s a b c) := by
  rw [s_X12_tell, hn, if_pos (by omega), if_pos (by omega), if_pos (by omega), if_pos (by omega)]
  simp (disch := omega) only [w32_i, Int.add_sub_cancel]
  rfl
theorem y_full (d : Nat) (V : XM) : Yf (d + 1) 63 [xr 6 0] V = some (xi (b2 (¬ ((V 6 0 4) < 300))), V) := by
  rw [s_X4_areFull]
  ((try unfold b2); (repeat' split) <;> first | rfl | (exfalso; omega))
def Told (V V' : XM) (s a b c3 c : Int) : Prop :=
  V' 33 0 = zup (V 33 0) (V 14 0 22).toNat s ∧ V' 34 0 = zup (V 34 0) (V 14 0 22).toNat a ∧ V' 35 0 = zup (V 35 0) (V 14 0 22).toNat b ∧ V' 36 0 = zup (V 36 0) (V 14 0 22).toNat c3 ∧
  V' 85 0 = zup (V 85 0) (V 14 0 22).toNat s ∧ V' 86 0 = zup (V 86 0) (V 14 0 22).toNat a ∧ V' 87 0 = zup (V 87 0) (V 14 0 22).toNat b ∧ V' 88 0 = zup (V 88 0) (V 14 0 22).toNat c ∧
  (V' 14 0 22) = (V 14 0 22) + 1
theorem I_put.tell {V V' : XM} {s a b c3 c : Int} (h : I_put V) (T : Told V V' s a b c3 c) (hn : 0 ≤ (V 14 0 22)) (hs : s ≠ 0) (e21 : V' 21 = V 21) (e39 : V' 39 = V 39) (e78 : V' 78 = V 78) (e79 : V' 79 = V 79) (e80 : V' 80 = V 80) (et : (V' 14 0 9) = (V 14 0 9)) : I_put V' := by
  obtain ⟨_, _, _, _, T5, T6, T7, _, T9⟩ := T
  unfold I_put
  rw [e21, e39, e78, e79, e80, et, T5, T6, T7, T9]
  refine ⟨fun t k1 k2 => ?_, fun u k1 k2 k3 => ?_⟩
  · obtain ⟨x1, x2⟩ := h.1 t k1 k2
    refine ⟨x1, fun k k3 k4 => ?_⟩
    obtain ⟨y1, y2, y3, y4, y5⟩ := x2 k k3 k4
    rw [zup_ne (by omega), zup_ne (by omega), zup_ne (by omega)]
    exact ⟨y1, by omega, y3, y4, y5⟩
  · by_cases hu : u = (V 14 0 22)
    · subst hu; rw [zup_eq] at k3; exact absurd k3 hs
    · rw [zup_ne (by omega)] at k3
      rw [zup_ne (by omega)]
      exact h.2 u k1 (by omega) k3
theorem I_sen.tell {V V' : XM} {s a b c3 c : Int} (h : I_sen V) (T : Told V V' s a b c3 c) (hn : 0 ≤ (V 14 0 22)) (hs : 0 ≤ s ∧ s ≤ 9) (h3 : s ≤ 5 → c3 = -9) (h4 : 6 ≤ s → c3 = c) (h39 : s = 3 ∨ s = 9 → 0 ≤ a ∧ a < (V 14 0 9)) (et : (V' 14 0 9) = (V 14 0 9)) : I_sen V' := by
  obtain ⟨T1, T2, T3, T4, T5, T6, T7, T8, T9⟩ := T
  unfold I_sen
  rw [T1, T2, T3, T4, T5, T6, T7, T8, T9, et]
  intro u k1 k2
  by_cases hu : u = (V 14 0 22)
  · subst hu
    rw [zup_eq, zup_eq, zup_eq, zup_eq, zup_eq, zup_eq, zup_eq, zup_eq]
    exact ⟨rfl, rfl, rfl, h3, h4, hs.1, hs.2, h39⟩
  · rw [zup_ne (by omega), zup_ne (by omega), zup_ne (by omega), zup_ne (by omega), zup_ne (by omega), zup_ne (by omega), zup_ne (by omega), zup_ne (by omega)]
    exact h u k1 (by omega)
theorem I_bar.tell {V V' : XM} {s a b c3 c : Int} (h : I_bar V) (T : Told V V' s a b c3 c) (hn : 0 ≤ (V 14 0 22)) (hs : s ≠ 1) (e40 : V' 40 = V 40) (et : (V' 14 0 9) = (V 14 0 9)) : I_bar V' := by
  obtain ⟨_, _, _, _, T5, T6, T7, _, T9⟩ := T
  unfold I_bar
  rw [e40, et, T5, T6, T7, T9]
  refine ⟨fun u k1 k2 k3 => ?_, fun t w k1 k2 k3 k4 => ?_⟩
  · by_cases hu : u = (V 14 0 22)
    · subst hu; rw [zup_eq] at k3; exact absurd k3 hs
    · rw [zup_ne (by omega)] at k3
      rw [zup_ne (by omega), zup_ne (by omega)]
      exact h.1 u k1 (by omega) k3
  · refine (h.2 t w k1 k2 k3 k4).trans ⟨fun ⟨u, x1, x2, x3, x4, x5⟩ => ⟨u, x1, by omega, ?_⟩, fun ⟨u, x1, x2, x3, x4, x5⟩ => ?_⟩
    · rw [zup_ne (by omega), zup_ne (by omega), zup_ne (by omega)]
      exact ⟨x3, x4, x5⟩
    · by_cases hu : u = (V 14 0 22)
      · subst hu; rw [zup_eq] at x3; exact absurd x3 hs
      · rw [zup_ne (by omega)] at x3 x4 x5
        exact ⟨u, x1, by omega, x3, x4, x5⟩
theorem I_set.tell {V V' : XM} {s a b c3 c : Int} (h : I_set V) (T : Told V V' s a b c3 c) (hn : 0 ≤ (V 14 0 22)) (hs : s ≠ 3) (e21 : V' 21 = V 21) (e40 : V' 40 = V 40) (e41 : V' 41 = V 41) (e42 : V' 42 = V 42) (e81 : V' 81 = V 81) (et : (V' 14 0 9) = (V 14 0 9)) : I_set V' := by
  obtain ⟨_, _, _, _, T5, T6, T7, _, T9⟩ := T
  unfold I_set
  rw [e21, e40, e41, e42, e81, et, T5, T6, T9]
  intro t k1 k2
  obtain ⟨x1, x2, x3, x4, x5⟩ := h t k1 k2
  refine ⟨x1, x2, ?_, fun u g1 g2 g3 g4 => ?_, x5⟩
  · rcases x3 with x3 | ⟨y1, y2, y3, y4, y5, y6⟩
    · exact .inl x3
    · refine .inr ⟨y1, y2, by omega, ?_, ?_, y6⟩
      · rw [zup_ne (by omega)]; exact y4
      · rw [zup_ne (by omega)]; exact y5
  · by_cases hu : u = (V 14 0 22)
    · subst hu; rw [zup_eq] at g4; exact absurd g4 hs
    · rw [zup_ne (by omega)] at g4
      rw [zup_ne (by omega)]
      exact x4 u g1 g2 (by omega) g4
theorem I_mos.tell {V V' : XM} {s a b c3 c : Int} (h : I_mos V) (T : Told V V' s a b c3 c) (hn : 0 ≤ (V 14 0 22)) (hs : s ≠ 0) (e21 : V' 21 = V 21) (e43 : V' 43 = V 43) (e44 : V' 44 = V 44) (e45 : V' 45 = V 45) (e78 : V' 78 = V 78) (e80 : V' 80 = V 80) (e82 : V' 82 = V 82) (et : (V' 14 0 9) = (V 14 0 9)) : I_mos V' := by
  obtain ⟨_, _, _, _, T5, T6, T7, _, T9⟩ := T
  unfold I_mos
  rw [e21, e43, e44, e45, e78, e80, e82, et, T5, T6, T7, T9]
  intro w k1 k2
  obtain ⟨x1, x2, x3, x4⟩ := h w k1 k2
  refine ⟨x1, ?_, x3, ?_⟩
  · rw [cnt_s _ hn]
    simp only [zup_eq]
    rw [if_neg (by simp [hs]), Int.add_zero, x2]
    refine cnt_congr (fun k hk => ?_)
    rw [zup_ne (by omega), zup_ne (by omega), zup_ne (by omega)]
  · rcases x4 with x4 | ⟨y1, y2, y3, y4⟩
    · exact .inl x4
    · refine .inr ⟨y1, by omega, ?_, y4⟩
      rw [zup_ne (by omega)]; exact y3
theorem I_pai.tell {V V' : XM} {s a b c3 c : Int} (h : I_pai V) (T : Told V V' s a b c3 c) (hn : 0 ≤ (V 14 0 22)) (hs : s ≠ 4) (e21 : V' 21 = V 21) (e46 : V' 46 = V 46) (e47 : V' 47 = V 47) (e48 : V' 48 = V 48) (e49 : V' 49 = V 49) (e78 : V' 78 = V 78) (e80 : V' 80 = V 80) (et : (V' 14 0 9) = (V 14 0 9)) (ep : (V' 14 0 27) = (V 14 0 27)) : I_pai V' := by
  obtain ⟨_, _, _, _, T5, T6, T7, T8, T9⟩ := T
  unfold I_pai
  rw [e21, e46, e47, e48, e49, e78, e80, et, ep, T5, T6, T7, T8, T9]
  refine ⟨fun p k1 k2 => ?_, fun u k1 k2 k3 => ?_⟩
  · obtain ⟨x1, x2, x3⟩ := h.1 p k1 k2
    rw [zup_ne (by omega), zup_ne (by omega), zup_ne (by omega), zup_ne (by omega)]
    exact ⟨x1, by omega, x3⟩
  · by_cases hu : u = (V 14 0 22)
    · subst hu; rw [zup_eq] at k3; exact absurd k3 hs
    · rw [zup_ne (by omega)] at k3
      exact h.2 u k1 (by omega) k3
theorem I_doo.tell {V V' : XM} {s a b c3 c : Int} (h : I_doo V) (T : Told V V' s a b c3 c) (hn : 0 ≤ (V 14 0 22)) (hs : s ≠ 9) (e61 : V' 61 = V 61) (et : (V' 14 0 9) = (V 14 0 9)) : I_doo V' := by
  obtain ⟨_, _, _, _, T5, T6, T7, T8, T9⟩ := T
  unfold I_doo
  rw [e61, et, T5, T6, T9]
  intro t k1 k2
  have old : ∀ u : Int, 0 ≤ u → u < (V 14 0 22) + 1 → zup (V 85 0) (V 14 0 22).toNat s u.toNat = 9 → u < (V 14 0 22) := by
    intro u g1 g2 g3
    by_cases hu : u = (V 14 0 22)
    · subst hu; rw [zup_eq] at g3; exact absurd g3 hs
    · omega
  rcases h t k1 k2 with ⟨x1, x2⟩ | ⟨x1, x2, x3, x4, x5⟩
  · refine .inl ⟨x1, fun u g1 g2 g3 => ?_⟩
    have := old u g1 g2 g3
    rw [zup_ne (by omega)] at g3
    rw [zup_ne (by omega)]
    exact x2 u g1 this g3
  · refine .inr ⟨x1, by omega, ?_, ?_, fun u g1 g2 g3 g4 => ?_⟩
    · rw [zup_ne (by omega)]; exact x3
    · rw [zup_ne (by omega)]; exact x4
    · have := old u g1 g2 g3
      rw [zup_ne (by omega)] at g3 g4
      exact x5 u g1 this g3 g4
theorem glN_congr {so on tw th so' on' tw' th' : Nat → Int} (r : Int) : ∀ (n : Nat), (∀ k, k < n → so' k = so k ∧ on' k = on k ∧ tw' k = tw k ∧ th' k = th k) → ∀ t, glN so' on' tw' th' r n t = glN so on tw th r n t := by
  intro n
  induction n with
  | zero => intro _ t; rfl
  | succ n ih =>
    intro h t
    have ih' := ih (fun k hk => h k (by omega))
    obtain ⟨a1, a2, a3, a4⟩ := h n (by omega)
    unfold glN
    simp only [ih', a1, a2, a3, a4]
theorem glN_s (so on tw th : Nat → Int) (r : Int) (n : Nat) (t : Int) : glN so on tw th r (n + 1) t = if so n = 6 ∧ on n = r ∧ glN so on tw th r n (tw n) ≠ glN so on tw th r n (th n) ∧ glN so on tw th r n t = glN so on tw th r n (th n) then glN so on tw th r n (tw n) else glN so on tw th r n t := rfl
theorem glN_tell {so on tw th : Nat → Int} {n : Nat} {s a b c : Int} (r t : Int) (hs : s ≠ 6) : glN (zup so n s) (zup on n a) (zup tw n b) (zup th n c) r (n + 1) t = glN so on tw th r n t := by
  rw [glN_s, zup_eq, if_neg (by omega)]
  refine glN_congr r n (fun k hk => ?_) t
  have hk' : k ≠ n := by omega
  exact ⟨zup_ne hk', zup_ne hk', zup_ne hk', zup_ne hk'⟩
theorem I_rel.tell {V V' : XM} {s a b c3 c : Int} (h : I_rel V) (T : Told V V' s a b c3 c) (hn : 0 ≤ (V 14 0 22)) (hs : s ≠ 6) (hs7 : s = 7 → 0 ≤ a ∧ a < (V 14 0 29) ∧ 0 ≤ b ∧ b < (V 14 0 9) ∧ 0 ≤ c ∧ c < (V 14 0 9) ∧ b ≠ c) (e54 : V' 54 = V 54) (e55 : V' 55 = V 55) (e90 : V' 90 = V 90) (et : (V' 14 0 9) = (V 14 0 9)) (er : (V' 14 0 29) = (V 14 0 29)) : I_rel V' := by
  obtain ⟨_, _, _, _, T5, T6, T7, T8, T9⟩ := T
  unfold I_rel
  rw [e54, e55, e90, et, er, T5, T6, T7, T8, T9]
  refine ⟨fun u k1 k2 k3 => ?_, fun r k1 k2 => ?_, fun u w k1 k2 k3 k4 k5 k6 k7 k8 => ?_⟩
  · by_cases hu : u = (V 14 0 22)
    · subst hu
      rw [zup_eq] at k3
      rw [zup_eq, zup_eq, zup_eq]
      exact hs7 (by omega)
    · rw [zup_ne (by omega)] at k3
      rw [zup_ne (by omega), zup_ne (by omega), zup_ne (by omega)]
      exact h.1 u k1 (by omega) k3
  · obtain ⟨x1, x2, x3, x4⟩ := h.2.1 r k1 k2
    refine ⟨x1, x2, x3, fun a' b' g1 g2 g3 g4 => (x4 a' b' g1 g2 g3 g4).trans ?_⟩
    rw [show ((V 14 0 22) + 1).toNat = (V 14 0 22).toNat + 1 by omega, glN_tell _ _ hs, glN_tell _ _ hs]
    refine or_congr Iff.rfl (and_congr Iff.rfl ⟨fun ⟨u, y1, y2, y3, y4, y5⟩ => ⟨u, y1, by omega, ?_⟩, fun ⟨u, y1, y2, y3, y4, y5⟩ => ?_⟩)
    · rw [zup_ne (by omega), zup_ne (by omega), zup_ne (by omega), zup_ne (by omega)]
      exact ⟨y3, y4, y5⟩
    · by_cases hu : u = (V 14 0 22)
      · subst hu; rw [zup_eq] at y3; exact absurd y3 hs
      · rw [zup_ne (by omega)] at y3 y4 y5
        rw [zup_ne (by omega)] at y5
        exact ⟨u, y1, by omega, y3, y4, y5⟩
  · have n1 : u ≠ (V 14 0 22) := fun e => by subst e; rw [zup_eq] at k5; exact hs k5
    have n2 : w ≠ (V 14 0 22) := fun e => by subst e; rw [zup_eq] at k6; exact hs k6
    have n1' : u.toNat ≠ (V 14 0 22).toNat := by omega
    have n2' : w.toNat ≠ (V 14 0 22).toNat := by omega
    rw [zup_ne n1'] at k5 k7 k8
    rw [zup_ne n2'] at k6 k7
    rw [zup_ne n1', zup_ne n2', zup_ne n1', zup_ne n2']
    exact h.2.2 u w k1 (by omega) k3 (by omega) k5 k6 k7 k8
