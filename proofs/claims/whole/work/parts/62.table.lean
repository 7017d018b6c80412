/-! tables that are read -/
theorem y_isTable (d : Nat) (V : XM) (k : Int) (h : 0 ≤ (V 14 0 45) ∧ (V 14 0 45) ≤ 6) : Yf (d + 2) 285 [xr 14 0, xi k] V = some (xi (b2 (0 ≤ k ∧ k < (V 14 0 45))), V) := by
  rw [s_X12_isTable, y_in, ci_r, w32_i (by omega) (by omega), ite_b21]
  exact someb (by omega)
theorem y_isColumn (d : Nat) (V : XM) {t : Int} (c : Int) (h : 0 ≤ t ∧ t < 6) (hc : 1 ≤ (V 104 0 (t.toNat)) ∧ (V 104 0 (t.toNat)) ≤ 5) : Yf (d + 2) 287 [xr 14 0, xi t, xi c] V = some (xi (b2 (0 ≤ c ∧ c < (V 104 0 (t.toNat)))), V) := by
  rw [s_X12_isColumn, if_pos h, y_in, ci_r, w32_i (by omega) (by omega), ite_b21]
  exact someb (by omega)
theorem y_isCell (d : Nat) (V : XM) {t : Int} (r c : Int) (h : 0 ≤ t ∧ t < 6) (hr : 1 ≤ (V 103 0 (t.toNat)) ∧ (V 103 0 (t.toNat)) ≤ 16) (hc : 1 ≤ (V 104 0 (t.toNat)) ∧ (V 104 0 (t.toNat)) ≤ 5) : Yf (d + 3) 288 [xr 14 0, xi t, xi r, xi c] V = some (xi (b2 ((0 ≤ r ∧ r < (V 103 0 (t.toNat))) ∧ (0 ≤ c ∧ c < (V 104 0 (t.toNat))))), V) := by
  rw [s_X12_isCell, if_pos h, y_in, ci_r, w32_i (by omega) (by omega), ite_b2, y_isColumn _ V c h hc, ci_r, ite_b2]
  ((try unfold b2); (repeat' split) <;> first | rfl | (exfalso; omega))
theorem y_hasCell (d : Nat) (V : XM) (p : Nat) (r c : Int) : Yf (d + 2) 77 [xr 13 p, xi r, xi c] V = some (xi (b2 ((0 ≤ r ∧ r < (V 13 p 4)) ∧ (0 ≤ c ∧ c < (V 13 p 5)))), V) := by
  rw [s_X7_hasCell, y_inRange, ci_r, ite_b2, y_inRange, ci_r, ite_b2]
  ((try unfold b2); (repeat' split) <;> first | rfl | (exfalso; omega))
theorem y_cellAt (d : Nat) (V : XM) {t r c : Int} (h : 0 ≤ t ∧ t < 6) (hr : 0 ≤ r ∧ r < 16) (hc : 0 ≤ c ∧ c < 5) : Yf (d + 1) 289 [xi t, xi r, xi c] V = some (xi (80 * t + 5 * r + c), V) := by
  rw [s_X12_cellAt]
  simp (disch := omega) only [w32_i]
theorem y_cBlank (d : Nat) (V : XM) (p : Nat) {r c : Int} (hr : 0 ≤ r ∧ r < 16) (hc : 0 ≤ c ∧ c < 5) : Yf (d + 1) 78 [xr 13 p, xi r, xi c] V = some (xi (b2 ((V 64 p ((5 * r + c).toNat)) = 0)), V) := by
  have e : w32 (w32 (r * 5) + c) = 5 * r + c := by rw [w32_add, w32_i (by omega) (by omega)]; omega
  rw [s_X7_isBlank, e]
  ((try unfold b2); (repeat' split) <;> first | rfl | (exfalso; omega))
theorem y_cTold (d : Nat) (V : XM) (p : Nat) {r c : Int} (hr : 0 ≤ r ∧ r < 16) (hc : 0 ≤ c ∧ c < 5) : Yf (d + 1) 79 [xr 13 p, xi r, xi c] V = some (xl (V 63 p ((5 * r + c).toNat)), V) := by
  have e : w32 (w32 (r * 5) + c) = 5 * r + c := by rw [w32_add, w32_i (by omega) (by omega)]; omega
  rw [s_X7_told, e, if_pos (by omega)]
def TD (V : XM) : Prop := 0 ≤ (V 14 0 45) ∧ (V 14 0 45) ≤ 6 ∧ ∀ t : Int, 0 ≤ t → t < (V 14 0 45) → 1 ≤ (V 103 0 (t.toNat)) ∧ (V 103 0 (t.toNat)) ≤ 16 ∧ 1 ≤ (V 104 0 (t.toNat)) ∧ (V 104 0 (t.toNat)) ≤ 5
theorem Inv.td {V : XM} (h : Inv V) : TD V := by
  obtain ⟨⟨ck1, ck2, ck3, cp1, cp2, cp3, ct1, ct2, ct3, cs1, cs2, cs3, cq1, cq2, cq3, cr1, cr2, cr3, cf1, cf2, cf3, cb1, cb2, cb3, cw1, cw2, cw3, clf, clc⟩, hkin, hpro, husu, hgiv, hthg, hhom, hput, hrin, hsen, hbar, hset, hmos, hpai, hrel, hmap, hdoo, hshe, htab, hwor⟩ := h
  exact ⟨cb1, cb2, fun t k1 k2 => ⟨(htab t k1 k2).2.1, (htab t k1 k2).2.2.1, (htab t k1 k2).2.2.2.2.1, (htab t k1 k2).2.2.2.2.2.1⟩⟩
theorem c_read (d : Nat) (V : XM) (h : Inv V) (a b c : Int) : Yf (d + 30) 171 [xr 2 0, xi a, xi b, xi c] V = if ¬ (0 ≤ a ∧ a < (V 14 0 45)) then some (xl (-1), V) else if ¬ ((0 ≤ b ∧ b < (V 103 0 (a.toNat))) ∧ (0 ≤ c ∧ c < (V 104 0 (a.toNat)))) then some (xl (-12), xu V 2 0 15 2) else if (V 106 0 ((80 * a + 5 * b + c).toNat)) ≠ 0 then some (xl (-11), xu V 2 0 15 1) else some (xl (V 107 0 ((80 * a + 5 * b + c).toNat)), V) := by
  have h' := h
  obtain ⟨⟨ck1, ck2, ck3, cp1, cp2, cp3, ct1, ct2, ct3, cs1, cs2, cs3, cq1, cq2, cq3, cr1, cr2, cr3, cf1, cf2, cf3, cb1, cb2, cb3, cw1, cw2, cw3, clf, clc⟩, hkin, hpro, husu, hgiv, hthg, hhom, hput, hrin, hsen, hbar, hset, hmos, hpai, hrel, hmap, hdoo, hshe, htab, hwor⟩ := h'
  rw [s_X11_read]
  by_cases i1 : ¬ (0 ≤ a ∧ a < (V 14 0 45))
  · (repeat' (first | rfl | rw [ci_r] | rw [cl_r] | rw [cv_r] | rw [ite_b2] | rw [ite_b21] | rw [if_pos (by omega)] | rw [if_neg (by omega)] | rw [y_kindsHas] | rw [y_isKind _ _ _ (by omega)] | rw [y_valHas] | rw [y_isProp _ _ _ (by omega)] | rw [y_thgHas] | rw [y_isThing _ _ _ (by omega)] | rw [y_inRange] | rw [y_in] | rw [s_X11_faulted] | rw [s_X12_faulty] | rw [s_X11_against] | rw [s_X12_against] | simp (disch := omega) only [w32_i, Int.add_sub_cancel, mc64, mc24, mc6, mc8, mc5] | fail | split))
  obtain ⟨u1, u2, u3, u4, u5, u6, u7⟩ := htab a (by omega) (by omega)
  by_cases i2 : ¬ ((0 ≤ b ∧ b < (V 103 0 (a.toNat))) ∧ (0 ≤ c ∧ c < (V 104 0 (a.toNat))))
  · (repeat' (first | rfl | rw [ci_r] | rw [cl_r] | rw [cv_r] | rw [ite_b2] | rw [ite_b21] | rw [if_pos (by omega)] | rw [if_neg (by omega)] | rw [y_kindsHas] | rw [y_isKind _ _ _ (by omega)] | rw [y_valHas] | rw [y_isProp _ _ _ (by omega)] | rw [y_thgHas] | rw [y_isThing _ _ _ (by omega)] | rw [y_inRange] | rw [y_in] | rw [s_X11_faulted] | rw [s_X12_faulty] | rw [s_X11_against] | rw [s_X12_against] | simp (disch := omega) only [w32_i, Int.add_sub_cancel, mc64, mc24, mc6, mc8, mc5] | rw [y_hasCell, u1, u4] | split))
  obtain ⟨w1, w2, w3, w4⟩ := u7 c (by omega) (by omega)
  obtain ⟨z1, z2, z3⟩ := w4 b (by omega) (by omega)
  by_cases i3 : (V 106 0 ((80 * a + 5 * b + c).toNat)) ≠ 0
  · (repeat' (first | rfl | rw [ci_r] | rw [cl_r] | rw [cv_r] | rw [ite_b2] | rw [ite_b21] | rw [if_pos (by omega)] | rw [if_neg (by omega)] | rw [y_kindsHas] | rw [y_isKind _ _ _ (by omega)] | rw [y_valHas] | rw [y_isProp _ _ _ (by omega)] | rw [y_thgHas] | rw [y_isThing _ _ _ (by omega)] | rw [y_inRange] | rw [y_in] | rw [s_X11_faulted] | rw [s_X12_faulty] | rw [s_X11_against] | rw [s_X12_against] | simp (disch := omega) only [w32_i, Int.add_sub_cancel, mc64, mc24, mc6, mc8, mc5] | rw [y_hasCell, u1, u4] | rw [y_cBlank _ _ _ (by omega) (by omega)] | split))
  have z4 := (z3 (by omega)).1
  (repeat' (first | rfl | rw [ci_r] | rw [cl_r] | rw [cv_r] | rw [ite_b2] | rw [ite_b21] | rw [if_pos (by omega)] | rw [if_neg (by omega)] | rw [y_kindsHas] | rw [y_isKind _ _ _ (by omega)] | rw [y_valHas] | rw [y_isProp _ _ _ (by omega)] | rw [y_thgHas] | rw [y_isThing _ _ _ (by omega)] | rw [y_inRange] | rw [y_in] | rw [s_X11_faulted] | rw [s_X12_faulty] | rw [s_X11_against] | rw [s_X12_against] | simp (disch := omega) only [w32_i, Int.add_sub_cancel, mc64, mc24, mc6, mc8, mc5] | rw [y_hasCell, u1, u4] | rw [y_cBlank _ _ _ (by omega) (by omega)] | rw [y_cTold _ _ _ (by omega) (by omega), z4] | split))
theorem r_read (d : Nat) (V : XM) (a b c : Int) (ht : TD V) : Yf (d + 30) 292 [xr 14 0, xi a, xi b, xi c] V = if ¬ (0 ≤ a ∧ a < (V 14 0 45)) then some (xl (-1), V) else if ¬ ((0 ≤ b ∧ b < (V 103 0 (a.toNat))) ∧ (0 ≤ c ∧ c < (V 104 0 (a.toNat)))) then some (xl (-12), xu V 14 0 0 2) else if (V 106 0 ((80 * a + 5 * b + c).toNat)) ≠ 0 then some (xl (-11), xu V 14 0 0 1) else some (xl (V 107 0 ((80 * a + 5 * b + c).toNat)), V) := by
  rw [s_X12_read]
  obtain ⟨t1, t2, t3⟩ := ht
  by_cases i1 : ¬ (0 ≤ a ∧ a < (V 14 0 45))
  · (repeat' (first | rfl | rw [ci_r] | rw [cl_r] | rw [cv_r] | rw [ite_b2] | rw [ite_b21] | rw [if_pos (by omega)] | rw [if_neg (by omega)] | rw [y_kindsHas] | rw [y_isKind _ _ _ (by omega)] | rw [y_valHas] | rw [y_isProp _ _ _ (by omega)] | rw [y_thgHas] | rw [y_isThing _ _ _ (by omega)] | rw [y_inRange] | rw [y_in] | rw [s_X11_faulted] | rw [s_X12_faulty] | rw [s_X11_against] | rw [s_X12_against] | simp (disch := omega) only [w32_i, Int.add_sub_cancel, mc64, mc24, mc6, mc8, mc5] | rw [y_isTable _ V _ (by omega)] | split))
  have t3 := t3 a (by omega) (by omega)
  (repeat' (first | rfl | rw [ci_r] | rw [cl_r] | rw [cv_r] | rw [ite_b2] | rw [ite_b21] | rw [if_pos (by omega)] | rw [if_neg (by omega)] | rw [y_kindsHas] | rw [y_isKind _ _ _ (by omega)] | rw [y_valHas] | rw [y_isProp _ _ _ (by omega)] | rw [y_thgHas] | rw [y_isThing _ _ _ (by omega)] | rw [y_inRange] | rw [y_in] | rw [s_X11_faulted] | rw [s_X12_faulty] | rw [s_X11_against] | rw [s_X12_against] | simp (disch := omega) only [w32_i, Int.add_sub_cancel, mc64, mc24, mc6, mc8, mc5] | rw [y_isTable _ V _ (by omega)] | rw [y_isCell _ V _ _ (by omega) (by omega) (by omega)] | rw [y_cellAt _ V (by omega) (by omega) (by omega)] | split))
theorem g_read (d : Nat) (V : XM) (h : Inv V) (a b c : Int) : AG d 171 292 [xi a, xi b, xi c] V := by
  have h' := h
  obtain ⟨⟨ck1, ck2, ck3, cp1, cp2, cp3, ct1, ct2, ct3, cs1, cs2, cs3, cq1, cq2, cq3, cr1, cr2, cr3, cf1, cf2, cf3, cb1, cb2, cb3, cw1, cw2, cw3, clf, clc⟩, hkin, hpro, husu, hgiv, hthg, hhom, hput, hrin, hsen, hbar, hset, hmos, hpai, hrel, hmap, hdoo, hshe, htab, hwor⟩ := h'
  have hC := c_read d V h a b c
  by_cases i1 : ¬ (0 ≤ a ∧ a < (V 14 0 45))
  · exact AG.no h (hC.trans (if_pos i1)) ((r_read d _ a b c (by exact h.td)).trans (if_pos (by exact i1)))
  rw [if_neg i1] at hC
  by_cases i2 : ¬ ((0 ≤ b ∧ b < (V 103 0 (a.toNat))) ∧ (0 ≤ c ∧ c < (V 104 0 (a.toNat))))
  · exact AG.flt h (hC.trans (if_pos i2)) ((r_read d _ a b c (by exact h.td)).trans ((if_neg (by exact i1)).trans (if_pos (by exact i2))))
  rw [if_neg i2] at hC
  by_cases i3 : (V 106 0 ((80 * a + 5 * b + c).toNat)) ≠ 0
  · exact AG.flt h (hC.trans (if_pos i3)) ((r_read d _ a b c (by exact h.td)).trans ((if_neg (by exact i1)).trans ((if_neg (by exact i2)).trans (if_pos (by exact i3)))))
  rw [if_neg i3] at hC
  exact AG.no h hC ((r_read d _ a b c (by exact h.td)).trans ((if_neg (by exact i1)).trans ((if_neg (by exact i2)).trans (if_neg (by exact i3)))))

theorem Inv.blank {V : XM} (h : Inv V) {a b c : Int} (h1 : 0 ≤ a) (h2 : a < (V 14 0 45)) (h3 : 0 ≤ b ∧ b < (V 103 0 (a.toNat))) (h4 : 0 ≤ c ∧ c < (V 104 0 (a.toNat))) : Inv (xu (xu V 64 a.toNat (5 * b + c).toNat 0) 106 0 (80 * a + 5 * b + c).toNat 1) := by
  obtain ⟨⟨ck1, ck2, ck3, cp1, cp2, cp3, ct1, ct2, ct3, cs1, cs2, cs3, cq1, cq2, cq3, cr1, cr2, cr3, cf1, cf2, cf3, cb1, cb2, cb3, cw1, cw2, cw3, clf, clc⟩, hkin, hpro, husu, hgiv, hthg, hhom, hput, hrin, hsen, hbar, hset, hmos, hpai, hrel, hmap, hdoo, hshe, htab, hwor⟩ := h
  obtain ⟨y1, y2, y3, y4, y5, y6, y7⟩ := htab a h1 h2
  refine ⟨⟨ck1, ck2, ck3, cp1, cp2, cp3, ct1, ct2, ct3, cs1, cs2, cs3, cq1, cq2, cq3, cr1, cr2, cr3, cf1, cf2, cf3, cb1, cb2, cb3, cw1, cw2, cw3, clf, clc⟩, hkin, hpro, husu, hgiv, hthg, hhom, hput, hrin, hsen, hbar, hset, hmos, hpai, hrel, hmap, hdoo, hshe, ?_, hwor⟩
  intro t g1 g2
  have g2' : t < (V 14 0 45) := g2
  obtain ⟨u1, u2, u3, u4, u5, u6, u7⟩ := htab t g1 g2
  refine ⟨u1, u2, u3, u4, u5, u6, fun c' k1 k2 => ?_⟩
  have k2' : c' < (V 104 0 (t.toNat)) := k2
  obtain ⟨w1, w2, w3, w4⟩ := u7 c' k1 k2
  refine ⟨w1, w2, w3, fun r' k3 k4 => ?_⟩
  have k4' : r' < (V 103 0 (t.toNat)) := k4
  have z := w4 r' k3 k4
  have e106 : (xu (xu V 64 a.toNat (5 * b + c).toNat 0) 106 0 (80 * a + 5 * b + c).toNat 1) 106 0 = zup (V 106 0) (80 * a + 5 * b + c).toNat 1 := xu_rw V 106 0 _ _
  have e64 : ∀ p j : Nat, (xu (xu V 64 a.toNat (5 * b + c).toNat 0) 106 0 (80 * a + 5 * b + c).toNat 1) 64 p j = (xu V 64 a.toNat (5 * b + c).toNat 0) 64 p j := fun p j => rfl
  rw [e106, e64, zup_e, xu_e]
  by_cases hh : t = a ∧ r' = b ∧ c' = c
  · rw [if_pos (by omega), if_pos (by omega)]
    exact ⟨.inr rfl, rfl, fun h => by omega⟩
  · rw [if_neg (by omega), if_neg (by omega)]
    exact z
theorem c_blank (d : Nat) (V : XM) (h : Inv V) (a b c : Int) : Yf (d + 30) 170 [xr 2 0, xi a, xi b, xi c] V = if ¬ (0 ≤ a ∧ a < (V 14 0 45)) then some (xi (-1), V) else if ¬ ((0 ≤ b ∧ b < (V 103 0 (a.toNat))) ∧ (0 ≤ c ∧ c < (V 104 0 (a.toNat)))) then some (xi (-12), xu V 2 0 15 2) else some (xi (if (V 106 0 ((80 * a + 5 * b + c).toNat)) = 0 then 1 else 0), xu V 64 a.toNat (5 * b + c).toNat 0) := by
  have h' := h
  obtain ⟨⟨ck1, ck2, ck3, cp1, cp2, cp3, ct1, ct2, ct3, cs1, cs2, cs3, cq1, cq2, cq3, cr1, cr2, cr3, cf1, cf2, cf3, cb1, cb2, cb3, cw1, cw2, cw3, clf, clc⟩, hkin, hpro, husu, hgiv, hthg, hhom, hput, hrin, hsen, hbar, hset, hmos, hpai, hrel, hmap, hdoo, hshe, htab, hwor⟩ := h'
  rw [s_X11_blank]
  by_cases i1 : ¬ (0 ≤ a ∧ a < (V 14 0 45))
  · (repeat' (first | rfl | rw [ci_r] | rw [cl_r] | rw [cv_r] | rw [ite_b2] | rw [ite_b21] | rw [if_pos (by omega)] | rw [if_neg (by omega)] | rw [y_kindsHas] | rw [y_isKind _ _ _ (by omega)] | rw [y_valHas] | rw [y_isProp _ _ _ (by omega)] | rw [y_thgHas] | rw [y_isThing _ _ _ (by omega)] | rw [y_inRange] | rw [y_in] | rw [s_X11_faulted] | rw [s_X12_faulty] | rw [s_X11_against] | rw [s_X12_against] | simp (disch := omega) only [w32_i, Int.add_sub_cancel, mc64, mc24, mc6, mc8, mc5] | fail | split))
  obtain ⟨u1, u2, u3, u4, u5, u6, u7⟩ := htab a (by omega) (by omega)
  by_cases i2 : ¬ ((0 ≤ b ∧ b < (V 103 0 (a.toNat))) ∧ (0 ≤ c ∧ c < (V 104 0 (a.toNat))))
  · (repeat' (first | rfl | rw [ci_r] | rw [cl_r] | rw [cv_r] | rw [ite_b2] | rw [ite_b21] | rw [if_pos (by omega)] | rw [if_neg (by omega)] | rw [y_kindsHas] | rw [y_isKind _ _ _ (by omega)] | rw [y_valHas] | rw [y_isProp _ _ _ (by omega)] | rw [y_thgHas] | rw [y_isThing _ _ _ (by omega)] | rw [y_inRange] | rw [y_in] | rw [s_X11_faulted] | rw [s_X12_faulty] | rw [s_X11_against] | rw [s_X12_against] | simp (disch := omega) only [w32_i, Int.add_sub_cancel, mc64, mc24, mc6, mc8, mc5] | rw [y_hasCell, u1, u4] | split))
  obtain ⟨w1, w2, w3, w4⟩ := u7 c (by omega) (by omega)
  obtain ⟨z1, z2, z3⟩ := w4 b (by omega) (by omega)
  (repeat' (first | rfl | rw [ci_r] | rw [cl_r] | rw [cv_r] | rw [ite_b2] | rw [ite_b21] | rw [if_pos (by omega)] | rw [if_neg (by omega)] | rw [y_kindsHas] | rw [y_isKind _ _ _ (by omega)] | rw [y_valHas] | rw [y_isProp _ _ _ (by omega)] | rw [y_thgHas] | rw [y_isThing _ _ _ (by omega)] | rw [y_inRange] | rw [y_in] | rw [s_X11_faulted] | rw [s_X12_faulty] | rw [s_X11_against] | rw [s_X12_against] | simp (disch := omega) only [w32_i, Int.add_sub_cancel, mc64, mc24, mc6, mc8, mc5] | rw [y_hasCell, u1, u4] | rw [s_X7_wipe] | split))
theorem r_blank (d : Nat) (V : XM) (a b c : Int) (ht : TD V) : Yf (d + 30) 291 [xr 14 0, xi a, xi b, xi c] V = if ¬ (0 ≤ a ∧ a < (V 14 0 45)) then some (xi (-1), V) else if ¬ ((0 ≤ b ∧ b < (V 103 0 (a.toNat))) ∧ (0 ≤ c ∧ c < (V 104 0 (a.toNat)))) then some (xi (-12), xu V 14 0 0 2) else some (xi (if (V 106 0 ((80 * a + 5 * b + c).toNat)) = 0 then 1 else 0), xu V 106 0 (80 * a + 5 * b + c).toNat 1) := by
  rw [s_X12_blank]
  obtain ⟨t1, t2, t3⟩ := ht
  by_cases i1 : ¬ (0 ≤ a ∧ a < (V 14 0 45))
  · (repeat' (first | rfl | rw [ci_r] | rw [cl_r] | rw [cv_r] | rw [ite_b2] | rw [ite_b21] | rw [if_pos (by omega)] | rw [if_neg (by omega)] | rw [y_kindsHas] | rw [y_isKind _ _ _ (by omega)] | rw [y_valHas] | rw [y_isProp _ _ _ (by omega)] | rw [y_thgHas] | rw [y_isThing _ _ _ (by omega)] | rw [y_inRange] | rw [y_in] | rw [s_X11_faulted] | rw [s_X12_faulty] | rw [s_X11_against] | rw [s_X12_against] | simp (disch := omega) only [w32_i, Int.add_sub_cancel, mc64, mc24, mc6, mc8, mc5] | rw [y_isTable _ V _ (by omega)] | split))
  have t3 := t3 a (by omega) (by omega)
  (repeat' (first | rfl | rw [ci_r] | rw [cl_r] | rw [cv_r] | rw [ite_b2] | rw [ite_b21] | rw [if_pos (by omega)] | rw [if_neg (by omega)] | rw [y_kindsHas] | rw [y_isKind _ _ _ (by omega)] | rw [y_valHas] | rw [y_isProp _ _ _ (by omega)] | rw [y_thgHas] | rw [y_isThing _ _ _ (by omega)] | rw [y_inRange] | rw [y_in] | rw [s_X11_faulted] | rw [s_X12_faulty] | rw [s_X11_against] | rw [s_X12_against] | simp (disch := omega) only [w32_i, Int.add_sub_cancel, mc64, mc24, mc6, mc8, mc5] | rw [y_isTable _ V _ (by omega)] | rw [y_isCell _ V _ _ (by omega) (by omega) (by omega)] | rw [y_cellAt _ V (by omega) (by omega) (by omega)] | split))
theorem g_blank (d : Nat) (V : XM) (h : Inv V) (a b c : Int) : AG d 170 291 [xi a, xi b, xi c] V := by
  have h' := h
  obtain ⟨⟨ck1, ck2, ck3, cp1, cp2, cp3, ct1, ct2, ct3, cs1, cs2, cs3, cq1, cq2, cq3, cr1, cr2, cr3, cf1, cf2, cf3, cb1, cb2, cb3, cw1, cw2, cw3, clf, clc⟩, hkin, hpro, husu, hgiv, hthg, hhom, hput, hrin, hsen, hbar, hset, hmos, hpai, hrel, hmap, hdoo, hshe, htab, hwor⟩ := h'
  have hC := c_blank d V h a b c
  by_cases i1 : ¬ (0 ≤ a ∧ a < (V 14 0 45))
  · exact AG.no h (hC.trans (if_pos i1)) ((r_blank d _ a b c (by exact h.td)).trans (if_pos (by exact i1)))
  rw [if_neg i1] at hC
  by_cases i2 : ¬ ((0 ≤ b ∧ b < (V 103 0 (a.toNat))) ∧ (0 ≤ c ∧ c < (V 104 0 (a.toNat))))
  · exact AG.flt h (hC.trans (if_pos i2)) ((r_blank d _ a b c (by exact h.td)).trans ((if_neg (by exact i1)).trans (if_pos (by exact i2))))
  rw [if_neg i2] at hC
  refine AG.mk hC ((r_blank d _ a b c (by exact h.td)).trans ((if_neg (by exact i1)).trans (if_neg (by exact i2)))) ?_ rfl
  exact Inv.blank h (by omega) (by omega) (by omega) (by omega)

/-- the loops over a column, both at once -/
theorem x_choose (V : XM) (h : Inv V) {a b : Int} (v : Int) (h1 : 0 ≤ a) (h2 : a < (V 14 0 45)) (h3 : 0 ≤ b) (h4 : b < (V 104 0 (a.toNat))) : ∀ (m : Nat) (l : Int), (16 - l).toNat ≤ m → 0 ≤ l → ∃ x, (∀ d, Xf (d + 1) 82 4 [xr 13 a.toNat, xi b, xl v, xr 0 0, xr 0 0, xi l] [] V = some (xi x, V)) ∧ (∀ d, Xf (d + 1) 293 46 [xr 14 0, xi a, xi b, xl v, xr 0 0, xr 0 0, xi l, xr 0 0] [] V = some (xi x, V)) := by
  obtain ⟨⟨ck1, ck2, ck3, cp1, cp2, cp3, ct1, ct2, ct3, cs1, cs2, cs3, cq1, cq2, cq3, cr1, cr2, cr3, cf1, cf2, cf3, cb1, cb2, cb3, cw1, cw2, cw3, clf, clc⟩, hkin, hpro, husu, hgiv, hthg, hhom, hput, hrin, hsen, hbar, hset, hmos, hpai, hrel, hmap, hdoo, hshe, htab, hwor⟩ := h
  obtain ⟨u1, u2, u3, u4, u5, u6, u7⟩ := htab a h1 h2
  obtain ⟨w1, w2, w3, w4⟩ := u7 b h3 h4
  intro m
  induction m with
  | zero =>
    intro l hm h0
    exact ⟨-9, fun d => by rw [s_X7_rowWith_4, if_neg (by omega)], fun d => by rw [s_X12_choose_46, if_pos (by omega), if_neg (by omega)]⟩
  | succ m ih =>
    intro l hm h0
    by_cases hl : l < (V 103 0 (a.toNat))
    · obtain ⟨z1, z2, z3⟩ := w4 l h0 hl
      obtain ⟨x, e1, e2⟩ := ih (l + 1) (by omega) (by omega)
      by_cases hz : (V 106 0 ((80 * a + 5 * l + b).toNat)) = 0
      · have z4 := (z3 hz).1
        by_cases hv : (V 107 0 ((80 * a + 5 * l + b).toNat)) = v
        · refine ⟨l, fun d => ?_, fun d => ?_⟩
          · rw [s_X7_rowWith_4]; simp only [cmp3_eq]; (repeat (first | rw [ci_r] | rw [cl_r] | rw [cv_r] | rw [ite_b2] | rw [ite_b21] | rw [if_pos (by omega)] | rw [if_neg (by omega)] | rw [y_kindsHas] | rw [y_isKind _ _ _ (by omega)] | rw [y_valHas] | rw [y_isProp _ _ _ (by omega)] | rw [y_thgHas] | rw [y_isThing _ _ _ (by omega)] | rw [y_inRange] | rw [y_in] | rw [s_X11_faulted] | rw [s_X12_faulty] | rw [s_X11_against] | rw [s_X12_against] | simp (disch := omega) only [w32_i, Int.add_sub_cancel, mc64, mc24, mc6, mc8, mc5] | rw [y_cBlank _ _ _ (by omega) (by omega)] | rw [y_cTold _ _ _ (by omega) (by omega), z4]))
          · rw [s_X12_choose_46]; simp only [cmp3_eq]; (repeat (first | rw [ci_r] | rw [cl_r] | rw [cv_r] | rw [ite_b2] | rw [ite_b21] | rw [if_pos (by omega)] | rw [if_neg (by omega)] | rw [y_kindsHas] | rw [y_isKind _ _ _ (by omega)] | rw [y_valHas] | rw [y_isProp _ _ _ (by omega)] | rw [y_thgHas] | rw [y_isThing _ _ _ (by omega)] | rw [y_inRange] | rw [y_in] | rw [s_X11_faulted] | rw [s_X12_faulty] | rw [s_X11_against] | rw [s_X12_against] | simp (disch := omega) only [w32_i, Int.add_sub_cancel, mc64, mc24, mc6, mc8, mc5] | rw [y_cellAt _ V (by omega) (by omega) (by omega)]))
        · refine ⟨x, fun d => ?_, fun d => ?_⟩
          · rw [s_X7_rowWith_4]; simp only [cmp3_eq]; (repeat (first | rw [ci_r] | rw [cl_r] | rw [cv_r] | rw [ite_b2] | rw [ite_b21] | rw [if_pos (by omega)] | rw [if_neg (by omega)] | rw [y_kindsHas] | rw [y_isKind _ _ _ (by omega)] | rw [y_valHas] | rw [y_isProp _ _ _ (by omega)] | rw [y_thgHas] | rw [y_isThing _ _ _ (by omega)] | rw [y_inRange] | rw [y_in] | rw [s_X11_faulted] | rw [s_X12_faulty] | rw [s_X11_against] | rw [s_X12_against] | simp (disch := omega) only [w32_i, Int.add_sub_cancel, mc64, mc24, mc6, mc8, mc5] | rw [y_cBlank _ _ _ (by omega) (by omega)] | rw [y_cTold _ _ _ (by omega) (by omega), z4])); exact e1 d
          · rw [s_X12_choose_46]; simp only [cmp3_eq]; (repeat (first | rw [ci_r] | rw [cl_r] | rw [cv_r] | rw [ite_b2] | rw [ite_b21] | rw [if_pos (by omega)] | rw [if_neg (by omega)] | rw [y_kindsHas] | rw [y_isKind _ _ _ (by omega)] | rw [y_valHas] | rw [y_isProp _ _ _ (by omega)] | rw [y_thgHas] | rw [y_isThing _ _ _ (by omega)] | rw [y_inRange] | rw [y_in] | rw [s_X11_faulted] | rw [s_X12_faulty] | rw [s_X11_against] | rw [s_X12_against] | simp (disch := omega) only [w32_i, Int.add_sub_cancel, mc64, mc24, mc6, mc8, mc5] | rw [y_cellAt _ V (by omega) (by omega) (by omega)])); exact e2 d
      · refine ⟨x, fun d => ?_, fun d => ?_⟩
        · rw [s_X7_rowWith_4]; (repeat (first | rw [ci_r] | rw [cl_r] | rw [cv_r] | rw [ite_b2] | rw [ite_b21] | rw [if_pos (by omega)] | rw [if_neg (by omega)] | rw [y_kindsHas] | rw [y_isKind _ _ _ (by omega)] | rw [y_valHas] | rw [y_isProp _ _ _ (by omega)] | rw [y_thgHas] | rw [y_isThing _ _ _ (by omega)] | rw [y_inRange] | rw [y_in] | rw [s_X11_faulted] | rw [s_X12_faulty] | rw [s_X11_against] | rw [s_X12_against] | simp (disch := omega) only [w32_i, Int.add_sub_cancel, mc64, mc24, mc6, mc8, mc5] | rw [y_cBlank _ _ _ (by omega) (by omega)])); exact e1 d
        · rw [s_X12_choose_46]; (repeat (first | rw [ci_r] | rw [cl_r] | rw [cv_r] | rw [ite_b2] | rw [ite_b21] | rw [if_pos (by omega)] | rw [if_neg (by omega)] | rw [y_kindsHas] | rw [y_isKind _ _ _ (by omega)] | rw [y_valHas] | rw [y_isProp _ _ _ (by omega)] | rw [y_thgHas] | rw [y_isThing _ _ _ (by omega)] | rw [y_inRange] | rw [y_in] | rw [s_X11_faulted] | rw [s_X12_faulty] | rw [s_X11_against] | rw [s_X12_against] | simp (disch := omega) only [w32_i, Int.add_sub_cancel, mc64, mc24, mc6, mc8, mc5] | rw [y_cellAt _ V (by omega) (by omega) (by omega)])); exact e2 d
    · exact ⟨-9, fun d => by rw [s_X7_rowWith_4, if_neg (by omega)], fun d => by rw [s_X12_choose_46, if_pos (by omega), if_neg (by omega)]⟩
theorem g_choose (d : Nat) (V : XM) (h : Inv V) (a b c e : Int) : AG d 172 293 [xi a, xi b, xl c, xi e] V := by
  have h' := h
  obtain ⟨⟨ck1, ck2, ck3, cp1, cp2, cp3, ct1, ct2, ct3, cs1, cs2, cs3, cq1, cq2, cq3, cr1, cr2, cr3, cf1, cf2, cf3, cb1, cb2, cb3, cw1, cw2, cw3, clf, clc⟩, hkin, hpro, husu, hgiv, hthg, hhom, hput, hrin, hsen, hbar, hset, hmos, hpai, hrel, hmap, hdoo, hshe, htab, hwor⟩ := h'
  by_cases i1 : ¬ (0 ≤ a ∧ a < (V 14 0 45))
  · exact AG.no h (by rw [s_X11_choose]; (repeat (first | rw [ci_r] | rw [cl_r] | rw [cv_r] | rw [ite_b2] | rw [ite_b21] | rw [if_pos (by omega)] | rw [if_neg (by omega)] | rw [y_kindsHas] | rw [y_isKind _ _ _ (by omega)] | rw [y_valHas] | rw [y_isProp _ _ _ (by omega)] | rw [y_thgHas] | rw [y_isThing _ _ _ (by omega)] | rw [y_inRange] | rw [y_in] | rw [s_X11_faulted] | rw [s_X12_faulty] | rw [s_X11_against] | rw [s_X12_against] | simp (disch := omega) only [w32_i, Int.add_sub_cancel, mc64, mc24, mc6, mc8, mc5] | fail))) (by rw [s_X12_choose]; (repeat (first | rw [ci_r] | rw [cl_r] | rw [cv_r] | rw [ite_b2] | rw [ite_b21] | rw [if_pos (by omega)] | rw [if_neg (by omega)] | rw [y_kindsHas] | rw [y_isKind _ _ _ (by omega)] | rw [y_valHas] | rw [y_isProp _ _ _ (by omega)] | rw [y_thgHas] | rw [y_isThing _ _ _ (by omega)] | rw [y_inRange] | rw [y_in] | rw [s_X11_faulted] | rw [s_X12_faulty] | rw [s_X11_against] | rw [s_X12_against] | simp (disch := omega) only [w32_i, Int.add_sub_cancel, mc64, mc24, mc6, mc8, mc5] | rw [y_isTable _ V _ (by omega)])))
  obtain ⟨u1, u2, u3, u4, u5, u6, u7⟩ := htab a (by omega) (by omega)
  by_cases i2 : ¬ (0 ≤ e ∧ e < 16)
  · exact AG.no h (by rw [s_X11_choose]; (repeat (first | rw [ci_r] | rw [cl_r] | rw [cv_r] | rw [ite_b2] | rw [ite_b21] | rw [if_pos (by omega)] | rw [if_neg (by omega)] | rw [y_kindsHas] | rw [y_isKind _ _ _ (by omega)] | rw [y_valHas] | rw [y_isProp _ _ _ (by omega)] | rw [y_thgHas] | rw [y_isThing _ _ _ (by omega)] | rw [y_inRange] | rw [y_in] | rw [s_X11_faulted] | rw [s_X12_faulty] | rw [s_X11_against] | rw [s_X12_against] | simp (disch := omega) only [w32_i, Int.add_sub_cancel, mc64, mc24, mc6, mc8, mc5] | fail))) (by rw [s_X12_choose]; (repeat (first | rw [ci_r] | rw [cl_r] | rw [cv_r] | rw [ite_b2] | rw [ite_b21] | rw [if_pos (by omega)] | rw [if_neg (by omega)] | rw [y_kindsHas] | rw [y_isKind _ _ _ (by omega)] | rw [y_valHas] | rw [y_isProp _ _ _ (by omega)] | rw [y_thgHas] | rw [y_isThing _ _ _ (by omega)] | rw [y_inRange] | rw [y_in] | rw [s_X11_faulted] | rw [s_X12_faulty] | rw [s_X11_against] | rw [s_X12_against] | simp (disch := omega) only [w32_i, Int.add_sub_cancel, mc64, mc24, mc6, mc8, mc5] | rw [y_isTable _ V _ (by omega)])))
  by_cases i3 : ¬ (0 ≤ b ∧ b < (V 104 0 (a.toNat)))
  · refine AG.flt (f := 2) (x := xi (-12)) h (by rw [s_X11_choose]; (repeat' (first | rfl | rw [ci_r] | rw [cl_r] | rw [cv_r] | rw [ite_b2] | rw [ite_b21] | rw [if_pos (by omega)] | rw [if_neg (by omega)] | rw [y_kindsHas] | rw [y_isKind _ _ _ (by omega)] | rw [y_valHas] | rw [y_isProp _ _ _ (by omega)] | rw [y_thgHas] | rw [y_isThing _ _ _ (by omega)] | rw [y_inRange] | rw [y_in] | rw [s_X11_faulted] | rw [s_X12_faulty] | rw [s_X11_against] | rw [s_X12_against] | simp (disch := omega) only [w32_i, Int.add_sub_cancel, mc64, mc24, mc6, mc8, mc5] | rw [u4] | split))) ?_
    have : ∀ W : XM, TD W → (W 14 0 45) = (V 14 0 45) → (W 104 0 (a.toNat)) = (V 104 0 (a.toNat)) → Yf (d + 30) 293 [xr 14 0, xi a, xi b, xl c, xi e] W = some (xi (-12), xu W 14 0 0 2) := by
      intro W ⟨q1, q2, q3⟩ q4 q5
      rw [s_X12_choose]
      (repeat' (first | rfl | rw [ci_r] | rw [cl_r] | rw [cv_r] | rw [ite_b2] | rw [ite_b21] | rw [if_pos (by omega)] | rw [if_neg (by omega)] | rw [y_kindsHas] | rw [y_isKind _ _ _ (by omega)] | rw [y_valHas] | rw [y_isProp _ _ _ (by omega)] | rw [y_thgHas] | rw [y_isThing _ _ _ (by omega)] | rw [y_inRange] | rw [y_in] | rw [s_X11_faulted] | rw [s_X12_faulty] | rw [s_X11_against] | rw [s_X12_against] | simp (disch := omega) only [w32_i, Int.add_sub_cancel, mc64, mc24, mc6, mc8, mc5] | rw [y_isTable _ W _ (by omega)] | rw [y_isColumn _ W _ (by omega) (by omega)] | split))
    exact this _ h.td rfl rfl
  · obtain ⟨x, e1, e2⟩ := x_choose V h (a := a) (b := b) c (by omega) (by omega) (by omega) (by omega) 20 e (by omega) (by omega)
    exact AG.no h (by rw [s_X11_choose]; (repeat (first | rw [ci_r] | rw [cl_r] | rw [cv_r] | rw [ite_b2] | rw [ite_b21] | rw [if_pos (by omega)] | rw [if_neg (by omega)] | rw [y_kindsHas] | rw [y_isKind _ _ _ (by omega)] | rw [y_valHas] | rw [y_isProp _ _ _ (by omega)] | rw [y_thgHas] | rw [y_isThing _ _ _ (by omega)] | rw [y_inRange] | rw [y_in] | rw [s_X11_faulted] | rw [s_X12_faulty] | rw [s_X11_against] | rw [s_X12_against] | simp (disch := omega) only [w32_i, Int.add_sub_cancel, mc64, mc24, mc6, mc8, mc5] | rw [u4] | rw [s_X7_rowWith, e1]))) (by rw [s_X12_choose]; (repeat (first | rw [ci_r] | rw [cl_r] | rw [cv_r] | rw [ite_b2] | rw [ite_b21] | rw [if_pos (by omega)] | rw [if_neg (by omega)] | rw [y_kindsHas] | rw [y_isKind _ _ _ (by omega)] | rw [y_valHas] | rw [y_isProp _ _ _ (by omega)] | rw [y_thgHas] | rw [y_isThing _ _ _ (by omega)] | rw [y_inRange] | rw [y_in] | rw [s_X11_faulted] | rw [s_X12_faulty] | rw [s_X11_against] | rw [s_X12_against] | simp (disch := omega) only [w32_i, Int.add_sub_cancel, mc64, mc24, mc6, mc8, mc5] | rw [y_isTable _ V _ (by omega)] | rw [y_isColumn _ V _ (by omega) (by omega)] | rw [e2])))
theorem x_sum (V : XM) (h : Inv V) {a b : Int} (h1 : 0 ≤ a) (h2 : a < (V 14 0 45)) (h3 : 0 ≤ b) (h4 : b < (V 104 0 (a.toNat))) : ∀ (m : Nat) (l c : Int), (16 - l).toNat ≤ m → 0 ≤ l → c64 c → ∃ x, (∀ d, Xf (d + 1) 86 5 [xr 13 a.toNat, xi b, xl c, xr 0 0, xi l] [] V = some (xl x, V)) ∧ (∀ d, Xf (d + 1) 297 5 [xr 14 0, xi a, xi b, xl c, xr 0 0, xi l, xr 0 0] [] V = some (xl x, V)) := by
  obtain ⟨⟨ck1, ck2, ck3, cp1, cp2, cp3, ct1, ct2, ct3, cs1, cs2, cs3, cq1, cq2, cq3, cr1, cr2, cr3, cf1, cf2, cf3, cb1, cb2, cb3, cw1, cw2, cw3, clf, clc⟩, hkin, hpro, husu, hgiv, hthg, hhom, hput, hrin, hsen, hbar, hset, hmos, hpai, hrel, hmap, hdoo, hshe, htab, hwor⟩ := h
  obtain ⟨u1, u2, u3, u4, u5, u6, u7⟩ := htab a h1 h2
  obtain ⟨w1, w2, w3, w4⟩ := u7 b h3 h4
  intro m
  induction m with
  | zero =>
    intro l c hm h0 hc
    exact ⟨c, fun d => by rw [s_X7_sum_5, if_neg (by omega)], fun d => by rw [s_X12_sumOf_5, if_pos (by omega), if_neg (by omega)]⟩
  | succ m ih =>
    intro l c hm h0 hc
    by_cases hl : l < (V 103 0 (a.toNat))
    · obtain ⟨z1, z2, z3⟩ := w4 l h0 hl
      by_cases hz : (V 106 0 ((80 * a + 5 * l + b).toNat)) = 0
      · have z4 := (z3 hz).1
        obtain ⟨x, e1, e2⟩ := ih (l + 1) (w64 (c + (V 107 0 ((80 * a + 5 * l + b).toNat)))) (by omega) (by omega) (w64_c _)
        refine ⟨x, fun d => ?_, fun d => ?_⟩
        · rw [s_X7_sum_5]; (repeat (first | rw [ci_r] | rw [cl_r] | rw [cv_r] | rw [ite_b2] | rw [ite_b21] | rw [if_pos (by omega)] | rw [if_neg (by omega)] | rw [y_kindsHas] | rw [y_isKind _ _ _ (by omega)] | rw [y_valHas] | rw [y_isProp _ _ _ (by omega)] | rw [y_thgHas] | rw [y_isThing _ _ _ (by omega)] | rw [y_inRange] | rw [y_in] | rw [s_X11_faulted] | rw [s_X12_faulty] | rw [s_X11_against] | rw [s_X12_against] | simp (disch := omega) only [w32_i, Int.add_sub_cancel, mc64, mc24, mc6, mc8, mc5] | rw [y_cBlank _ _ _ (by omega) (by omega)] | rw [y_cTold _ _ _ (by omega) (by omega), z4])); exact e1 d
        · rw [s_X12_sumOf_5]; (repeat (first | rw [ci_r] | rw [cl_r] | rw [cv_r] | rw [ite_b2] | rw [ite_b21] | rw [if_pos (by omega)] | rw [if_neg (by omega)] | rw [y_kindsHas] | rw [y_isKind _ _ _ (by omega)] | rw [y_valHas] | rw [y_isProp _ _ _ (by omega)] | rw [y_thgHas] | rw [y_isThing _ _ _ (by omega)] | rw [y_inRange] | rw [y_in] | rw [s_X11_faulted] | rw [s_X12_faulty] | rw [s_X11_against] | rw [s_X12_against] | simp (disch := omega) only [w32_i, Int.add_sub_cancel, mc64, mc24, mc6, mc8, mc5] | rw [y_cellAt _ V (by omega) (by omega) (by omega)])); exact e2 d
      · obtain ⟨x, e1, e2⟩ := ih (l + 1) c (by omega) (by omega) hc
        refine ⟨x, fun d => ?_, fun d => ?_⟩
        · rw [s_X7_sum_5]; (repeat (first | rw [ci_r] | rw [cl_r] | rw [cv_r] | rw [ite_b2] | rw [ite_b21] | rw [if_pos (by omega)] | rw [if_neg (by omega)] | rw [y_kindsHas] | rw [y_isKind _ _ _ (by omega)] | rw [y_valHas] | rw [y_isProp _ _ _ (by omega)] | rw [y_thgHas] | rw [y_isThing _ _ _ (by omega)] | rw [y_inRange] | rw [y_in] | rw [s_X11_faulted] | rw [s_X12_faulty] | rw [s_X11_against] | rw [s_X12_against] | simp (disch := omega) only [w32_i, Int.add_sub_cancel, mc64, mc24, mc6, mc8, mc5] | rw [y_cBlank _ _ _ (by omega) (by omega)])); exact e1 d
        · rw [s_X12_sumOf_5]; (repeat (first | rw [ci_r] | rw [cl_r] | rw [cv_r] | rw [ite_b2] | rw [ite_b21] | rw [if_pos (by omega)] | rw [if_neg (by omega)] | rw [y_kindsHas] | rw [y_isKind _ _ _ (by omega)] | rw [y_valHas] | rw [y_isProp _ _ _ (by omega)] | rw [y_thgHas] | rw [y_isThing _ _ _ (by omega)] | rw [y_inRange] | rw [y_in] | rw [s_X11_faulted] | rw [s_X12_faulty] | rw [s_X11_against] | rw [s_X12_against] | simp (disch := omega) only [w32_i, Int.add_sub_cancel, mc64, mc24, mc6, mc8, mc5] | rw [y_cellAt _ V (by omega) (by omega) (by omega)])); rw [Int.add_zero, w64_id hc]; exact e2 d
    · exact ⟨c, fun d => by rw [s_X7_sum_5, if_neg (by omega)], fun d => by rw [s_X12_sumOf_5, if_pos (by omega), if_neg (by omega)]⟩
theorem x_filled (V : XM) (h : Inv V) {a b : Int} (h1 : 0 ≤ a) (h2 : a < (V 14 0 45)) (h3 : 0 ≤ b) (h4 : b < (V 104 0 (a.toNat))) : ∀ (m : Nat) (l c : Int), (16 - l).toNat ≤ m → 0 ≤ l → 0 ≤ c → c ≤ l → ∃ x, (∀ d, Xf (d + 1) 87 4 [xr 13 a.toNat, xi b, xi c, xi l] [] V = some (xi x, V)) ∧ (∀ d W, W 103 = V 103 → W 106 = V 106 → Xf (d + 1) 296 5 [xr 14 0, xi a, xi b, xi c, xi l] [] W = some (xi x, W)) := by
  obtain ⟨⟨ck1, ck2, ck3, cp1, cp2, cp3, ct1, ct2, ct3, cs1, cs2, cs3, cq1, cq2, cq3, cr1, cr2, cr3, cf1, cf2, cf3, cb1, cb2, cb3, cw1, cw2, cw3, clf, clc⟩, hkin, hpro, husu, hgiv, hthg, hhom, hput, hrin, hsen, hbar, hset, hmos, hpai, hrel, hmap, hdoo, hshe, htab, hwor⟩ := h
  obtain ⟨u1, u2, u3, u4, u5, u6, u7⟩ := htab a h1 h2
  obtain ⟨w1, w2, w3, w4⟩ := u7 b h3 h4
  intro m
  induction m with
  | zero =>
    intro l c hm h0 hc hcl
    exact ⟨c, fun d => by rw [s_X7_filledIn_4, if_neg (by omega)], fun d W k1 k2 => by rw [s_X12_filledIn_5, k1, if_pos (by omega), if_neg (by omega)]⟩
  | succ m ih =>
    intro l c hm h0 hc hcl
    by_cases hl : l < (V 103 0 (a.toNat))
    · obtain ⟨z1, z2, z3⟩ := w4 l h0 hl
      by_cases hz : (V 106 0 ((80 * a + 5 * l + b).toNat)) = 0
      · obtain ⟨x, e1, e2⟩ := ih (l + 1) (c + 1) (by omega) (by omega) (by omega) (by omega)
        refine ⟨x, fun d => ?_, fun d W k1 k2 => ?_⟩
        · rw [s_X7_filledIn_4]; (repeat (first | rw [ci_r] | rw [cl_r] | rw [cv_r] | rw [ite_b2] | rw [ite_b21] | rw [if_pos (by omega)] | rw [if_neg (by omega)] | rw [y_kindsHas] | rw [y_isKind _ _ _ (by omega)] | rw [y_valHas] | rw [y_isProp _ _ _ (by omega)] | rw [y_thgHas] | rw [y_isThing _ _ _ (by omega)] | rw [y_inRange] | rw [y_in] | rw [s_X11_faulted] | rw [s_X12_faulty] | rw [s_X11_against] | rw [s_X12_against] | simp (disch := omega) only [w32_i, Int.add_sub_cancel, mc64, mc24, mc6, mc8, mc5] | rw [y_cBlank _ _ _ (by omega) (by omega)])); exact e1 d
        · rw [s_X12_filledIn_5, k1]; (repeat (first | rw [ci_r] | rw [cl_r] | rw [cv_r] | rw [ite_b2] | rw [ite_b21] | rw [if_pos (by omega)] | rw [if_neg (by omega)] | rw [y_kindsHas] | rw [y_isKind _ _ _ (by omega)] | rw [y_valHas] | rw [y_isProp _ _ _ (by omega)] | rw [y_thgHas] | rw [y_isThing _ _ _ (by omega)] | rw [y_inRange] | rw [y_in] | rw [s_X11_faulted] | rw [s_X12_faulty] | rw [s_X11_against] | rw [s_X12_against] | simp (disch := omega) only [w32_i, Int.add_sub_cancel, mc64, mc24, mc6, mc8, mc5] | rw [y_cellAt _ W (by omega) (by omega) (by omega), ci_r, k2])); exact e2 d W k1 k2
      · obtain ⟨x, e1, e2⟩ := ih (l + 1) c (by omega) (by omega) hc (by omega)
        refine ⟨x, fun d => ?_, fun d W k1 k2 => ?_⟩
        · rw [s_X7_filledIn_4]; (repeat (first | rw [ci_r] | rw [cl_r] | rw [cv_r] | rw [ite_b2] | rw [ite_b21] | rw [if_pos (by omega)] | rw [if_neg (by omega)] | rw [y_kindsHas] | rw [y_isKind _ _ _ (by omega)] | rw [y_valHas] | rw [y_isProp _ _ _ (by omega)] | rw [y_thgHas] | rw [y_isThing _ _ _ (by omega)] | rw [y_inRange] | rw [y_in] | rw [s_X11_faulted] | rw [s_X12_faulty] | rw [s_X11_against] | rw [s_X12_against] | simp (disch := omega) only [w32_i, Int.add_sub_cancel, mc64, mc24, mc6, mc8, mc5] | rw [y_cBlank _ _ _ (by omega) (by omega)])); exact e1 d
        · rw [s_X12_filledIn_5, k1]; (repeat (first | rw [ci_r] | rw [cl_r] | rw [cv_r] | rw [ite_b2] | rw [ite_b21] | rw [if_pos (by omega)] | rw [if_neg (by omega)] | rw [y_kindsHas] | rw [y_isKind _ _ _ (by omega)] | rw [y_valHas] | rw [y_isProp _ _ _ (by omega)] | rw [y_thgHas] | rw [y_isThing _ _ _ (by omega)] | rw [y_inRange] | rw [y_in] | rw [s_X11_faulted] | rw [s_X12_faulty] | rw [s_X11_against] | rw [s_X12_against] | simp (disch := omega) only [w32_i, Int.add_sub_cancel, mc64, mc24, mc6, mc8, mc5] | rw [y_cellAt _ W (by omega) (by omega) (by omega), ci_r, k2])); rw [show c + 0 = c by omega]; exact e2 d W k1 k2
    · exact ⟨c, fun d => by rw [s_X7_filledIn_4, if_neg (by omega)], fun d W k1 k2 => by rw [s_X12_filledIn_5, k1, if_pos (by omega), if_neg (by omega)]⟩
theorem g_total (d : Nat) (V : XM) (h : Inv V) (a b : Int) : AG d 174 298 [xi a, xi b] V := by
  have h' := h
  obtain ⟨⟨ck1, ck2, ck3, cp1, cp2, cp3, ct1, ct2, ct3, cs1, cs2, cs3, cq1, cq2, cq3, cr1, cr2, cr3, cf1, cf2, cf3, cb1, cb2, cb3, cw1, cw2, cw3, clf, clc⟩, hkin, hpro, husu, hgiv, hthg, hhom, hput, hrin, hsen, hbar, hset, hmos, hpai, hrel, hmap, hdoo, hshe, htab, hwor⟩ := h'
  by_cases i1 : ¬ (0 ≤ a ∧ a < (V 14 0 45))
  · exact AG.no h (by rw [s_X11_total]; (repeat (first | rw [ci_r] | rw [cl_r] | rw [cv_r] | rw [ite_b2] | rw [ite_b21] | rw [if_pos (by omega)] | rw [if_neg (by omega)] | rw [y_kindsHas] | rw [y_isKind _ _ _ (by omega)] | rw [y_valHas] | rw [y_isProp _ _ _ (by omega)] | rw [y_thgHas] | rw [y_isThing _ _ _ (by omega)] | rw [y_inRange] | rw [y_in] | rw [s_X11_faulted] | rw [s_X12_faulty] | rw [s_X11_against] | rw [s_X12_against] | simp (disch := omega) only [w32_i, Int.add_sub_cancel, mc64, mc24, mc6, mc8, mc5] | fail))) (by rw [s_X12_total]; (repeat (first | rw [ci_r] | rw [cl_r] | rw [cv_r] | rw [ite_b2] | rw [ite_b21] | rw [if_pos (by omega)] | rw [if_neg (by omega)] | rw [y_kindsHas] | rw [y_isKind _ _ _ (by omega)] | rw [y_valHas] | rw [y_isProp _ _ _ (by omega)] | rw [y_thgHas] | rw [y_isThing _ _ _ (by omega)] | rw [y_inRange] | rw [y_in] | rw [s_X11_faulted] | rw [s_X12_faulty] | rw [s_X11_against] | rw [s_X12_against] | simp (disch := omega) only [w32_i, Int.add_sub_cancel, mc64, mc24, mc6, mc8, mc5] | rw [y_isTable _ V _ (by omega)])))
  obtain ⟨u1, u2, u3, u4, u5, u6, u7⟩ := htab a (by omega) (by omega)
  by_cases i3 : ¬ (0 ≤ b ∧ b < (V 104 0 (a.toNat)))
  · refine AG.flt (f := 2) (x := xl (-12)) h (by rw [s_X11_total]; (repeat' (first | rfl | rw [ci_r] | rw [cl_r] | rw [cv_r] | rw [ite_b2] | rw [ite_b21] | rw [if_pos (by omega)] | rw [if_neg (by omega)] | rw [y_kindsHas] | rw [y_isKind _ _ _ (by omega)] | rw [y_valHas] | rw [y_isProp _ _ _ (by omega)] | rw [y_thgHas] | rw [y_isThing _ _ _ (by omega)] | rw [y_inRange] | rw [y_in] | rw [s_X11_faulted] | rw [s_X12_faulty] | rw [s_X11_against] | rw [s_X12_against] | simp (disch := omega) only [w32_i, Int.add_sub_cancel, mc64, mc24, mc6, mc8, mc5] | rw [u4] | split))) ?_
    have : ∀ W : XM, TD W → (W 14 0 45) = (V 14 0 45) → (W 104 0 (a.toNat)) = (V 104 0 (a.toNat)) → Yf (d + 30) 298 [xr 14 0, xi a, xi b] W = some (xl (-12), xu W 14 0 0 2) := by
      intro W ⟨q1, q2, q3⟩ q4 q5
      rw [s_X12_total]
      (repeat' (first | rfl | rw [ci_r] | rw [cl_r] | rw [cv_r] | rw [ite_b2] | rw [ite_b21] | rw [if_pos (by omega)] | rw [if_neg (by omega)] | rw [y_kindsHas] | rw [y_isKind _ _ _ (by omega)] | rw [y_valHas] | rw [y_isProp _ _ _ (by omega)] | rw [y_thgHas] | rw [y_isThing _ _ _ (by omega)] | rw [y_inRange] | rw [y_in] | rw [s_X11_faulted] | rw [s_X12_faulty] | rw [s_X11_against] | rw [s_X12_against] | simp (disch := omega) only [w32_i, Int.add_sub_cancel, mc64, mc24, mc6, mc8, mc5] | rw [y_isTable _ W _ (by omega)] | rw [y_isColumn _ W _ (by omega) (by omega)] | split))
    exact this _ h.td rfl rfl
  · obtain ⟨x, e1, e2⟩ := x_sum V h (a := a) (b := b) (by omega) (by omega) (by omega) (by omega) 20 0 0 (by omega) (by omega) ⟨by omega, by omega⟩
    exact AG.no h (by rw [s_X11_total]; (repeat (first | rw [ci_r] | rw [cl_r] | rw [cv_r] | rw [ite_b2] | rw [ite_b21] | rw [if_pos (by omega)] | rw [if_neg (by omega)] | rw [y_kindsHas] | rw [y_isKind _ _ _ (by omega)] | rw [y_valHas] | rw [y_isProp _ _ _ (by omega)] | rw [y_thgHas] | rw [y_isThing _ _ _ (by omega)] | rw [y_inRange] | rw [y_in] | rw [s_X11_faulted] | rw [s_X12_faulty] | rw [s_X11_against] | rw [s_X12_against] | simp (disch := omega) only [w32_i, Int.add_sub_cancel, mc64, mc24, mc6, mc8, mc5] | rw [u4] | rw [s_X7_sum, e1]))) (by rw [s_X12_total]; (repeat (first | rw [ci_r] | rw [cl_r] | rw [cv_r] | rw [ite_b2] | rw [ite_b21] | rw [if_pos (by omega)] | rw [if_neg (by omega)] | rw [y_kindsHas] | rw [y_isKind _ _ _ (by omega)] | rw [y_valHas] | rw [y_isProp _ _ _ (by omega)] | rw [y_thgHas] | rw [y_isThing _ _ _ (by omega)] | rw [y_inRange] | rw [y_in] | rw [s_X11_faulted] | rw [s_X12_faulty] | rw [s_X11_against] | rw [s_X12_against] | simp (disch := omega) only [w32_i, Int.add_sub_cancel, mc64, mc24, mc6, mc8, mc5] | rw [y_isTable _ V _ (by omega)] | rw [y_isColumn _ V _ (by omega) (by omega)] | rw [s_X12_sumOf, e2])))
theorem g_mean (d : Nat) (V : XM) (h : Inv V) (a b : Int) : AG d 175 299 [xi a, xi b] V := by
  have h' := h
  obtain ⟨⟨ck1, ck2, ck3, cp1, cp2, cp3, ct1, ct2, ct3, cs1, cs2, cs3, cq1, cq2, cq3, cr1, cr2, cr3, cf1, cf2, cf3, cb1, cb2, cb3, cw1, cw2, cw3, clf, clc⟩, hkin, hpro, husu, hgiv, hthg, hhom, hput, hrin, hsen, hbar, hset, hmos, hpai, hrel, hmap, hdoo, hshe, htab, hwor⟩ := h'
  by_cases i1 : ¬ (0 ≤ a ∧ a < (V 14 0 45))
  · exact AG.no h (by rw [s_X11_mean]; (repeat (first | rw [ci_r] | rw [cl_r] | rw [cv_r] | rw [ite_b2] | rw [ite_b21] | rw [if_pos (by omega)] | rw [if_neg (by omega)] | rw [y_kindsHas] | rw [y_isKind _ _ _ (by omega)] | rw [y_valHas] | rw [y_isProp _ _ _ (by omega)] | rw [y_thgHas] | rw [y_isThing _ _ _ (by omega)] | rw [y_inRange] | rw [y_in] | rw [s_X11_faulted] | rw [s_X12_faulty] | rw [s_X11_against] | rw [s_X12_against] | simp (disch := omega) only [w32_i, Int.add_sub_cancel, mc64, mc24, mc6, mc8, mc5] | fail))) (by rw [s_X12_mean]; (repeat (first | rw [ci_r] | rw [cl_r] | rw [cv_r] | rw [ite_b2] | rw [ite_b21] | rw [if_pos (by omega)] | rw [if_neg (by omega)] | rw [y_kindsHas] | rw [y_isKind _ _ _ (by omega)] | rw [y_valHas] | rw [y_isProp _ _ _ (by omega)] | rw [y_thgHas] | rw [y_isThing _ _ _ (by omega)] | rw [y_inRange] | rw [y_in] | rw [s_X11_faulted] | rw [s_X12_faulty] | rw [s_X11_against] | rw [s_X12_against] | simp (disch := omega) only [w32_i, Int.add_sub_cancel, mc64, mc24, mc6, mc8, mc5] | rw [y_isTable _ V _ (by omega)])))
  obtain ⟨u1, u2, u3, u4, u5, u6, u7⟩ := htab a (by omega) (by omega)
  by_cases i3 : ¬ (0 ≤ b ∧ b < (V 104 0 (a.toNat)))
  · refine AG.flt (f := 2) (x := xl (-12)) h (by rw [s_X11_mean]; (repeat' (first | rfl | rw [ci_r] | rw [cl_r] | rw [cv_r] | rw [ite_b2] | rw [ite_b21] | rw [if_pos (by omega)] | rw [if_neg (by omega)] | rw [y_kindsHas] | rw [y_isKind _ _ _ (by omega)] | rw [y_valHas] | rw [y_isProp _ _ _ (by omega)] | rw [y_thgHas] | rw [y_isThing _ _ _ (by omega)] | rw [y_inRange] | rw [y_in] | rw [s_X11_faulted] | rw [s_X12_faulty] | rw [s_X11_against] | rw [s_X12_against] | simp (disch := omega) only [w32_i, Int.add_sub_cancel, mc64, mc24, mc6, mc8, mc5] | rw [u4] | split))) ?_
    have : ∀ W : XM, TD W → (W 14 0 45) = (V 14 0 45) → (W 104 0 (a.toNat)) = (V 104 0 (a.toNat)) → Yf (d + 30) 299 [xr 14 0, xi a, xi b] W = some (xl (-12), xu W 14 0 0 2) := by
      intro W ⟨q1, q2, q3⟩ q4 q5
      rw [s_X12_mean]
      (repeat' (first | rfl | rw [ci_r] | rw [cl_r] | rw [cv_r] | rw [ite_b2] | rw [ite_b21] | rw [if_pos (by omega)] | rw [if_neg (by omega)] | rw [y_kindsHas] | rw [y_isKind _ _ _ (by omega)] | rw [y_valHas] | rw [y_isProp _ _ _ (by omega)] | rw [y_thgHas] | rw [y_isThing _ _ _ (by omega)] | rw [y_inRange] | rw [y_in] | rw [s_X11_faulted] | rw [s_X12_faulty] | rw [s_X11_against] | rw [s_X12_against] | simp (disch := omega) only [w32_i, Int.add_sub_cancel, mc64, mc24, mc6, mc8, mc5] | rw [y_isTable _ W _ (by omega)] | rw [y_isColumn _ W _ (by omega) (by omega)] | split))
    exact this _ h.td rfl rfl
  · obtain ⟨x, e1, e2⟩ := x_sum V h (a := a) (b := b) (by omega) (by omega) (by omega) (by omega) 20 0 0 (by omega) (by omega) ⟨by omega, by omega⟩
    obtain ⟨n, f1, f2⟩ := x_filled V h (a := a) (b := b) (by omega) (by omega) (by omega) (by omega) 20 0 0 (by omega) (by omega) (by omega) (by omega)
    by_cases i4 : n = 0
    · refine AG.flt (f := 6) (x := xl (-16)) h (by rw [s_X11_mean]; (repeat' (first | rfl | rw [ci_r] | rw [cl_r] | rw [cv_r] | rw [ite_b2] | rw [ite_b21] | rw [if_pos (by omega)] | rw [if_neg (by omega)] | rw [y_kindsHas] | rw [y_isKind _ _ _ (by omega)] | rw [y_valHas] | rw [y_isProp _ _ _ (by omega)] | rw [y_thgHas] | rw [y_isThing _ _ _ (by omega)] | rw [y_inRange] | rw [y_in] | rw [s_X11_faulted] | rw [s_X12_faulty] | rw [s_X11_against] | rw [s_X12_against] | simp (disch := omega) only [w32_i, Int.add_sub_cancel, mc64, mc24, mc6, mc8, mc5] | rw [u4] | rw [s_X7_filledIn, f1] | split))) ?_
      have : ∀ W : XM, TD W → (W 14 0 45) = (V 14 0 45) → W 104 = V 104 → W 103 = V 103 → W 106 = V 106 → Yf (d + 30) 299 [xr 14 0, xi a, xi b] W = some (xl (-16), xu W 14 0 0 6) := by
        intro W ⟨q1, q2, q3⟩ q4 q5 q6 q7
        have q8 : (W 104 0 (a.toNat)) = (V 104 0 (a.toNat)) := by rw [q5]
        rw [s_X12_mean]
        (repeat' (first | rfl | rw [ci_r] | rw [cl_r] | rw [cv_r] | rw [ite_b2] | rw [ite_b21] | rw [if_pos (by omega)] | rw [if_neg (by omega)] | rw [y_kindsHas] | rw [y_isKind _ _ _ (by omega)] | rw [y_valHas] | rw [y_isProp _ _ _ (by omega)] | rw [y_thgHas] | rw [y_isThing _ _ _ (by omega)] | rw [y_inRange] | rw [y_in] | rw [s_X11_faulted] | rw [s_X12_faulty] | rw [s_X11_against] | rw [s_X12_against] | simp (disch := omega) only [w32_i, Int.add_sub_cancel, mc64, mc24, mc6, mc8, mc5] | rw [y_isTable _ W _ (by omega)] | rw [y_isColumn _ W _ (by omega) (by omega)] | rw [s_X12_filledIn, f2 _ W q6 q7] | split))
      exact this _ h.td rfl rfl rfl rfl
    · exact AG.no h (by rw [s_X11_mean]; (repeat (first | rw [ci_r] | rw [cl_r] | rw [cv_r] | rw [ite_b2] | rw [ite_b21] | rw [if_pos (by omega)] | rw [if_neg (by omega)] | rw [y_kindsHas] | rw [y_isKind _ _ _ (by omega)] | rw [y_valHas] | rw [y_isProp _ _ _ (by omega)] | rw [y_thgHas] | rw [y_isThing _ _ _ (by omega)] | rw [y_inRange] | rw [y_in] | rw [s_X11_faulted] | rw [s_X12_faulty] | rw [s_X11_against] | rw [s_X12_against] | simp (disch := omega) only [w32_i, Int.add_sub_cancel, mc64, mc24, mc6, mc8, mc5] | rw [u4] | rw [s_X7_filledIn, f1] | rw [s_X7_sum, e1]))) (by rw [s_X12_mean]; (repeat (first | rw [ci_r] | rw [cl_r] | rw [cv_r] | rw [ite_b2] | rw [ite_b21] | rw [if_pos (by omega)] | rw [if_neg (by omega)] | rw [y_kindsHas] | rw [y_isKind _ _ _ (by omega)] | rw [y_valHas] | rw [y_isProp _ _ _ (by omega)] | rw [y_thgHas] | rw [y_isThing _ _ _ (by omega)] | rw [y_inRange] | rw [y_in] | rw [s_X11_faulted] | rw [s_X12_faulty] | rw [s_X11_against] | rw [s_X12_against] | simp (disch := omega) only [w32_i, Int.add_sub_cancel, mc64, mc24, mc6, mc8, mc5] | rw [y_isTable _ V _ (by omega)] | rw [y_isColumn _ V _ (by omega) (by omega)] | rw [s_X12_filledIn, f2 _ V rfl rfl] | rw [s_X12_sumOf, e2])))
