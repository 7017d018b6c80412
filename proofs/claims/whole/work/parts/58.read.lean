/-! calls that read -/
theorem c_value (d : Nat) (V : XM) (h : Inv V) (a b : Int) : Yf (d + 30) 132 [xr 2 0, xi a, xi b] V = if ¬ (0 ≤ a ∧ a < (V 14 0 9)) ∨ ¬ (0 ≤ b ∧ b < (V 14 0 3)) then some (xl (-1), V) else if ¬ (kfit (V 67 0) (V 73 0 (a.toNat)) (V 68 0 (b.toNat)) = true) then some (xl (-3), V) else some (xl (valueF V a b), V) := by
  have h' := h
  obtain ⟨⟨ck1, ck2, ck3, cp1, cp2, cp3, ct1, ct2, ct3, cs1, cs2, cs3, cq1, cq2, cq3, cr1, cr2, cr3, cf1, cf2, cf3, cb1, cb2, cb3, cw1, cw2, cw3, clf, clc⟩, hkin, hpro, husu, hgiv, hthg, hhom, hput, hrin, hsen, hbar, hset, hmos, hpai, hrel, hmap, hdoo, hshe, htab, hwor⟩ := h'
  rw [s_X11_value]
  by_cases i1 : ¬ (0 ≤ a ∧ a < (V 14 0 9)) ∨ ¬ (0 ≤ b ∧ b < (V 14 0 3))
  · (repeat' (first | rfl | rw [ci_r] | rw [cl_r] | rw [cv_r] | rw [ite_b2] | rw [ite_b21] | rw [if_pos (by omega)] | rw [if_neg (by omega)] | rw [y_kindsHas] | rw [y_isKind _ _ _ (by omega)] | rw [y_valHas] | rw [y_isProp _ _ _ (by omega)] | rw [y_thgHas] | rw [y_isThing _ _ _ (by omega)] | rw [y_inRange] | rw [y_in] | rw [s_X11_faulted] | rw [s_X12_faulty] | rw [s_X11_against] | rw [s_X12_against] | simp (disch := omega) only [w32_i, Int.add_sub_cancel, mc64, mc24, mc6, mc8, mc5] | fail | split))
  rw [if_neg i1]
  obtain ⟨t1, t2, t3, _⟩ := hthg a (by omega) (by omega)
  obtain ⟨p1, p2, p3, _⟩ := hpro b (by omega) (by omega)
  (repeat (first | rw [ci_r] | rw [cl_r] | rw [cv_r] | rw [ite_b2] | rw [ite_b21] | rw [if_pos (by omega)] | rw [if_neg (by omega)] | rw [y_kindsHas] | rw [y_isKind _ _ _ (by omega)] | rw [y_valHas] | rw [y_isProp _ _ _ (by omega)] | rw [y_thgHas] | rw [y_isThing _ _ _ (by omega)] | rw [y_inRange] | rw [y_in] | rw [s_X11_faulted] | rw [s_X12_faulty] | rw [s_X11_against] | rw [s_X12_against] | simp (disch := omega) only [w32_i, Int.add_sub_cancel, mc64, mc24, mc6, mc8, mc5] | rw [y_isFor _ V hkin (by omega) (by omega) (by omega) (by omega) (by omega) (by omega) (by omega)]))
  rw [t1, p1]
  by_cases i2 : kfit (V 67 0) (V 73 0 (a.toNat)) (V 68 0 (b.toNat)) = true
  · rw [if_pos i2, if_neg (by simp [i2]), y_cval _ V h (by omega) (by omega) (by omega) (by omega), cl_r]
  · rw [if_neg i2, if_pos i2]
theorem r_value (d : Nat) (V : XM) (a b : Int) {B : Nat → Int} (hb : RB V B) (p1 : 0 ≤ (V 14 0 3)) (p2 : (V 14 0 3) ≤ 12) : Yf (d + 30) 225 [xr 14 0, xi a, xi b] V = if ¬ (0 ≤ a ∧ a < (V 14 0 9)) ∨ ¬ (0 ≤ b ∧ b < (V 14 0 3)) then some (xl (-1), V) else if ¬ (kfit (V 67 0) (V 73 0 (a.toNat)) (V 68 0 (b.toNat)) = true) then some (xl (-3), V) else some (xl (valueF V a b), V) := by
  have hb' := hb
  obtain ⟨hp, ct1, ct2, h6⟩ := hb
  rw [s_X12_value]
  by_cases i1 : ¬ (0 ≤ a ∧ a < (V 14 0 9)) ∨ ¬ (0 ≤ b ∧ b < (V 14 0 3))
  · (repeat' (first | rfl | rw [ci_r] | rw [cl_r] | rw [cv_r] | rw [ite_b2] | rw [ite_b21] | rw [if_pos (by omega)] | rw [if_neg (by omega)] | rw [y_kindsHas] | rw [y_isKind _ _ _ (by omega)] | rw [y_valHas] | rw [y_isProp _ _ _ (by omega)] | rw [y_thgHas] | rw [y_isThing _ _ _ (by omega)] | rw [y_inRange] | rw [y_in] | rw [s_X11_faulted] | rw [s_X12_faulty] | rw [s_X11_against] | rw [s_X12_against] | simp (disch := omega) only [w32_i, Int.add_sub_cancel, mc64, mc24, mc6, mc8, mc5] | fail | split))
  rw [if_neg i1]
  obtain ⟨t2, t3, _⟩ := h6 a (by omega) (by omega)
  (repeat (first | rw [ci_r] | rw [cl_r] | rw [cv_r] | rw [ite_b2] | rw [ite_b21] | rw [if_pos (by omega)] | rw [if_neg (by omega)] | rw [y_kindsHas] | rw [y_isKind _ _ _ (by omega)] | rw [y_valHas] | rw [y_isProp _ _ _ (by omega)] | rw [y_thgHas] | rw [y_isThing _ _ _ (by omega)] | rw [y_inRange] | rw [y_in] | rw [s_X11_faulted] | rw [s_X12_faulty] | rw [s_X11_against] | rw [s_X12_against] | simp (disch := omega) only [w32_i, Int.add_sub_cancel, mc64, mc24, mc6, mc8, mc5] | rw [y_comesTo _ V hp _ _ (by omega) (by omega)]))
  by_cases i2 : kfit (V 67 0) (V 73 0 (a.toNat)) (V 68 0 (b.toNat)) = true
  · rw [if_pos i2, if_neg (by simp [i2]), y_rval _ V hb' (by omega) (by omega) (by omega) (by omega), cl_r]
  · rw [if_neg i2, if_pos i2]
theorem g_value (d : Nat) (V : XM) (h : Inv V) (a b : Int) : AG d 132 225 [xi a, xi b] V := by
  have h' := h
  obtain ⟨⟨ck1, ck2, ck3, cp1, cp2, cp3, ct1, ct2, ct3, cs1, cs2, cs3, cq1, cq2, cq3, cr1, cr2, cr3, cf1, cf2, cf3, cb1, cb2, cb3, cw1, cw2, cw3, clf, clc⟩, hkin, hpro, husu, hgiv, hthg, hhom, hput, hrin, hsen, hbar, hset, hmos, hpai, hrel, hmap, hdoo, hshe, htab, hwor⟩ := h'
  have hC := c_value d V h a b
  by_cases i1 : ¬ (0 ≤ a ∧ a < (V 14 0 9)) ∨ ¬ (0 ≤ b ∧ b < (V 14 0 3))
  · exact AG.no h (hC.trans (if_pos i1)) ((r_value d _ a b (by exact h.rb) (by exact cp1) (by exact cp2)).trans (if_pos (by exact i1)))
  rw [if_neg i1] at hC
  by_cases i2 : ¬ (kfit (V 67 0) (V 73 0 (a.toNat)) (V 68 0 (b.toNat)) = true)
  · exact AG.no h (hC.trans (if_pos i2)) ((r_value d _ a b (by exact h.rb) (by exact cp1) (by exact cp2)).trans ((if_neg (by exact i1)).trans (if_pos (by exact i2))))
  rw [if_neg i2] at hC
  exact AG.no h hC ((r_value d _ a b (by exact h.rb) (by exact cp1) (by exact cp2)).trans ((if_neg (by exact i1)).trans (if_neg (by exact i2))))

theorem c_given (d : Nat) (V : XM) (h : Inv V) (a b : Int) : Yf (d + 30) 133 [xr 2 0, xi a, xi b] V = if ¬ (0 ≤ a ∧ a < (V 14 0 9)) ∨ ¬ (0 ≤ b ∧ b < (V 14 0 3)) then some (xi (-1), V) else some (xi (V 83 0 ((64 * b + a).toNat)), V) := by
  obtain ⟨⟨ck1, ck2, ck3, cp1, cp2, cp3, ct1, ct2, ct3, cs1, cs2, cs3, cq1, cq2, cq3, cr1, cr2, cr3, cf1, cf2, cf3, cb1, cb2, cb3, cw1, cw2, cw3, clf, clc⟩, hkin, hpro, husu, hgiv, hthg, hhom, hput, hrin, hsen, hbar, hset, hmos, hpai, hrel, hmap, hdoo, hshe, htab, hwor⟩ := h
  rw [s_X11_given]
  by_cases i1 : ¬ (0 ≤ a ∧ a < (V 14 0 9)) ∨ ¬ (0 ≤ b ∧ b < (V 14 0 3))
  · (repeat' (first | rfl | rw [ci_r] | rw [cl_r] | rw [cv_r] | rw [ite_b2] | rw [ite_b21] | rw [if_pos (by omega)] | rw [if_neg (by omega)] | rw [y_kindsHas] | rw [y_isKind _ _ _ (by omega)] | rw [y_valHas] | rw [y_isProp _ _ _ (by omega)] | rw [y_thgHas] | rw [y_isThing _ _ _ (by omega)] | rw [y_inRange] | rw [y_in] | rw [s_X11_faulted] | rw [s_X12_faulty] | rw [s_X11_against] | rw [s_X12_against] | simp (disch := omega) only [w32_i, Int.add_sub_cancel, mc64, mc24, mc6, mc8, mc5] | fail | split))
  rw [if_neg i1]
  obtain ⟨g1, _⟩ := hgiv b a (by omega) (by omega) (by omega) (by omega)
  (repeat (first | rw [ci_r] | rw [cl_r] | rw [cv_r] | rw [ite_b2] | rw [ite_b21] | rw [if_pos (by omega)] | rw [if_neg (by omega)] | rw [y_kindsHas] | rw [y_isKind _ _ _ (by omega)] | rw [y_valHas] | rw [y_isProp _ _ _ (by omega)] | rw [y_thgHas] | rw [y_isThing _ _ _ (by omega)] | rw [y_inRange] | rw [y_in] | rw [s_X11_faulted] | rw [s_X12_faulty] | rw [s_X11_against] | rw [s_X12_against] | simp (disch := omega) only [w32_i, Int.add_sub_cancel, mc64, mc24, mc6, mc8, mc5] | rw [y_givenBy _ V (by omega) (by omega) (by omega) (by omega), g1]))
theorem r_given (d : Nat) (V : XM) (a b : Int) (h1 : 0 ≤ (V 14 0 9)) (h2 : (V 14 0 9) ≤ 64) (p1 : 0 ≤ (V 14 0 3)) (p2 : (V 14 0 3) ≤ 12) : Yf (d + 30) 226 [xr 14 0, xi a, xi b] V = if ¬ (0 ≤ a ∧ a < (V 14 0 9)) ∨ ¬ (0 ≤ b ∧ b < (V 14 0 3)) then some (xi (-1), V) else some (xi (V 83 0 ((64 * b + a).toNat)), V) := by
  rw [s_X12_given]
  by_cases i1 : ¬ (0 ≤ a ∧ a < (V 14 0 9)) ∨ ¬ (0 ≤ b ∧ b < (V 14 0 3))
  · (repeat' (first | rfl | rw [ci_r] | rw [cl_r] | rw [cv_r] | rw [ite_b2] | rw [ite_b21] | rw [if_pos (by omega)] | rw [if_neg (by omega)] | rw [y_kindsHas] | rw [y_isKind _ _ _ (by omega)] | rw [y_valHas] | rw [y_isProp _ _ _ (by omega)] | rw [y_thgHas] | rw [y_isThing _ _ _ (by omega)] | rw [y_inRange] | rw [y_in] | rw [s_X11_faulted] | rw [s_X12_faulty] | rw [s_X11_against] | rw [s_X12_against] | simp (disch := omega) only [w32_i, Int.add_sub_cancel, mc64, mc24, mc6, mc8, mc5] | fail | split))
  rw [if_neg i1]
  (repeat (first | rw [ci_r] | rw [cl_r] | rw [cv_r] | rw [ite_b2] | rw [ite_b21] | rw [if_pos (by omega)] | rw [if_neg (by omega)] | rw [y_kindsHas] | rw [y_isKind _ _ _ (by omega)] | rw [y_valHas] | rw [y_isProp _ _ _ (by omega)] | rw [y_thgHas] | rw [y_isThing _ _ _ (by omega)] | rw [y_inRange] | rw [y_in] | rw [s_X11_faulted] | rw [s_X12_faulty] | rw [s_X11_against] | rw [s_X12_against] | simp (disch := omega) only [w32_i, Int.add_sub_cancel, mc64, mc24, mc6, mc8, mc5] | fail))
theorem g_given (d : Nat) (V : XM) (h : Inv V) (a b : Int) : AG d 133 226 [xi a, xi b] V := by
  have h' := h
  obtain ⟨⟨ck1, ck2, ck3, cp1, cp2, cp3, ct1, ct2, ct3, cs1, cs2, cs3, cq1, cq2, cq3, cr1, cr2, cr3, cf1, cf2, cf3, cb1, cb2, cb3, cw1, cw2, cw3, clf, clc⟩, hkin, hpro, husu, hgiv, hthg, hhom, hput, hrin, hsen, hbar, hset, hmos, hpai, hrel, hmap, hdoo, hshe, htab, hwor⟩ := h'
  have hC := c_given d V h a b
  by_cases i1 : ¬ (0 ≤ a ∧ a < (V 14 0 9)) ∨ ¬ (0 ≤ b ∧ b < (V 14 0 3))
  · exact AG.no h (hC.trans (if_pos i1)) ((r_given d _ a b (by exact ct1) (by exact ct2) (by exact cp1) (by exact cp2)).trans (if_pos (by exact i1)))
  rw [if_neg i1] at hC
  exact AG.no h hC ((r_given d _ a b (by exact ct1) (by exact ct2) (by exact cp1) (by exact cp2)).trans (if_neg (by exact i1)))

theorem c_peek (d : Nat) (V : XM) (h : Inv V) (a b c : Int) : Yf (d + 30) 134 [xr 2 0, xi a, xi b, xi c] V = if ¬ (0 ≤ a ∧ a < (V 14 0 3)) then some (xl (-1), V) else if ¬ (0 ≤ b ∧ b ≤ 8) then some (xl (-2), V) else if ¬ (b = (V 69 0 (a.toNat))) then some (xl (-13), xu V 2 0 15 3) else if ¬ (0 ≤ c ∧ c < 64) then some (xl (-12), xu V 2 0 15 2) else some (xl (if (V 83 0 ((64 * a + c).toNat)) = -9 then (if b = 8 then -9 else 0) else (V 84 0 ((64 * a + c).toNat))), V) := by
  obtain ⟨⟨ck1, ck2, ck3, cp1, cp2, cp3, ct1, ct2, ct3, cs1, cs2, cs3, cq1, cq2, cq3, cr1, cr2, cr3, cf1, cf2, cf3, cb1, cb2, cb3, cw1, cw2, cw3, clf, clc⟩, hkin, hpro, husu, hgiv, hthg, hhom, hput, hrin, hsen, hbar, hset, hmos, hpai, hrel, hmap, hdoo, hshe, htab, hwor⟩ := h
  rw [s_X11_peek]
  by_cases i1 : ¬ (0 ≤ a ∧ a < (V 14 0 3))
  · (repeat' (first | rfl | rw [ci_r] | rw [cl_r] | rw [cv_r] | rw [ite_b2] | rw [ite_b21] | rw [if_pos (by omega)] | rw [if_neg (by omega)] | rw [y_kindsHas] | rw [y_isKind _ _ _ (by omega)] | rw [y_valHas] | rw [y_isProp _ _ _ (by omega)] | rw [y_thgHas] | rw [y_isThing _ _ _ (by omega)] | rw [y_inRange] | rw [y_in] | rw [s_X11_faulted] | rw [s_X12_faulty] | rw [s_X11_against] | rw [s_X12_against] | simp (disch := omega) only [w32_i, Int.add_sub_cancel, mc64, mc24, mc6, mc8, mc5] | fail | split))
  rw [if_neg i1]
  obtain ⟨p1, p2, p3, p4, _⟩ := hpro a (by omega) (by omega)
  by_cases i2 : ¬ (0 ≤ c ∧ c < 64)
  · (repeat' (first | rfl | rw [ci_r] | rw [cl_r] | rw [cv_r] | rw [ite_b2] | rw [ite_b21] | rw [if_pos (by omega)] | rw [if_neg (by omega)] | rw [y_kindsHas] | rw [y_isKind _ _ _ (by omega)] | rw [y_valHas] | rw [y_isProp _ _ _ (by omega)] | rw [y_thgHas] | rw [y_isThing _ _ _ (by omega)] | rw [y_inRange] | rw [y_in] | rw [s_X11_faulted] | rw [s_X12_faulty] | rw [s_X11_against] | rw [s_X12_against] | simp (disch := omega) only [w32_i, Int.add_sub_cancel, mc64, mc24, mc6, mc8, mc5] | rw [p4] | split))
  obtain ⟨g1, g2, g3, g4⟩ := hgiv a c (by omega) (by omega) (by omega) (by omega)
  (repeat' (first | rfl | rw [ci_r] | rw [cl_r] | rw [cv_r] | rw [ite_b2] | rw [ite_b21] | rw [if_pos (by omega)] | rw [if_neg (by omega)] | rw [y_kindsHas] | rw [y_isKind _ _ _ (by omega)] | rw [y_valHas] | rw [y_isProp _ _ _ (by omega)] | rw [y_thgHas] | rw [y_isThing _ _ _ (by omega)] | rw [y_inRange] | rw [y_in] | rw [s_X11_faulted] | rw [s_X12_faulty] | rw [s_X11_against] | rw [s_X12_against] | simp (disch := omega) only [w32_i, Int.add_sub_cancel, mc64, mc24, mc6, mc8, mc5] | rw [p4] | rw [y_givenCell _ V (by omega) (by omega) (by omega) (by omega)] | split))
  · rename_i k1 k2 k3 k4
    rw [g3 k3, if_pos (by omega)]
  · rename_i k1 k2 k3 k4
    rw [g3 k3, if_neg (by omega)]
  · rename_i k1 k2 k3
    rw [(g4 k3).1]
theorem r_peek (d : Nat) (V : XM) (a b c : Int) (p1 : 0 ≤ (V 14 0 3)) (p2 : (V 14 0 3) ≤ 12) : Yf (d + 30) 227 [xr 14 0, xi a, xi b, xi c] V = if ¬ (0 ≤ a ∧ a < (V 14 0 3)) then some (xl (-1), V) else if ¬ (0 ≤ b ∧ b ≤ 8) then some (xl (-2), V) else if ¬ (b = (V 69 0 (a.toNat))) then some (xl (-13), xu V 14 0 0 3) else if ¬ (0 ≤ c ∧ c < 64) then some (xl (-12), xu V 14 0 0 2) else some (xl (if (V 83 0 ((64 * a + c).toNat)) = -9 then (if b = 8 then -9 else 0) else (V 84 0 ((64 * a + c).toNat))), V) := by
  rw [s_X12_peek]
  (repeat' (first | rfl | rw [ci_r] | rw [cl_r] | rw [cv_r] | rw [ite_b2] | rw [ite_b21] | rw [if_pos (by omega)] | rw [if_neg (by omega)] | rw [y_kindsHas] | rw [y_isKind _ _ _ (by omega)] | rw [y_valHas] | rw [y_isProp _ _ _ (by omega)] | rw [y_thgHas] | rw [y_isThing _ _ _ (by omega)] | rw [y_inRange] | rw [y_in] | rw [s_X11_faulted] | rw [s_X12_faulty] | rw [s_X11_against] | rw [s_X12_against] | simp (disch := omega) only [w32_i, Int.add_sub_cancel, mc64, mc24, mc6, mc8, mc5] | fail | split))
theorem g_peek (d : Nat) (V : XM) (h : Inv V) (a b c : Int) : AG d 134 227 [xi a, xi b, xi c] V := by
  have h' := h
  obtain ⟨⟨ck1, ck2, ck3, cp1, cp2, cp3, ct1, ct2, ct3, cs1, cs2, cs3, cq1, cq2, cq3, cr1, cr2, cr3, cf1, cf2, cf3, cb1, cb2, cb3, cw1, cw2, cw3, clf, clc⟩, hkin, hpro, husu, hgiv, hthg, hhom, hput, hrin, hsen, hbar, hset, hmos, hpai, hrel, hmap, hdoo, hshe, htab, hwor⟩ := h'
  have hC := c_peek d V h a b c
  by_cases i1 : ¬ (0 ≤ a ∧ a < (V 14 0 3))
  · exact AG.no h (hC.trans (if_pos i1)) ((r_peek d _ a b c (by exact cp1) (by exact cp2)).trans (if_pos (by exact i1)))
  rw [if_neg i1] at hC
  by_cases i2 : ¬ (0 ≤ b ∧ b ≤ 8)
  · exact AG.no h (hC.trans (if_pos i2)) ((r_peek d _ a b c (by exact cp1) (by exact cp2)).trans ((if_neg (by exact i1)).trans (if_pos (by exact i2))))
  rw [if_neg i2] at hC
  by_cases i3 : ¬ (b = (V 69 0 (a.toNat)))
  · exact AG.flt h (hC.trans (if_pos i3)) ((r_peek d _ a b c (by exact cp1) (by exact cp2)).trans ((if_neg (by exact i1)).trans ((if_neg (by exact i2)).trans (if_pos (by exact i3)))))
  rw [if_neg i3] at hC
  by_cases i4 : ¬ (0 ≤ c ∧ c < 64)
  · exact AG.flt h (hC.trans (if_pos i4)) ((r_peek d _ a b c (by exact cp1) (by exact cp2)).trans ((if_neg (by exact i1)).trans ((if_neg (by exact i2)).trans ((if_neg (by exact i3)).trans (if_pos (by exact i4))))))
  rw [if_neg i4] at hC
  exact AG.no h hC ((r_peek d _ a b c (by exact cp1) (by exact cp2)).trans ((if_neg (by exact i1)).trans ((if_neg (by exact i2)).trans ((if_neg (by exact i3)).trans (if_neg (by exact i4))))))

theorem y_homeAt (d : Nat) (V : XM) {t : Int} (k : Int) (h0 : 0 ≤ t) (h1 : t < 64) (h6 : (V 38 0 (t.toNat)) ≤ 6) : Yf (d + 2) 8 [xr 7 0, xi t, xi k] V = some (xi (if 0 ≤ k ∧ k < (V 38 0 (t.toNat)) then (V 37 0 ((6 * t + k).toNat)) else -9), V) := by
  rw [s_X1_homeAt]
  (repeat' (first | rfl | rw [ci_r] | rw [cl_r] | rw [cv_r] | rw [ite_b2] | rw [ite_b21] | rw [if_pos (by omega)] | rw [if_neg (by omega)] | rw [y_kindsHas] | rw [y_isKind _ _ _ (by omega)] | rw [y_valHas] | rw [y_isProp _ _ _ (by omega)] | rw [y_thgHas] | rw [y_isThing _ _ _ (by omega)] | rw [y_inRange] | rw [y_in] | rw [s_X11_faulted] | rw [s_X12_faulty] | rw [s_X11_against] | rw [s_X12_against] | simp (disch := omega) only [w32_i, Int.add_sub_cancel, mc64, mc24, mc6, mc8, mc5] | fail | split))
theorem y_placeOf (d : Nat) (V : XM) {t : Int} (h0 : 0 ≤ t) (h1 : t < 64) : Yf (d + 1) 215 [xr 14 0, xi t] V = some (xi (if (V 80 0 (t.toNat)) = 0 then -9 else (V 78 0 ((6 * t).toNat))), V) := by
  rw [s_X12_placeOf]
  (repeat' (first | rfl | rw [ci_r] | rw [cl_r] | rw [cv_r] | rw [ite_b2] | rw [ite_b21] | rw [if_pos (by omega)] | rw [if_neg (by omega)] | rw [y_kindsHas] | rw [y_isKind _ _ _ (by omega)] | rw [y_valHas] | rw [y_isProp _ _ _ (by omega)] | rw [y_thgHas] | rw [y_isThing _ _ _ (by omega)] | rw [y_inRange] | rw [y_in] | rw [s_X11_faulted] | rw [s_X12_faulty] | rw [s_X11_against] | rw [s_X12_against] | simp (disch := omega) only [w32_i, Int.add_sub_cancel, mc64, mc24, mc6, mc8, mc5] | fail | split))
theorem c_place (d : Nat) (V : XM) (h : Inv V) (a b : Int) : Yf (d + 30) 135 [xr 2 0, xi a, xi b] V = if ¬ (0 ≤ a ∧ a < (V 14 0 9)) then some (xi (-1), V) else some (xi (if 0 ≤ b ∧ b < (V 80 0 (a.toNat)) then (V 78 0 ((6 * a + b).toNat)) else -9), V) := by
  obtain ⟨⟨ck1, ck2, ck3, cp1, cp2, cp3, ct1, ct2, ct3, cs1, cs2, cs3, cq1, cq2, cq3, cr1, cr2, cr3, cf1, cf2, cf3, cb1, cb2, cb3, cw1, cw2, cw3, clf, clc⟩, hkin, hpro, husu, hgiv, hthg, hhom, hput, hrin, hsen, hbar, hset, hmos, hpai, hrel, hmap, hdoo, hshe, htab, hwor⟩ := h
  rw [s_X11_place]
  by_cases i1 : ¬ (0 ≤ a ∧ a < (V 14 0 9))
  · (repeat' (first | rfl | rw [ci_r] | rw [cl_r] | rw [cv_r] | rw [ite_b2] | rw [ite_b21] | rw [if_pos (by omega)] | rw [if_neg (by omega)] | rw [y_kindsHas] | rw [y_isKind _ _ _ (by omega)] | rw [y_valHas] | rw [y_isProp _ _ _ (by omega)] | rw [y_thgHas] | rw [y_isThing _ _ _ (by omega)] | rw [y_inRange] | rw [y_in] | rw [s_X11_faulted] | rw [s_X12_faulty] | rw [s_X11_against] | rw [s_X12_against] | simp (disch := omega) only [w32_i, Int.add_sub_cancel, mc64, mc24, mc6, mc8, mc5] | fail | split))
  obtain ⟨o1, o2, o3, o4, o5, o6⟩ := hhom a (by omega) (by omega)
  (repeat' (first | rfl | rw [ci_r] | rw [cl_r] | rw [cv_r] | rw [ite_b2] | rw [ite_b21] | rw [if_pos (by omega)] | rw [if_neg (by omega)] | rw [y_kindsHas] | rw [y_isKind _ _ _ (by omega)] | rw [y_valHas] | rw [y_isProp _ _ _ (by omega)] | rw [y_thgHas] | rw [y_isThing _ _ _ (by omega)] | rw [y_inRange] | rw [y_in] | rw [s_X11_faulted] | rw [s_X12_faulty] | rw [s_X11_against] | rw [s_X12_against] | simp (disch := omega) only [w32_i, Int.add_sub_cancel, mc64, mc24, mc6, mc8, mc5] | rw [y_homeAt _ V _ (by omega) (by omega) (by omega)] | rw [o1] | split))
  rename_i k1
  rw [(o6 b k1.1 k1.2).1]
theorem r_place (d : Nat) (V : XM) (a b : Int) (h1 : 0 ≤ (V 14 0 9)) (h2 : (V 14 0 9) ≤ 64) (h3 : 0 ≤ a → a < (V 14 0 9) → 0 ≤ (V 80 0 (a.toNat)) ∧ (V 80 0 (a.toNat)) ≤ 6) : Yf (d + 30) 228 [xr 14 0, xi a, xi b] V = if ¬ (0 ≤ a ∧ a < (V 14 0 9)) then some (xi (-1), V) else some (xi (if 0 ≤ b ∧ b < (V 80 0 (a.toNat)) then (V 78 0 ((6 * a + b).toNat)) else -9), V) := by
  rw [s_X12_place]
  by_cases i1 : ¬ (0 ≤ a ∧ a < (V 14 0 9))
  · (repeat' (first | rfl | rw [ci_r] | rw [cl_r] | rw [cv_r] | rw [ite_b2] | rw [ite_b21] | rw [if_pos (by omega)] | rw [if_neg (by omega)] | rw [y_kindsHas] | rw [y_isKind _ _ _ (by omega)] | rw [y_valHas] | rw [y_isProp _ _ _ (by omega)] | rw [y_thgHas] | rw [y_isThing _ _ _ (by omega)] | rw [y_inRange] | rw [y_in] | rw [s_X11_faulted] | rw [s_X12_faulty] | rw [s_X11_against] | rw [s_X12_against] | simp (disch := omega) only [w32_i, Int.add_sub_cancel, mc64, mc24, mc6, mc8, mc5] | fail | split))
  have := h3 (by omega) (by omega)
  (repeat' (first | rfl | rw [ci_r] | rw [cl_r] | rw [cv_r] | rw [ite_b2] | rw [ite_b21] | rw [if_pos (by omega)] | rw [if_neg (by omega)] | rw [y_kindsHas] | rw [y_isKind _ _ _ (by omega)] | rw [y_valHas] | rw [y_isProp _ _ _ (by omega)] | rw [y_thgHas] | rw [y_isThing _ _ _ (by omega)] | rw [y_inRange] | rw [y_in] | rw [s_X11_faulted] | rw [s_X12_faulty] | rw [s_X11_against] | rw [s_X12_against] | simp (disch := omega) only [w32_i, Int.add_sub_cancel, mc64, mc24, mc6, mc8, mc5] | fail | split))
theorem g_place (d : Nat) (V : XM) (h : Inv V) (a b : Int) : AG d 135 228 [xi a, xi b] V := by
  have h' := h
  obtain ⟨⟨ck1, ck2, ck3, cp1, cp2, cp3, ct1, ct2, ct3, cs1, cs2, cs3, cq1, cq2, cq3, cr1, cr2, cr3, cf1, cf2, cf3, cb1, cb2, cb3, cw1, cw2, cw3, clf, clc⟩, hkin, hpro, husu, hgiv, hthg, hhom, hput, hrin, hsen, hbar, hset, hmos, hpai, hrel, hmap, hdoo, hshe, htab, hwor⟩ := h'
  have hC := c_place d V h a b
  by_cases i1 : ¬ (0 ≤ a ∧ a < (V 14 0 9))
  · exact AG.no h (hC.trans (if_pos i1)) ((r_place d _ a b (by exact ct1) (by exact ct2) (by exact (fun k1 k2 => ⟨(hhom a k1 k2).2.1, (hhom a k1 k2).2.2.1⟩))).trans (if_pos (by exact i1)))
  rw [if_neg i1] at hC
  exact AG.no h hC ((r_place d _ a b (by exact ct1) (by exact ct2) (by exact (fun k1 k2 => ⟨(hhom a k1 k2).2.1, (hhom a k1 k2).2.2.1⟩))).trans (if_neg (by exact i1)))

theorem c_set (d : Nat) (V : XM) (h : Inv V) (a : Int) : Yf (d + 30) 147 [xr 2 0, xi a] V = if ¬ (0 ≤ a ∧ a < (V 14 0 9)) then some (xl 0, V) else some (xl (V 81 0 (a.toNat)), V) := by
  obtain ⟨⟨ck1, ck2, ck3, cp1, cp2, cp3, ct1, ct2, ct3, cs1, cs2, cs3, cq1, cq2, cq3, cr1, cr2, cr3, cf1, cf2, cf3, cb1, cb2, cb3, cw1, cw2, cw3, clf, clc⟩, hkin, hpro, husu, hgiv, hthg, hhom, hput, hrin, hsen, hbar, hset, hmos, hpai, hrel, hmap, hdoo, hshe, htab, hwor⟩ := h
  rw [s_X11_set]
  by_cases i1 : ¬ (0 ≤ a ∧ a < (V 14 0 9))
  · (repeat' (first | rfl | rw [ci_r] | rw [cl_r] | rw [cv_r] | rw [ite_b2] | rw [ite_b21] | rw [if_pos (by omega)] | rw [if_neg (by omega)] | rw [y_kindsHas] | rw [y_isKind _ _ _ (by omega)] | rw [y_valHas] | rw [y_isProp _ _ _ (by omega)] | rw [y_thgHas] | rw [y_isThing _ _ _ (by omega)] | rw [y_inRange] | rw [y_in] | rw [s_X11_faulted] | rw [s_X12_faulty] | rw [s_X11_against] | rw [s_X12_against] | simp (disch := omega) only [w32_i, Int.add_sub_cancel, mc64, mc24, mc6, mc8, mc5] | fail | split))
  obtain ⟨o1, _⟩ := hset a (by omega) (by omega)
  (repeat' (first | rfl | rw [ci_r] | rw [cl_r] | rw [cv_r] | rw [ite_b2] | rw [ite_b21] | rw [if_pos (by omega)] | rw [if_neg (by omega)] | rw [y_kindsHas] | rw [y_isKind _ _ _ (by omega)] | rw [y_valHas] | rw [y_isProp _ _ _ (by omega)] | rw [y_thgHas] | rw [y_isThing _ _ _ (by omega)] | rw [y_inRange] | rw [y_in] | rw [s_X11_faulted] | rw [s_X12_faulty] | rw [s_X11_against] | rw [s_X12_against] | simp (disch := omega) only [w32_i, Int.add_sub_cancel, mc64, mc24, mc6, mc8, mc5] | rw [s_X1_setOf, if_pos (by omega), o1] | split))
theorem r_set (d : Nat) (V : XM) (a : Int) (h1 : 0 ≤ (V 14 0 9)) (h2 : (V 14 0 9) ≤ 64) : Yf (d + 30) 250 [xr 14 0, xi a] V = if ¬ (0 ≤ a ∧ a < (V 14 0 9)) then some (xl 0, V) else some (xl (V 81 0 (a.toNat)), V) := by
  rw [s_X12_set]
  (repeat' (first | rfl | rw [ci_r] | rw [cl_r] | rw [cv_r] | rw [ite_b2] | rw [ite_b21] | rw [if_pos (by omega)] | rw [if_neg (by omega)] | rw [y_kindsHas] | rw [y_isKind _ _ _ (by omega)] | rw [y_valHas] | rw [y_isProp _ _ _ (by omega)] | rw [y_thgHas] | rw [y_isThing _ _ _ (by omega)] | rw [y_inRange] | rw [y_in] | rw [s_X11_faulted] | rw [s_X12_faulty] | rw [s_X11_against] | rw [s_X12_against] | simp (disch := omega) only [w32_i, Int.add_sub_cancel, mc64, mc24, mc6, mc8, mc5] | fail | split))
theorem g_set (d : Nat) (V : XM) (h : Inv V) (a : Int) : AG d 147 250 [xi a] V := by
  have h' := h
  obtain ⟨⟨ck1, ck2, ck3, cp1, cp2, cp3, ct1, ct2, ct3, cs1, cs2, cs3, cq1, cq2, cq3, cr1, cr2, cr3, cf1, cf2, cf3, cb1, cb2, cb3, cw1, cw2, cw3, clf, clc⟩, hkin, hpro, husu, hgiv, hthg, hhom, hput, hrin, hsen, hbar, hset, hmos, hpai, hrel, hmap, hdoo, hshe, htab, hwor⟩ := h'
  have hC := c_set d V h a
  by_cases i1 : ¬ (0 ≤ a ∧ a < (V 14 0 9))
  · exact AG.no h (hC.trans (if_pos i1)) ((r_set d _ a (by exact ct1) (by exact ct2)).trans (if_pos (by exact i1)))
  rw [if_neg i1] at hC
  exact AG.no h hC ((r_set d _ a (by exact ct1) (by exact ct2)).trans (if_neg (by exact i1)))

theorem c_mark (d : Nat) (V : XM) (h : Inv V) (a b : Int) : Yf (d + 30) 140 [xr 2 0, xi a, xi b] V = if ¬ (0 ≤ a ∧ a < (V 14 0 9)) then some (xi (-1), V) else if ¬ (b = 0 ∨ b = 1) then some (xi (-2), V) else if b = 1 ∧ ¬ ((V 21 0 (a.toNat)) = 2 ∨ (V 21 0 (a.toNat)) = 4 ∨ (V 21 0 (a.toNat)) = 5) then some (xi (-13), xu V 2 0 15 3) else some (xi (if b = 0 then (V 75 0 (a.toNat)) else (V 76 0 (a.toNat))), V) := by
  obtain ⟨⟨ck1, ck2, ck3, cp1, cp2, cp3, ct1, ct2, ct3, cs1, cs2, cs3, cq1, cq2, cq3, cr1, cr2, cr3, cf1, cf2, cf3, cb1, cb2, cb3, cw1, cw2, cw3, clf, clc⟩, hkin, hpro, husu, hgiv, hthg, hhom, hput, hrin, hsen, hbar, hset, hmos, hpai, hrel, hmap, hdoo, hshe, htab, hwor⟩ := h
  rw [s_X11_mark]
  by_cases i1 : ¬ (0 ≤ a ∧ a < (V 14 0 9))
  · (repeat' (first | rfl | rw [ci_r] | rw [cl_r] | rw [cv_r] | rw [ite_b2] | rw [ite_b21] | rw [if_pos (by omega)] | rw [if_neg (by omega)] | rw [y_kindsHas] | rw [y_isKind _ _ _ (by omega)] | rw [y_valHas] | rw [y_isProp _ _ _ (by omega)] | rw [y_thgHas] | rw [y_isThing _ _ _ (by omega)] | rw [y_inRange] | rw [y_in] | rw [s_X11_faulted] | rw [s_X12_faulty] | rw [s_X11_against] | rw [s_X12_against] | simp (disch := omega) only [w32_i, Int.add_sub_cancel, mc64, mc24, mc6, mc8, mc5] | fail | split))
  obtain ⟨t1, t2, t3, t4, t5, t6, t7, t8, t9, t10, t11, _⟩ := hthg a (by omega) (by omega)
  (repeat' (first | rfl | rw [ci_r] | rw [cl_r] | rw [cv_r] | rw [ite_b2] | rw [ite_b21] | rw [if_pos (by omega)] | rw [if_neg (by omega)] | rw [y_kindsHas] | rw [y_isKind _ _ _ (by omega)] | rw [y_valHas] | rw [y_isProp _ _ _ (by omega)] | rw [y_thgHas] | rw [y_isThing _ _ _ (by omega)] | rw [y_inRange] | rw [y_in] | rw [s_X11_faulted] | rw [s_X12_faulty] | rw [s_X11_against] | rw [s_X12_against] | simp (disch := omega) only [w32_i, Int.add_sub_cancel, mc64, mc24, mc6, mc8, mc5] | rw [y_cLid _ V (by omega) (by omega)] | rw [t10] | rw [t11] | split))
theorem r_mark (d : Nat) (V : XM) (a b : Int) {B : Nat → Int} (hb : RB V B) : Yf (d + 30) 237 [xr 14 0, xi a, xi b] V = if ¬ (0 ≤ a ∧ a < (V 14 0 9)) then some (xi (-1), V) else if ¬ (b = 0 ∨ b = 1) then some (xi (-2), V) else if b = 1 ∧ ¬ (B a.toNat = 2 ∨ B a.toNat = 4 ∨ B a.toNat = 5) then some (xi (-13), xu V 14 0 0 3) else some (xi (if b = 0 then (V 75 0 (a.toNat)) else (V 76 0 (a.toNat))), V) := by
  obtain ⟨h1, h2⟩ : 0 ≤ (V 14 0 9) ∧ (V 14 0 9) ≤ 64 := ⟨hb.2.1, hb.2.2.1⟩
  rw [s_X12_mark]
  (repeat' (first | rfl | rw [ci_r] | rw [cl_r] | rw [cv_r] | rw [ite_b2] | rw [ite_b21] | rw [if_pos (by omega)] | rw [if_neg (by omega)] | rw [y_kindsHas] | rw [y_isKind _ _ _ (by omega)] | rw [y_valHas] | rw [y_isProp _ _ _ (by omega)] | rw [y_thgHas] | rw [y_isThing _ _ _ (by omega)] | rw [y_inRange] | rw [y_in] | rw [s_X11_faulted] | rw [s_X12_faulty] | rw [s_X11_against] | rw [s_X12_against] | simp (disch := omega) only [w32_i, Int.add_sub_cancel, mc64, mc24, mc6, mc8, mc5] | rw [y_rOwn _ V hb (by omega) (by omega)] | split))
theorem g_mark (d : Nat) (V : XM) (h : Inv V) (a b : Int) : AG d 140 237 [xi a, xi b] V := by
  have h' := h
  obtain ⟨⟨ck1, ck2, ck3, cp1, cp2, cp3, ct1, ct2, ct3, cs1, cs2, cs3, cq1, cq2, cq3, cr1, cr2, cr3, cf1, cf2, cf3, cb1, cb2, cb3, cw1, cw2, cw3, clf, clc⟩, hkin, hpro, husu, hgiv, hthg, hhom, hput, hrin, hsen, hbar, hset, hmos, hpai, hrel, hmap, hdoo, hshe, htab, hwor⟩ := h'
  have hC := c_mark d V h a b
  by_cases i1 : ¬ (0 ≤ a ∧ a < (V 14 0 9))
  · exact AG.no h (hC.trans (if_pos i1)) ((r_mark d _ a b (by exact h.rb)).trans (if_pos (by exact i1)))
  rw [if_neg i1] at hC
  by_cases i2 : ¬ (b = 0 ∨ b = 1)
  · exact AG.no h (hC.trans (if_pos i2)) ((r_mark d _ a b (by exact h.rb)).trans ((if_neg (by exact i1)).trans (if_pos (by exact i2))))
  rw [if_neg i2] at hC
  by_cases i3 : b = 1 ∧ ¬ ((V 21 0 (a.toNat)) = 2 ∨ (V 21 0 (a.toNat)) = 4 ∨ (V 21 0 (a.toNat)) = 5)
  · exact AG.flt h (hC.trans (if_pos i3)) ((r_mark d _ a b (by exact h.rb)).trans ((if_neg (by exact i1)).trans ((if_neg (by exact i2)).trans (if_pos (by exact i3)))))
  rw [if_neg i3] at hC
  exact AG.no h hC ((r_mark d _ a b (by exact h.rb)).trans ((if_neg (by exact i1)).trans ((if_neg (by exact i2)).trans (if_neg (by exact i3)))))

