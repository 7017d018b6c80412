/-! more calls that read, marks and lids -/
theorem g_fault (d : Nat) (V : XM) (h : Inv V) : AG d 184 306 [] V := by
  have h' := h
  obtain ⟨⟨ck1, ck2, ck3, cp1, cp2, cp3, ct1, ct2, ct3, cs1, cs2, cs3, cq1, cq2, cq3, cr1, cr2, cr3, cf1, cf2, cf3, cb1, cb2, cb3, cw1, cw2, cw3, clf, clc⟩, hkin, hpro, husu, hgiv, hthg, hhom, hput, hrin, hsen, hbar, hset, hmos, hpai, hrel, hmap, hdoo, hshe, htab, hwor⟩ := h'
  exact AG.no h (s_X11_fault _ _) (by rw [clf]; exact s_X12_fault _ _)
theorem g_came (d : Nat) (V : XM) (h : Inv V) : AG d 166 284 [] V := by
  have h' := h
  obtain ⟨⟨ck1, ck2, ck3, cp1, cp2, cp3, ct1, ct2, ct3, cs1, cs2, cs3, cq1, cq2, cq3, cr1, cr2, cr3, cf1, cf2, cf3, cb1, cb2, cb3, cw1, cw2, cw3, clf, clc⟩, hkin, hpro, husu, hgiv, hthg, hhom, hput, hrin, hsen, hbar, hset, hmos, hpai, hrel, hmap, hdoo, hshe, htab, hwor⟩ := h'
  exact AG.no h (s_X11_came _ _) (by rw [clc]; exact s_X12_came _ _)
theorem c_word (d : Nat) (V : XM) (h : Inv V) (a : Int) : Yf (d + 30) 180 [xr 2 0, xi a] V = if ¬ (0 ≤ a ∧ a < (V 14 0 56)) then some (xi (-9), V) else some (xi (V 113 0 (a.toNat)), V) := by
  have h' := h
  obtain ⟨⟨ck1, ck2, ck3, cp1, cp2, cp3, ct1, ct2, ct3, cs1, cs2, cs3, cq1, cq2, cq3, cr1, cr2, cr3, cf1, cf2, cf3, cb1, cb2, cb3, cw1, cw2, cw3, clf, clc⟩, hkin, hpro, husu, hgiv, hthg, hhom, hput, hrin, hsen, hbar, hset, hmos, hpai, hrel, hmap, hdoo, hshe, htab, hwor⟩ := h'
  rw [s_X11_word]
  (repeat' (first | rfl | rw [ci_r] | rw [cl_r] | rw [cv_r] | rw [ite_b2] | rw [ite_b21] | rw [if_pos (by omega)] | rw [if_neg (by omega)] | rw [y_kindsHas] | rw [y_isKind _ _ _ (by omega)] | rw [y_valHas] | rw [y_isProp _ _ _ (by omega)] | rw [y_thgHas] | rw [y_isThing _ _ _ (by omega)] | rw [y_inRange] | rw [y_in] | rw [s_X11_faulted] | rw [s_X12_faulty] | rw [s_X11_against] | rw [s_X12_against] | simp (disch := omega) only [w32_i, Int.add_sub_cancel, mc64, mc24, mc6, mc8, mc5] | fail | split))
  rw [hwor a (by omega) (by omega)]
theorem r_word (d : Nat) (V : XM) (a : Int) (w1 : 0 ≤ (V 14 0 56)) (w2 : (V 14 0 56) ≤ 1490) : Yf (d + 30) 302 [xr 14 0, xi a] V = if ¬ (0 ≤ a ∧ a < (V 14 0 56)) then some (xi (-9), V) else some (xi (V 113 0 (a.toNat)), V) := by
  rw [s_X12_word]
  (repeat' (first | rfl | rw [ci_r] | rw [cl_r] | rw [cv_r] | rw [ite_b2] | rw [ite_b21] | rw [if_pos (by omega)] | rw [if_neg (by omega)] | rw [y_kindsHas] | rw [y_isKind _ _ _ (by omega)] | rw [y_valHas] | rw [y_isProp _ _ _ (by omega)] | rw [y_thgHas] | rw [y_isThing _ _ _ (by omega)] | rw [y_inRange] | rw [y_in] | rw [s_X11_faulted] | rw [s_X12_faulty] | rw [s_X11_against] | rw [s_X12_against] | simp (disch := omega) only [w32_i, Int.add_sub_cancel, mc64, mc24, mc6, mc8, mc5] | fail | split))
theorem g_word (d : Nat) (V : XM) (h : Inv V) (a : Int) : AG d 180 302 [xi a] V := by
  have h' := h
  obtain ⟨⟨ck1, ck2, ck3, cp1, cp2, cp3, ct1, ct2, ct3, cs1, cs2, cs3, cq1, cq2, cq3, cr1, cr2, cr3, cf1, cf2, cf3, cb1, cb2, cb3, cw1, cw2, cw3, clf, clc⟩, hkin, hpro, husu, hgiv, hthg, hhom, hput, hrin, hsen, hbar, hset, hmos, hpai, hrel, hmap, hdoo, hshe, htab, hwor⟩ := h'
  have hC := c_word d V h a
  by_cases i1 : ¬ (0 ≤ a ∧ a < (V 14 0 56))
  · exact AG.no h (hC.trans (if_pos i1)) ((r_word d _ a (by exact cw1) (by exact cw2)).trans (if_pos (by exact i1)))
  rw [if_neg i1] at hC
  exact AG.no h hC ((r_word d _ a (by exact cw1) (by exact cw2)).trans (if_neg (by exact i1)))

theorem c_sentence (d : Nat) (V : XM) (h : Inv V) (a b : Int) : Yf (d + 30) 182 [xr 2 0, xi a, xi b] V = if ¬ (0 ≤ a ∧ a < (V 14 0 22)) then some (xi (-1), V) else some (xi (if b = 0 then (V 85 0 (a.toNat)) else if b = 1 then (V 86 0 (a.toNat)) else if b = 2 then (V 87 0 (a.toNat)) else -2), V) := by
  have h' := h
  obtain ⟨⟨ck1, ck2, ck3, cp1, cp2, cp3, ct1, ct2, ct3, cs1, cs2, cs3, cq1, cq2, cq3, cr1, cr2, cr3, cf1, cf2, cf3, cb1, cb2, cb3, cw1, cw2, cw3, clf, clc⟩, hkin, hpro, husu, hgiv, hthg, hhom, hput, hrin, hsen, hbar, hset, hmos, hpai, hrel, hmap, hdoo, hshe, htab, hwor⟩ := h'
  rw [s_X11_sentence]
  by_cases i1 : ¬ (0 ≤ a ∧ a < (V 14 0 22))
  · (repeat' (first | rfl | rw [ci_r] | rw [cl_r] | rw [cv_r] | rw [ite_b2] | rw [ite_b21] | rw [if_pos (by omega)] | rw [if_neg (by omega)] | rw [y_kindsHas] | rw [y_isKind _ _ _ (by omega)] | rw [y_valHas] | rw [y_isProp _ _ _ (by omega)] | rw [y_thgHas] | rw [y_isThing _ _ _ (by omega)] | rw [y_inRange] | rw [y_in] | rw [s_X11_faulted] | rw [s_X12_faulty] | rw [s_X11_against] | rw [s_X12_against] | simp (disch := omega) only [w32_i, Int.add_sub_cancel, mc64, mc24, mc6, mc8, mc5] | fail | split))
  obtain ⟨s1, s2, s3, _⟩ := hsen a (by omega) (by omega)
  (repeat' (first | rfl | rw [ci_r] | rw [cl_r] | rw [cv_r] | rw [ite_b2] | rw [ite_b21] | rw [if_pos (by omega)] | rw [if_neg (by omega)] | rw [y_kindsHas] | rw [y_isKind _ _ _ (by omega)] | rw [y_valHas] | rw [y_isProp _ _ _ (by omega)] | rw [y_thgHas] | rw [y_isThing _ _ _ (by omega)] | rw [y_inRange] | rw [y_in] | rw [s_X11_faulted] | rw [s_X12_faulty] | rw [s_X11_against] | rw [s_X12_against] | simp (disch := omega) only [w32_i, Int.add_sub_cancel, mc64, mc24, mc6, mc8, mc5] | rw [s1] | rw [s2] | rw [s3] | split))
theorem r_sentence (d : Nat) (V : XM) (a b : Int) (w1 : 0 ≤ (V 14 0 22)) (w2 : (V 14 0 22) ≤ 300) : Yf (d + 30) 304 [xr 14 0, xi a, xi b] V = if ¬ (0 ≤ a ∧ a < (V 14 0 22)) then some (xi (-1), V) else some (xi (if b = 0 then (V 85 0 (a.toNat)) else if b = 1 then (V 86 0 (a.toNat)) else if b = 2 then (V 87 0 (a.toNat)) else -2), V) := by
  rw [s_X12_sentence]
  (repeat' (first | rfl | rw [ci_r] | rw [cl_r] | rw [cv_r] | rw [ite_b2] | rw [ite_b21] | rw [if_pos (by omega)] | rw [if_neg (by omega)] | rw [y_kindsHas] | rw [y_isKind _ _ _ (by omega)] | rw [y_valHas] | rw [y_isProp _ _ _ (by omega)] | rw [y_thgHas] | rw [y_isThing _ _ _ (by omega)] | rw [y_inRange] | rw [y_in] | rw [s_X11_faulted] | rw [s_X12_faulty] | rw [s_X11_against] | rw [s_X12_against] | simp (disch := omega) only [w32_i, Int.add_sub_cancel, mc64, mc24, mc6, mc8, mc5] | fail | split))
theorem g_sentence (d : Nat) (V : XM) (h : Inv V) (a b : Int) : AG d 182 304 [xi a, xi b] V := by
  have h' := h
  obtain ⟨⟨ck1, ck2, ck3, cp1, cp2, cp3, ct1, ct2, ct3, cs1, cs2, cs3, cq1, cq2, cq3, cr1, cr2, cr3, cf1, cf2, cf3, cb1, cb2, cb3, cw1, cw2, cw3, clf, clc⟩, hkin, hpro, husu, hgiv, hthg, hhom, hput, hrin, hsen, hbar, hset, hmos, hpai, hrel, hmap, hdoo, hshe, htab, hwor⟩ := h'
  have hC := c_sentence d V h a b
  by_cases i1 : ¬ (0 ≤ a ∧ a < (V 14 0 22))
  · exact AG.no h (hC.trans (if_pos i1)) ((r_sentence d _ a b (by exact cs1) (by exact cs2)).trans (if_pos (by exact i1)))
  rw [if_neg i1] at hC
  exact AG.no h hC ((r_sentence d _ a b (by exact cs1) (by exact cs2)).trans (if_neg (by exact i1)))

theorem c_sort (d : Nat) (V : XM) (h : Inv V) (a b : Int) : Yf (d + 30) 158 [xr 2 0, xi a, xi b] V = if ¬ (0 ≤ a ∧ a < (V 14 0 9) ∧ (V 21 0 (a.toNat)) = 1) then some (xi (-1), V) else if ¬ (0 ≤ b ∧ b < 8) then some (xi (-2), V) else some (xi (V 95 0 ((8 * a + b).toNat)), V) := by
  have h' := h
  obtain ⟨⟨ck1, ck2, ck3, cp1, cp2, cp3, ct1, ct2, ct3, cs1, cs2, cs3, cq1, cq2, cq3, cr1, cr2, cr3, cf1, cf2, cf3, cb1, cb2, cb3, cw1, cw2, cw3, clf, clc⟩, hkin, hpro, husu, hgiv, hthg, hhom, hput, hrin, hsen, hbar, hset, hmos, hpai, hrel, hmap, hdoo, hshe, htab, hwor⟩ := h'
  rw [s_X11_sort]
  have hm := fun k1 k2 => (hmap (8 * a + b) k1 k2).2
  (repeat' (first | rfl | rw [ci_r] | rw [cl_r] | rw [cv_r] | rw [ite_b2] | rw [ite_b21] | rw [if_pos (by omega)] | rw [if_neg (by omega)] | rw [y_kindsHas] | rw [y_isKind _ _ _ (by omega)] | rw [y_valHas] | rw [y_isProp _ _ _ (by omega)] | rw [y_thgHas] | rw [y_isThing _ _ _ (by omega)] | rw [y_inRange] | rw [y_in] | rw [s_X11_faulted] | rw [s_X12_faulty] | rw [s_X11_against] | rw [s_X12_against] | simp (disch := omega) only [w32_i, Int.add_sub_cancel, mc64, mc24, mc6, mc8, mc5] | rw [y_cRoom _ V _ (by omega)] | rw [s_X3_sortOf] | rw [(hm (by omega) (by omega) (by omega)).1] | split))
theorem r_sort (d : Nat) (V : XM) (a b : Int) {B : Nat → Int} (hb : RB V B) : Yf (d + 30) 273 [xr 14 0, xi a, xi b] V = if ¬ (0 ≤ a ∧ a < (V 14 0 9) ∧ (B (a.toNat)) = 1) then some (xi (-1), V) else if ¬ (0 ≤ b ∧ b < 8) then some (xi (-2), V) else some (xi (V 95 0 ((8 * a + b).toNat)), V) := by
  rw [s_X12_sort]
  obtain ⟨h1, h2⟩ : 0 ≤ (V 14 0 9) ∧ (V 14 0 9) ≤ 64 := ⟨hb.2.1, hb.2.2.1⟩
  (repeat' (first | rfl | rw [ci_r] | rw [cl_r] | rw [cv_r] | rw [ite_b2] | rw [ite_b21] | rw [if_pos (by omega)] | rw [if_neg (by omega)] | rw [y_kindsHas] | rw [y_isKind _ _ _ (by omega)] | rw [y_valHas] | rw [y_isProp _ _ _ (by omega)] | rw [y_thgHas] | rw [y_isThing _ _ _ (by omega)] | rw [y_inRange] | rw [y_in] | rw [s_X11_faulted] | rw [s_X12_faulty] | rw [s_X11_against] | rw [s_X12_against] | simp (disch := omega) only [w32_i, Int.add_sub_cancel, mc64, mc24, mc6, mc8, mc5] | rw [y_rRoom _ V hb] | split))
theorem g_sort (d : Nat) (V : XM) (h : Inv V) (a b : Int) : AG d 158 273 [xi a, xi b] V := by
  have h' := h
  obtain ⟨⟨ck1, ck2, ck3, cp1, cp2, cp3, ct1, ct2, ct3, cs1, cs2, cs3, cq1, cq2, cq3, cr1, cr2, cr3, cf1, cf2, cf3, cb1, cb2, cb3, cw1, cw2, cw3, clf, clc⟩, hkin, hpro, husu, hgiv, hthg, hhom, hput, hrin, hsen, hbar, hset, hmos, hpai, hrel, hmap, hdoo, hshe, htab, hwor⟩ := h'
  have hC := c_sort d V h a b
  by_cases i1 : ¬ (0 ≤ a ∧ a < (V 14 0 9) ∧ (V 21 0 (a.toNat)) = 1)
  · exact AG.no h (hC.trans (if_pos i1)) ((r_sort d _ a b (by exact h.rb)).trans (if_pos (by exact i1)))
  rw [if_neg i1] at hC
  by_cases i2 : ¬ (0 ≤ b ∧ b < 8)
  · exact AG.no h (hC.trans (if_pos i2)) ((r_sort d _ a b (by exact h.rb)).trans ((if_neg (by exact i1)).trans (if_pos (by exact i2))))
  rw [if_neg i2] at hC
  exact AG.no h hC ((r_sort d _ a b (by exact h.rb)).trans ((if_neg (by exact i1)).trans (if_neg (by exact i2))))

theorem c_leads (d : Nat) (V : XM) (h : Inv V) (a b : Int) : Yf (d + 30) 157 [xr 2 0, xi a, xi b] V = if ¬ (0 ≤ a ∧ a < (V 14 0 9) ∧ (V 21 0 (a.toNat)) = 1) then some (xi (-1), V) else if ¬ (0 ≤ b ∧ b < 8) then some (xi (-2), V) else some (xi (if (V 95 0 ((8 * a + b).toNat)) = 0 then -9 else (V 96 0 ((8 * a + b).toNat))), V) := by
  have h' := h
  obtain ⟨⟨ck1, ck2, ck3, cp1, cp2, cp3, ct1, ct2, ct3, cs1, cs2, cs3, cq1, cq2, cq3, cr1, cr2, cr3, cf1, cf2, cf3, cb1, cb2, cb3, cw1, cw2, cw3, clf, clc⟩, hkin, hpro, husu, hgiv, hthg, hhom, hput, hrin, hsen, hbar, hset, hmos, hpai, hrel, hmap, hdoo, hshe, htab, hwor⟩ := h'
  rw [s_X11_leads]
  have hm := fun k1 k2 => (hmap (8 * a + b) k1 k2).2
  (repeat' (first | rfl | rw [ci_r] | rw [cl_r] | rw [cv_r] | rw [ite_b2] | rw [ite_b21] | rw [if_pos (by omega)] | rw [if_neg (by omega)] | rw [y_kindsHas] | rw [y_isKind _ _ _ (by omega)] | rw [y_valHas] | rw [y_isProp _ _ _ (by omega)] | rw [y_thgHas] | rw [y_isThing _ _ _ (by omega)] | rw [y_inRange] | rw [y_in] | rw [s_X11_faulted] | rw [s_X12_faulty] | rw [s_X11_against] | rw [s_X12_against] | simp (disch := omega) only [w32_i, Int.add_sub_cancel, mc64, mc24, mc6, mc8, mc5] | rw [y_cRoom _ V _ (by omega)] | rw [s_X3_leadsTo] | rw [(hm (by omega) (by omega) (by omega)).2.1] | split))
  rename_i k1
  rw [(hm (by omega) (by omega) (by omega)).2.2.2.2.2.2.2.1 (.inl k1)]
theorem r_leads (d : Nat) (V : XM) (a b : Int) {B : Nat → Int} (hb : RB V B) : Yf (d + 30) 272 [xr 14 0, xi a, xi b] V = if ¬ (0 ≤ a ∧ a < (V 14 0 9) ∧ (B (a.toNat)) = 1) then some (xi (-1), V) else if ¬ (0 ≤ b ∧ b < 8) then some (xi (-2), V) else some (xi (if (V 95 0 ((8 * a + b).toNat)) = 0 then -9 else (V 96 0 ((8 * a + b).toNat))), V) := by
  rw [s_X12_leads]
  obtain ⟨h1, h2⟩ : 0 ≤ (V 14 0 9) ∧ (V 14 0 9) ≤ 64 := ⟨hb.2.1, hb.2.2.1⟩
  (repeat' (first | rfl | rw [ci_r] | rw [cl_r] | rw [cv_r] | rw [ite_b2] | rw [ite_b21] | rw [if_pos (by omega)] | rw [if_neg (by omega)] | rw [y_kindsHas] | rw [y_isKind _ _ _ (by omega)] | rw [y_valHas] | rw [y_isProp _ _ _ (by omega)] | rw [y_thgHas] | rw [y_isThing _ _ _ (by omega)] | rw [y_inRange] | rw [y_in] | rw [s_X11_faulted] | rw [s_X12_faulty] | rw [s_X11_against] | rw [s_X12_against] | simp (disch := omega) only [w32_i, Int.add_sub_cancel, mc64, mc24, mc6, mc8, mc5] | rw [y_rRoom _ V hb] | split))
theorem g_leads (d : Nat) (V : XM) (h : Inv V) (a b : Int) : AG d 157 272 [xi a, xi b] V := by
  have h' := h
  obtain ⟨⟨ck1, ck2, ck3, cp1, cp2, cp3, ct1, ct2, ct3, cs1, cs2, cs3, cq1, cq2, cq3, cr1, cr2, cr3, cf1, cf2, cf3, cb1, cb2, cb3, cw1, cw2, cw3, clf, clc⟩, hkin, hpro, husu, hgiv, hthg, hhom, hput, hrin, hsen, hbar, hset, hmos, hpai, hrel, hmap, hdoo, hshe, htab, hwor⟩ := h'
  have hC := c_leads d V h a b
  by_cases i1 : ¬ (0 ≤ a ∧ a < (V 14 0 9) ∧ (V 21 0 (a.toNat)) = 1)
  · exact AG.no h (hC.trans (if_pos i1)) ((r_leads d _ a b (by exact h.rb)).trans (if_pos (by exact i1)))
  rw [if_neg i1] at hC
  by_cases i2 : ¬ (0 ≤ b ∧ b < 8)
  · exact AG.no h (hC.trans (if_pos i2)) ((r_leads d _ a b (by exact h.rb)).trans ((if_neg (by exact i1)).trans (if_pos (by exact i2))))
  rw [if_neg i2] at hC
  exact AG.no h hC ((r_leads d _ a b (by exact h.rb)).trans ((if_neg (by exact i1)).trans (if_neg (by exact i2))))

theorem y_isShelf (d : Nat) (V : XM) (k : Int) (h : 0 ≤ (V 14 0 39) ∧ (V 14 0 39) ≤ 10) : Yf (d + 2) 278 [xr 14 0, xi k] V = some (xi (b2 (0 ≤ k ∧ k < (V 14 0 39))), V) := by
  rw [s_X12_isShelf, y_in, ci_r, w32_i (by omega) (by omega), ite_b21]
  exact someb (by omega)
theorem c_stands (d : Nat) (V : XM) (h : Inv V) (a b : Int) : Yf (d + 30) 164 [xr 2 0, xi a, xi b] V = if ¬ (0 ≤ a ∧ a < (V 14 0 39)) then some (xi (-1), V) else if ¬ (0 ≤ b ∧ b < (V 100 0 (a.toNat))) then some (xi (-12), xu V 2 0 15 2) else some (xi (V 101 0 ((16 * a + b).toNat)), V) := by
  have h' := h
  obtain ⟨⟨ck1, ck2, ck3, cp1, cp2, cp3, ct1, ct2, ct3, cs1, cs2, cs3, cq1, cq2, cq3, cr1, cr2, cr3, cf1, cf2, cf3, cb1, cb2, cb3, cw1, cw2, cw3, clf, clc⟩, hkin, hpro, husu, hgiv, hthg, hhom, hput, hrin, hsen, hbar, hset, hmos, hpai, hrel, hmap, hdoo, hshe, htab, hwor⟩ := h'
  rw [s_X11_stands]
  by_cases i1 : ¬ (0 ≤ a ∧ a < (V 14 0 39))
  · (repeat' (first | rfl | rw [ci_r] | rw [cl_r] | rw [cv_r] | rw [ite_b2] | rw [ite_b21] | rw [if_pos (by omega)] | rw [if_neg (by omega)] | rw [y_kindsHas] | rw [y_isKind _ _ _ (by omega)] | rw [y_valHas] | rw [y_isProp _ _ _ (by omega)] | rw [y_thgHas] | rw [y_isThing _ _ _ (by omega)] | rw [y_inRange] | rw [y_in] | rw [s_X11_faulted] | rw [s_X12_faulty] | rw [s_X11_against] | rw [s_X12_against] | simp (disch := omega) only [w32_i, Int.add_sub_cancel, mc64, mc24, mc6, mc8, mc5] | fail | split))
  obtain ⟨s1, s2, s3, s4, s5, s6, s7⟩ := hshe a (by omega) (by omega)
  (repeat' (first | rfl | rw [ci_r] | rw [cl_r] | rw [cv_r] | rw [ite_b2] | rw [ite_b21] | rw [if_pos (by omega)] | rw [if_neg (by omega)] | rw [y_kindsHas] | rw [y_isKind _ _ _ (by omega)] | rw [y_valHas] | rw [y_isProp _ _ _ (by omega)] | rw [y_thgHas] | rw [y_isThing _ _ _ (by omega)] | rw [y_inRange] | rw [y_in] | rw [s_X11_faulted] | rw [s_X12_faulty] | rw [s_X11_against] | rw [s_X12_against] | simp (disch := omega) only [w32_i, Int.add_sub_cancel, mc64, mc24, mc6, mc8, mc5] | rw [s4] | rw [(s7 b (by omega) (by omega)).1] | split))
theorem r_stands (d : Nat) (V : XM) (a b : Int) (w1 : 0 ≤ (V 14 0 39)) (w2 : (V 14 0 39) ≤ 10) (w3 : 0 ≤ a → a < (V 14 0 39) → 0 ≤ (V 100 0 (a.toNat)) ∧ (V 100 0 (a.toNat)) ≤ 16) : Yf (d + 30) 282 [xr 14 0, xi a, xi b] V = if ¬ (0 ≤ a ∧ a < (V 14 0 39)) then some (xi (-1), V) else if ¬ (0 ≤ b ∧ b < (V 100 0 (a.toNat))) then some (xi (-12), xu V 14 0 0 2) else some (xi (V 101 0 ((16 * a + b).toNat)), V) := by
  rw [s_X12_stands]
  by_cases i1 : ¬ (0 ≤ a ∧ a < (V 14 0 39))
  · (repeat' (first | rfl | rw [ci_r] | rw [cl_r] | rw [cv_r] | rw [ite_b2] | rw [ite_b21] | rw [if_pos (by omega)] | rw [if_neg (by omega)] | rw [y_kindsHas] | rw [y_isKind _ _ _ (by omega)] | rw [y_valHas] | rw [y_isProp _ _ _ (by omega)] | rw [y_thgHas] | rw [y_isThing _ _ _ (by omega)] | rw [y_inRange] | rw [y_in] | rw [s_X11_faulted] | rw [s_X12_faulty] | rw [s_X11_against] | rw [s_X12_against] | simp (disch := omega) only [w32_i, Int.add_sub_cancel, mc64, mc24, mc6, mc8, mc5] | rw [y_isShelf _ V _ (by omega)] | split))
  have := w3 (by omega) (by omega)
  (repeat' (first | rfl | rw [ci_r] | rw [cl_r] | rw [cv_r] | rw [ite_b2] | rw [ite_b21] | rw [if_pos (by omega)] | rw [if_neg (by omega)] | rw [y_kindsHas] | rw [y_isKind _ _ _ (by omega)] | rw [y_valHas] | rw [y_isProp _ _ _ (by omega)] | rw [y_thgHas] | rw [y_isThing _ _ _ (by omega)] | rw [y_inRange] | rw [y_in] | rw [s_X11_faulted] | rw [s_X12_faulty] | rw [s_X11_against] | rw [s_X12_against] | simp (disch := omega) only [w32_i, Int.add_sub_cancel, mc64, mc24, mc6, mc8, mc5] | rw [y_isShelf _ V _ (by omega)] | split))
theorem g_stands (d : Nat) (V : XM) (h : Inv V) (a b : Int) : AG d 164 282 [xi a, xi b] V := by
  have h' := h
  obtain ⟨⟨ck1, ck2, ck3, cp1, cp2, cp3, ct1, ct2, ct3, cs1, cs2, cs3, cq1, cq2, cq3, cr1, cr2, cr3, cf1, cf2, cf3, cb1, cb2, cb3, cw1, cw2, cw3, clf, clc⟩, hkin, hpro, husu, hgiv, hthg, hhom, hput, hrin, hsen, hbar, hset, hmos, hpai, hrel, hmap, hdoo, hshe, htab, hwor⟩ := h'
  have hC := c_stands d V h a b
  by_cases i1 : ¬ (0 ≤ a ∧ a < (V 14 0 39))
  · exact AG.no h (hC.trans (if_pos i1)) ((r_stands d _ a b (by exact cf1) (by exact cf2) (by exact (fun k1 k2 => ⟨(hshe a k1 k2).2.2.2.2.1, (hshe a k1 k2).2.2.2.2.2.1⟩))).trans (if_pos (by exact i1)))
  rw [if_neg i1] at hC
  by_cases i2 : ¬ (0 ≤ b ∧ b < (V 100 0 (a.toNat)))
  · exact AG.flt h (hC.trans (if_pos i2)) ((r_stands d _ a b (by exact cf1) (by exact cf2) (by exact (fun k1 k2 => ⟨(hshe a k1 k2).2.2.2.2.1, (hshe a k1 k2).2.2.2.2.2.1⟩))).trans ((if_neg (by exact i1)).trans (if_pos (by exact i2))))
  rw [if_neg i2] at hC
  exact AG.no h hC ((r_stands d _ a b (by exact cf1) (by exact cf2) (by exact (fun k1 k2 => ⟨(hshe a k1 k2).2.2.2.2.1, (hshe a k1 k2).2.2.2.2.2.1⟩))).trans ((if_neg (by exact i1)).trans (if_neg (by exact i2))))

theorem Inv.mark1 {V : XM} (h : Inv V) (a c : Int) (ha : 0 ≤ a) : Inv (xu (xu (xu V 23 0 a.toNat c) 75 0 a.toNat c) 76 0 a.toNat (V 76 0 (a.toNat))) := by
  obtain ⟨⟨ck1, ck2, ck3, cp1, cp2, cp3, ct1, ct2, ct3, cs1, cs2, cs3, cq1, cq2, cq3, cr1, cr2, cr3, cf1, cf2, cf3, cb1, cb2, cb3, cw1, cw2, cw3, clf, clc⟩, hkin, hpro, husu, hgiv, hthg, hhom, hput, hrin, hsen, hbar, hset, hmos, hpai, hrel, hmap, hdoo, hshe, htab, hwor⟩ := h
  have e23 : (xu (xu (xu V 23 0 a.toNat c) 75 0 a.toNat c) 76 0 a.toNat (V 76 0 (a.toNat))) 23 0 = zup (V 23 0) a.toNat c := xu_rw V 23 0 a.toNat c
  have e75 : (xu (xu (xu V 23 0 a.toNat c) 75 0 a.toNat c) 76 0 a.toNat (V 76 0 (a.toNat))) 75 0 = zup (V 75 0) a.toNat c := xu_rw V 75 0 a.toNat c
  have e76 : (xu (xu (xu V 23 0 a.toNat c) 75 0 a.toNat c) 76 0 a.toNat (V 76 0 (a.toNat))) 76 0 = V 76 0 := by
    refine (xu_rw V 76 0 a.toNat _).trans ?_
    funext j; rw [zup_e]
    split
    · rename_i hj; rw [hj]
    · rfl
  refine ⟨⟨ck1, ck2, ck3, cp1, cp2, cp3, ct1, ct2, ct3, cs1, cs2, cs3, cq1, cq2, cq3, cr1, cr2, cr3, cf1, cf2, cf3, cb1, cb2, cb3, cw1, cw2, cw3, clf, clc⟩, hkin, hpro, husu, hgiv, ?_, hhom, hput, hrin, hsen, hbar, hset, hmos, hpai, hrel, hmap, hdoo, hshe, htab, hwor⟩
  intro t h1 h2
  have := hthg t h1 h2
  rw [e23, e75, e76]
  by_cases ht : t = a
  · subst ht
    rw [zup_eq, zup_eq]
    obtain ⟨t1, t2, t3, t4, t5, t6, t7, t8, t9, t10, t11⟩ := this
    exact ⟨t1, t2, t3, t4, t5, t6, t7, t8, t9, rfl, t11⟩
  · rw [zup_ne (by omega), zup_ne (by omega)]
    exact this
theorem Inv.mark2 {V : XM} (h : Inv V) (a c : Int) (ha : 0 ≤ a) (hc : 0 ≤ c ∧ c ≤ 1000) : Inv (xu (xu (xu V 24 0 a.toNat c) 75 0 a.toNat (V 75 0 (a.toNat))) 76 0 a.toNat c) := by
  obtain ⟨⟨ck1, ck2, ck3, cp1, cp2, cp3, ct1, ct2, ct3, cs1, cs2, cs3, cq1, cq2, cq3, cr1, cr2, cr3, cf1, cf2, cf3, cb1, cb2, cb3, cw1, cw2, cw3, clf, clc⟩, hkin, hpro, husu, hgiv, hthg, hhom, hput, hrin, hsen, hbar, hset, hmos, hpai, hrel, hmap, hdoo, hshe, htab, hwor⟩ := h
  have e24 : (xu (xu (xu V 24 0 a.toNat c) 75 0 a.toNat (V 75 0 (a.toNat))) 76 0 a.toNat c) 24 0 = zup (V 24 0) a.toNat c := xu_rw V 24 0 a.toNat c
  have e76 : (xu (xu (xu V 24 0 a.toNat c) 75 0 a.toNat (V 75 0 (a.toNat))) 76 0 a.toNat c) 76 0 = zup (V 76 0) a.toNat c := xu_rw V 76 0 a.toNat c
  have e75 : (xu (xu (xu V 24 0 a.toNat c) 75 0 a.toNat (V 75 0 (a.toNat))) 76 0 a.toNat c) 75 0 = V 75 0 := by
    refine (xu_rw V 75 0 a.toNat _).trans ?_
    funext j; rw [zup_e]
    split
    · rename_i hj; rw [hj]
    · rfl
  refine ⟨⟨ck1, ck2, ck3, cp1, cp2, cp3, ct1, ct2, ct3, cs1, cs2, cs3, cq1, cq2, cq3, cr1, cr2, cr3, cf1, cf2, cf3, cb1, cb2, cb3, cw1, cw2, cw3, clf, clc⟩, hkin, hpro, husu, hgiv, ?_, hhom, hput, hrin, hsen, hbar, hset, hmos, hpai, hrel, hmap, hdoo, hshe, htab, hwor⟩
  intro t h1 h2
  have := hthg t h1 h2
  rw [e24, e75, e76]
  by_cases ht : t = a
  · subst ht
    rw [zup_eq, zup_eq]
    obtain ⟨t1, t2, t3, t4, t5, t6, t7, t8, t9, t10, t11, t12, t13, t14⟩ := this
    exact ⟨t1, t2, t3, t4, t5, t6, t7, t8, t9, t10, rfl, hc.1, hc.2, t14⟩
  · rw [zup_ne (by omega), zup_ne (by omega)]
    exact this
theorem c_remark (d : Nat) (V : XM) (h : Inv V) (a b c : Int) : Yf (d + 30) 141 [xr 2 0, xi a, xi b, xi c] V = if ¬ (0 ≤ a ∧ a < (V 14 0 9)) then some (xi (-1), V) else if ¬ (b = 0 ∨ b = 1) ∨ ¬ (0 ≤ c ∧ c ≤ 1000) then some (xi (-2), V) else if b = 1 ∧ ¬ ((V 21 0 (a.toNat)) = 2 ∨ (V 21 0 (a.toNat)) = 4 ∨ (V 21 0 (a.toNat)) = 5) then some (xi (-13), xu V 2 0 15 3) else if b = 0 then some (xi (V 75 0 (a.toNat)), xu V 23 0 a.toNat c) else some (xi (V 76 0 (a.toNat)), xu V 24 0 a.toNat c) := by
  have h' := h
  obtain ⟨⟨ck1, ck2, ck3, cp1, cp2, cp3, ct1, ct2, ct3, cs1, cs2, cs3, cq1, cq2, cq3, cr1, cr2, cr3, cf1, cf2, cf3, cb1, cb2, cb3, cw1, cw2, cw3, clf, clc⟩, hkin, hpro, husu, hgiv, hthg, hhom, hput, hrin, hsen, hbar, hset, hmos, hpai, hrel, hmap, hdoo, hshe, htab, hwor⟩ := h'
  rw [s_X11_remark]
  by_cases i1 : ¬ (0 ≤ a ∧ a < (V 14 0 9))
  · (repeat' (first | rfl | rw [ci_r] | rw [cl_r] | rw [cv_r] | rw [ite_b2] | rw [ite_b21] | rw [if_pos (by omega)] | rw [if_neg (by omega)] | rw [y_kindsHas] | rw [y_isKind _ _ _ (by omega)] | rw [y_valHas] | rw [y_isProp _ _ _ (by omega)] | rw [y_thgHas] | rw [y_isThing _ _ _ (by omega)] | rw [y_inRange] | rw [y_in] | rw [s_X11_faulted] | rw [s_X12_faulty] | rw [s_X11_against] | rw [s_X12_against] | simp (disch := omega) only [w32_i, Int.add_sub_cancel, mc64, mc24, mc6, mc8, mc5] | fail | split))
  obtain ⟨t1, t2, t3, t4, t5, t6, t7, t8, t9, t10, t11, _⟩ := hthg a (by omega) (by omega)
  (repeat' (first | rfl | rw [ci_r] | rw [cl_r] | rw [cv_r] | rw [ite_b2] | rw [ite_b21] | rw [if_pos (by omega)] | rw [if_neg (by omega)] | rw [y_kindsHas] | rw [y_isKind _ _ _ (by omega)] | rw [y_valHas] | rw [y_isProp _ _ _ (by omega)] | rw [y_thgHas] | rw [y_isThing _ _ _ (by omega)] | rw [y_inRange] | rw [y_in] | rw [s_X11_faulted] | rw [s_X12_faulty] | rw [s_X11_against] | rw [s_X12_against] | simp (disch := omega) only [w32_i, Int.add_sub_cancel, mc64, mc24, mc6, mc8, mc5] | rw [y_cLid _ V (by omega) (by omega)] | rw [t10] | rw [t11] | split))
theorem r_remark (d : Nat) (V : XM) (a b c : Int) {B : Nat → Int} (hb : RB V B) : Yf (d + 30) 238 [xr 14 0, xi a, xi b, xi c] V = if ¬ (0 ≤ a ∧ a < (V 14 0 9)) then some (xi (-1), V) else if ¬ (b = 0 ∨ b = 1) ∨ ¬ (0 ≤ c ∧ c ≤ 1000) then some (xi (-2), V) else if b = 1 ∧ ¬ ((B (a.toNat)) = 2 ∨ (B (a.toNat)) = 4 ∨ (B (a.toNat)) = 5) then some (xi (-13), xu V 14 0 0 3) else if b = 0 then some (xi (V 75 0 (a.toNat)), xu (xu V 75 0 a.toNat c) 76 0 a.toNat (V 76 0 (a.toNat))) else some (xi (V 76 0 (a.toNat)), xu (xu V 75 0 a.toNat (V 75 0 (a.toNat))) 76 0 a.toNat c) := by
  rw [s_X12_remark]
  obtain ⟨h1, h2⟩ : 0 ≤ (V 14 0 9) ∧ (V 14 0 9) ≤ 64 := ⟨hb.2.1, hb.2.2.1⟩
  by_cases i1 : ¬ (0 ≤ a ∧ a < (V 14 0 9))
  · (repeat (first | rw [ci_r] | rw [cl_r] | rw [cv_r] | rw [ite_b2] | rw [ite_b21] | rw [if_pos (by omega)] | rw [if_neg (by omega)] | rw [y_kindsHas] | rw [y_isKind _ _ _ (by omega)] | rw [y_valHas] | rw [y_isProp _ _ _ (by omega)] | rw [y_thgHas] | rw [y_isThing _ _ _ (by omega)] | rw [y_inRange] | rw [y_in] | rw [s_X11_faulted] | rw [s_X12_faulty] | rw [s_X11_against] | rw [s_X12_against] | simp (disch := omega) only [w32_i, Int.add_sub_cancel, mc64, mc24, mc6, mc8, mc5] | fail))
  by_cases i2 : b = 0 <;> by_cases i3 : b = 1 <;> by_cases i4 : (0 ≤ c ∧ c ≤ 1000)
  · omega
  · omega
  (repeat' (first | rfl | rw [ci_r] | rw [cl_r] | rw [cv_r] | rw [ite_b2] | rw [ite_b21] | rw [if_pos (by omega)] | rw [if_neg (by omega)] | rw [y_kindsHas] | rw [y_isKind _ _ _ (by omega)] | rw [y_valHas] | rw [y_isProp _ _ _ (by omega)] | rw [y_thgHas] | rw [y_isThing _ _ _ (by omega)] | rw [y_inRange] | rw [y_in] | rw [s_X11_faulted] | rw [s_X12_faulty] | rw [s_X11_against] | rw [s_X12_against] | simp (disch := omega) only [w32_i, Int.add_sub_cancel, mc64, mc24, mc6, mc8, mc5] | rw [y_rOwn _ V hb (by omega) (by omega)] | split))
theorem g_remark (d : Nat) (V : XM) (h : Inv V) (a b c : Int) : AG d 141 238 [xi a, xi b, xi c] V := by
  have h' := h
  obtain ⟨⟨ck1, ck2, ck3, cp1, cp2, cp3, ct1, ct2, ct3, cs1, cs2, cs3, cq1, cq2, cq3, cr1, cr2, cr3, cf1, cf2, cf3, cb1, cb2, cb3, cw1, cw2, cw3, clf, clc⟩, hkin, hpro, husu, hgiv, hthg, hhom, hput, hrin, hsen, hbar, hset, hmos, hpai, hrel, hmap, hdoo, hshe, htab, hwor⟩ := h'
  have hC := c_remark d V h a b c
  by_cases i1 : ¬ (0 ≤ a ∧ a < (V 14 0 9))
  · exact AG.no h (hC.trans (if_pos i1)) ((r_remark d _ a b c (by exact h.rb)).trans (if_pos (by exact i1)))
  rw [if_neg i1] at hC
  by_cases i2 : ¬ (b = 0 ∨ b = 1) ∨ ¬ (0 ≤ c ∧ c ≤ 1000)
  · exact AG.no h (hC.trans (if_pos i2)) ((r_remark d _ a b c (by exact h.rb)).trans ((if_neg (by exact i1)).trans (if_pos (by exact i2))))
  rw [if_neg i2] at hC
  by_cases i3 : b = 1 ∧ ¬ ((V 21 0 (a.toNat)) = 2 ∨ (V 21 0 (a.toNat)) = 4 ∨ (V 21 0 (a.toNat)) = 5)
  · exact AG.flt h (hC.trans (if_pos i3)) ((r_remark d _ a b c (by exact h.rb)).trans ((if_neg (by exact i1)).trans ((if_neg (by exact i2)).trans (if_pos (by exact i3)))))
  rw [if_neg i3] at hC
  by_cases i4 : b = 0
  · refine AG.mk (hC.trans (if_pos i4)) ((r_remark d _ a b c (by exact h.rb)).trans ((if_neg (by exact i1)).trans ((if_neg (by exact i2)).trans ((if_neg (by exact i3)).trans (if_pos (by exact i4)))))) ?_ rfl
    exact Inv.mark1 h a c (by omega)
  rw [if_neg i4] at hC
  refine AG.mk hC ((r_remark d _ a b c (by exact h.rb)).trans ((if_neg (by exact i1)).trans ((if_neg (by exact i2)).trans ((if_neg (by exact i3)).trans (if_neg (by exact i4)))))) ?_ rfl
  exact Inv.mark2 h a c (by omega) (by omega)

theorem Inv.opn {V : XM} (h : Inv V) (a c : Int) (ha : 0 ≤ a) (hc : c = 0 ∨ c = 1) : Inv (xu (xu V 25 0 a.toNat c) 77 0 a.toNat c) := by
  obtain ⟨⟨ck1, ck2, ck3, cp1, cp2, cp3, ct1, ct2, ct3, cs1, cs2, cs3, cq1, cq2, cq3, cr1, cr2, cr3, cf1, cf2, cf3, cb1, cb2, cb3, cw1, cw2, cw3, clf, clc⟩, hkin, hpro, husu, hgiv, hthg, hhom, hput, hrin, hsen, hbar, hset, hmos, hpai, hrel, hmap, hdoo, hshe, htab, hwor⟩ := h
  have e25 : (xu (xu V 25 0 a.toNat c) 77 0 a.toNat c) 25 0 = zup (V 25 0) a.toNat c := xu_rw V 25 0 a.toNat c
  have e77 : (xu (xu V 25 0 a.toNat c) 77 0 a.toNat c) 77 0 = zup (V 77 0) a.toNat c := xu_rw V 77 0 a.toNat c
  refine ⟨⟨ck1, ck2, ck3, cp1, cp2, cp3, ct1, ct2, ct3, cs1, cs2, cs3, cq1, cq2, cq3, cr1, cr2, cr3, cf1, cf2, cf3, cb1, cb2, cb3, cw1, cw2, cw3, clf, clc⟩, hkin, hpro, husu, hgiv, ?_, hhom, hput, hrin, hsen, hbar, hset, hmos, hpai, hrel, hmap, hdoo, hshe, htab, hwor⟩
  intro t h1 h2
  have := hthg t h1 h2
  rw [e25, e77]
  by_cases ht : t = a
  · subst ht
    rw [zup_eq, zup_eq]
    obtain ⟨t1, t2, t3, t4, t5, t6, t7, t8, t9, t10, t11, t12, t13, t14⟩ := this
    exact ⟨t1, t2, t3, t4, t5, t6, t7, t8, t9, t10, t11, t12, t13, rfl, hc⟩
  · rw [zup_ne (by omega), zup_ne (by omega)]
    exact this
theorem c_open (d : Nat) (V : XM) (h : Inv V) (a b : Int) : Yf (d + 30) 142 [xr 2 0, xi a, xi b] V = if ¬ (0 ≤ a ∧ a < (V 14 0 9)) then some (xi (-1), V) else if ¬ ((V 21 0 (a.toNat)) = 2 ∨ (V 21 0 (a.toNat)) = 4 ∨ (V 21 0 (a.toNat)) = 5) then some (xi (-13), xu V 2 0 15 3) else some (xi (V 77 0 (a.toNat)), xu V 25 0 a.toNat (b % 2)) := by
  have h' := h
  obtain ⟨⟨ck1, ck2, ck3, cp1, cp2, cp3, ct1, ct2, ct3, cs1, cs2, cs3, cq1, cq2, cq3, cr1, cr2, cr3, cf1, cf2, cf3, cb1, cb2, cb3, cw1, cw2, cw3, clf, clc⟩, hkin, hpro, husu, hgiv, hthg, hhom, hput, hrin, hsen, hbar, hset, hmos, hpai, hrel, hmap, hdoo, hshe, htab, hwor⟩ := h'
  rw [s_X11_open]
  by_cases i1 : ¬ (0 ≤ a ∧ a < (V 14 0 9))
  · (repeat' (first | rfl | rw [ci_r] | rw [cl_r] | rw [cv_r] | rw [ite_b2] | rw [ite_b21] | rw [if_pos (by omega)] | rw [if_neg (by omega)] | rw [y_kindsHas] | rw [y_isKind _ _ _ (by omega)] | rw [y_valHas] | rw [y_isProp _ _ _ (by omega)] | rw [y_thgHas] | rw [y_isThing _ _ _ (by omega)] | rw [y_inRange] | rw [y_in] | rw [s_X11_faulted] | rw [s_X12_faulty] | rw [s_X11_against] | rw [s_X12_against] | simp (disch := omega) only [w32_i, Int.add_sub_cancel, mc64, mc24, mc6, mc8, mc5] | fail | split))
  obtain ⟨t1, t2, t3, t4, t5, t6, t7, t8, t9, t10, t11, t12, t13, t14, t15⟩ := hthg a (by omega) (by omega)
  rw [← t14] at t15
  rw [← t14]
  (repeat' (first | rfl | rw [ci_r] | rw [cl_r] | rw [cv_r] | rw [ite_b2] | rw [ite_b21] | rw [if_pos (by omega)] | rw [if_neg (by omega)] | rw [y_kindsHas] | rw [y_isKind _ _ _ (by omega)] | rw [y_valHas] | rw [y_isProp _ _ _ (by omega)] | rw [y_thgHas] | rw [y_isThing _ _ _ (by omega)] | rw [y_inRange] | rw [y_in] | rw [s_X11_faulted] | rw [s_X12_faulty] | rw [s_X11_against] | rw [s_X12_against] | simp (disch := omega) only [w32_i, Int.add_sub_cancel, mc64, mc24, mc6, mc8, mc5] | rw [y_cLid _ V (by omega) (by omega)] | split))
  all_goals (rename_i k1; first | rw [k1] | rw [show (V 25 0 (a.toNat)) = 1 by omega])
theorem r_open (d : Nat) (V : XM) (a b : Int) {B : Nat → Int} (hb : RB V B) (ho : 0 ≤ a → a < (V 14 0 9) → (V 77 0 (a.toNat)) = 0 ∨ (V 77 0 (a.toNat)) = 1) : Yf (d + 30) 239 [xr 14 0, xi a, xi b] V = if ¬ (0 ≤ a ∧ a < (V 14 0 9)) then some (xi (-1), V) else if ¬ ((B (a.toNat)) = 2 ∨ (B (a.toNat)) = 4 ∨ (B (a.toNat)) = 5) then some (xi (-13), xu V 14 0 0 3) else some (xi (V 77 0 (a.toNat)), xu V 77 0 a.toNat (b % 2)) := by
  rw [s_X12_open]
  obtain ⟨h1, h2⟩ : 0 ≤ (V 14 0 9) ∧ (V 14 0 9) ≤ 64 := ⟨hb.2.1, hb.2.2.1⟩
  by_cases i1 : ¬ (0 ≤ a ∧ a < (V 14 0 9))
  · (repeat' (first | rfl | rw [ci_r] | rw [cl_r] | rw [cv_r] | rw [ite_b2] | rw [ite_b21] | rw [if_pos (by omega)] | rw [if_neg (by omega)] | rw [y_kindsHas] | rw [y_isKind _ _ _ (by omega)] | rw [y_valHas] | rw [y_isProp _ _ _ (by omega)] | rw [y_thgHas] | rw [y_isThing _ _ _ (by omega)] | rw [y_inRange] | rw [y_in] | rw [s_X11_faulted] | rw [s_X12_faulty] | rw [s_X11_against] | rw [s_X12_against] | simp (disch := omega) only [w32_i, Int.add_sub_cancel, mc64, mc24, mc6, mc8, mc5] | fail | split))
  have ho := ho (by omega) (by omega)
  (repeat' (first | rfl | rw [ci_r] | rw [cl_r] | rw [cv_r] | rw [ite_b2] | rw [ite_b21] | rw [if_pos (by omega)] | rw [if_neg (by omega)] | rw [y_kindsHas] | rw [y_isKind _ _ _ (by omega)] | rw [y_valHas] | rw [y_isProp _ _ _ (by omega)] | rw [y_thgHas] | rw [y_isThing _ _ _ (by omega)] | rw [y_inRange] | rw [y_in] | rw [s_X11_faulted] | rw [s_X12_faulty] | rw [s_X11_against] | rw [s_X12_against] | simp (disch := omega) only [w32_i, Int.add_sub_cancel, mc64, mc24, mc6, mc8, mc5] | rw [y_rOwn _ V hb (by omega) (by omega)] | split))
  all_goals (rename_i k1; first | rw [k1] | rw [show (V 77 0 (a.toNat)) = 1 by omega])
theorem g_open (d : Nat) (V : XM) (h : Inv V) (a b : Int) : AG d 142 239 [xi a, xi b] V := by
  have h' := h
  obtain ⟨⟨ck1, ck2, ck3, cp1, cp2, cp3, ct1, ct2, ct3, cs1, cs2, cs3, cq1, cq2, cq3, cr1, cr2, cr3, cf1, cf2, cf3, cb1, cb2, cb3, cw1, cw2, cw3, clf, clc⟩, hkin, hpro, husu, hgiv, hthg, hhom, hput, hrin, hsen, hbar, hset, hmos, hpai, hrel, hmap, hdoo, hshe, htab, hwor⟩ := h'
  have hC := c_open d V h a b
  by_cases i1 : ¬ (0 ≤ a ∧ a < (V 14 0 9))
  · exact AG.no h (hC.trans (if_pos i1)) ((r_open d _ a b (by exact h.rb) (by exact (fun k1 k2 => (hthg a k1 k2).2.2.2.2.2.2.2.2.2.2.2.2.2.2))).trans (if_pos (by exact i1)))
  rw [if_neg i1] at hC
  by_cases i2 : ¬ ((V 21 0 (a.toNat)) = 2 ∨ (V 21 0 (a.toNat)) = 4 ∨ (V 21 0 (a.toNat)) = 5)
  · exact AG.flt h (hC.trans (if_pos i2)) ((r_open d _ a b (by exact h.rb) (by exact (fun k1 k2 => (hthg a k1 k2).2.2.2.2.2.2.2.2.2.2.2.2.2.2))).trans ((if_neg (by exact i1)).trans (if_pos (by exact i2))))
  rw [if_neg i2] at hC
  refine AG.mk hC ((r_open d _ a b (by exact h.rb) (by exact (fun k1 k2 => (hthg a k1 k2).2.2.2.2.2.2.2.2.2.2.2.2.2.2))).trans ((if_neg (by exact i1)).trans (if_neg (by exact i2)))) ?_ rfl
  exact Inv.opn h a (b % 2) (by omega) (by omega)

