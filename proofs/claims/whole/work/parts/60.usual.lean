/-! usual, count, digest -/
theorem y_knows (d : Nat) (V : XM) {q : Int} (v : Int) (h0 : 0 ≤ q) (h1 : q < 12) : Yf (d + 2) 107 [xr 5 0, xi q, xl v] V = some (xi (b2 ((V 27 0 (q.toNat)) ≠ 8 ∨ v = -9 ∨ (0 ≤ v ∧ v < (V 4 0 7)))), V) := by
  rw [s_X9_knows]
  simp only [cmp3_eq]
  unfold b2
  (repeat' (first | rfl | rw [ci_r] | rw [cl_r] | rw [cv_r] | rw [ite_b2] | rw [ite_b21] | rw [if_pos (by omega)] | rw [if_neg (by omega)] | rw [y_kindsHas] | rw [y_isKind _ _ _ (by omega)] | rw [y_valHas] | rw [y_isProp _ _ _ (by omega)] | rw [y_thgHas] | rw [y_isThing _ _ _ (by omega)] | rw [y_inRange] | rw [y_in] | rw [s_X11_faulted] | rw [s_X12_faulty] | rw [s_X11_against] | rw [s_X12_against] | simp (disch := omega) only [w32_i, Int.add_sub_cancel, mc64, mc24, mc6, mc8, mc5] | fail | split))
theorem y_unknown (d : Nat) (V : XM) {q : Int} (v : Int) (h0 : 0 ≤ q) (h1 : q < 12) (t1 : 0 ≤ (V 14 0 9)) (t2 : (V 14 0 9) ≤ 64) : Yf (d + 2) 200 [xr 14 0, xi q, xl v] V = some (xi (b2 (¬ ((V 69 0 (q.toNat)) ≠ 8 ∨ v = -9 ∨ (0 ≤ v ∧ v < (V 14 0 9))))), V) := by
  rw [s_X12_isUnknown]
  simp only [cmp3_eq]
  rw [w64_i (by omega) (by omega)]
  unfold b2
  (repeat' (first | rfl | rw [ci_r] | rw [cl_r] | rw [cv_r] | rw [ite_b2] | rw [ite_b21] | rw [if_pos (by omega)] | rw [if_neg (by omega)] | rw [y_kindsHas] | rw [y_isKind _ _ _ (by omega)] | rw [y_valHas] | rw [y_isProp _ _ _ (by omega)] | rw [y_thgHas] | rw [y_isThing _ _ _ (by omega)] | rw [y_inRange] | rw [y_in] | rw [s_X11_faulted] | rw [s_X12_faulty] | rw [s_X11_against] | rw [s_X12_against] | simp (disch := omega) only [w32_i, Int.add_sub_cancel, mc64, mc24, mc6, mc8, mc5] | fail | split))
theorem y_takes (d : Nat) (V : XM) (h : Inv V) {q v : Int} (h0 : 0 ≤ q) (h1 : q < (V 14 0 3)) (hk : (V 69 0 (q.toNat)) ≠ 8 ∨ v = -9 ∨ (0 ≤ v ∧ v < (V 14 0 9))) : Yf (d + 2) 108 [xr 5 0, xi q, xl v] V = some (xi (b2 ((V 69 0 (q.toNat)) ≠ 8 ∨ v = -9 ∨ kfit (V 67 0) (V 21 0 (v.toNat)) (V 70 0 (q.toNat)) = true)), V) := by
  obtain ⟨⟨ck1, ck2, ck3, cp1, cp2, cp3, ct1, ct2, ct3, cs1, cs2, cs3, cq1, cq2, cq3, cr1, cr2, cr3, cf1, cf2, cf3, cb1, cb2, cb3, cw1, cw2, cw3, clf, clc⟩, hkin, hpro, husu, hgiv, hthg, hhom, hput, hrin, hsen, hbar, hset, hmos, hpai, hrel, hmap, hdoo, hshe, htab, hwor⟩ := h
  obtain ⟨p1, p2, p3, p4, p5, p6, p7⟩ := hpro q h0 h1
  rw [s_X9_takes, p4, if_pos (by omega)]
  by_cases hl : (V 69 0 (q.toNat)) = 8
  · obtain ⟨p8, p9, p10⟩ := p7 hl
    rw [if_pos hl, y_thgHas, ci_r, ite_b2]
    by_cases hv : 0 ≤ v ∧ v < (V 4 0 7)
    · obtain ⟨t1, t2, t3, t4, t5, t6, _⟩ := hthg v (by omega) (by omega)
      rw [if_pos hv, w32_i (by omega) (by omega), if_pos (by omega), if_pos (by omega), p8, y_fits _ V _ hkin.1 hkin.2.1 _ _ p9 t5 (by omega), ci_r, ite_b2, some_b2]
      refine someb ⟨fun h => .inr (.inr h), fun h => ?_⟩
      rcases h with h | h | h
      · exact absurd hl h
      · omega
      · exact h
    · rw [if_neg hv]
      refine congrArg some (congrArg (fun x => (xi x, V)) (b2_1.mpr ?_).symm)
      omega
  · rw [if_neg hl]
    refine congrArg some (congrArg (fun x => (xi x, V)) (b2_1.mpr (.inl hl)).symm)
theorem y_stored (d : Nat) (V : XM) {B : Nat → Int} (hb : RB V B) {q v : Int} (h0 : 0 ≤ q) (h1 : q < 12) (hk6 : 6 ≤ (V 14 0 1)) (hk : (V 69 0 (q.toNat)) ≠ 8 ∨ v = -9 ∨ (0 ≤ v ∧ v < (V 14 0 9))) : Yf (d + 2) 201 [xr 14 0, xi q, xl v] V = some (xi (b2 ((V 69 0 (q.toNat)) ≠ 8 ∨ v = -9 ∨ kfit (V 67 0) (B v.toNat) (V 70 0 (q.toNat)) = true)), V) := by
  obtain ⟨hp, ct1, ct2, h6⟩ := hb
  rw [s_X12_isStored, if_pos (by omega)]
  simp only [cmp3_eq]
  by_cases hl : (V 69 0 (q.toNat)) = 8
  · rw [if_pos hl]
    by_cases hv : v = -9
    · rw [if_pos hv]
      exact congrArg some (congrArg (fun x => (xi x, V)) (b2_1.mpr (.inr (.inl hv))).symm)
    · obtain ⟨a1, a2, a3, a4, a5⟩ := h6 v (by omega) (by omega)
      rw [if_neg hv, w32_i (by omega) (by omega), if_pos (by omega), y_rbaseOf _ V hp _ a1 a2, ci_r, if_pos (by omega), a3, y_comesTo _ V hp _ _ a4 (by omega), ci_r, ite_b2, some_b2]
      refine someb ⟨fun h => .inr (.inr h), fun h => ?_⟩
      rcases h with h | h | h
      · exact absurd hl h
      · omega
      · exact h
  · rw [if_neg hl]
    exact congrArg some (congrArg (fun x => (xi x, V)) (b2_1.mpr (.inl hl)).symm)
theorem y_tellUsual (d : Nat) (V : XM) {k q : Int} (v : Int) (h0 : 0 ≤ k) (h1 : k < 24) (h2 : 0 ≤ q) (h3 : q < 12) : Yf (d + 2) 110 [xr 5 0, xi k, xi q, xl v] V = some (xi 0, xu (xu V 29 0 (24 * q + k).toNat (toldF (V 27 0 (q.toNat)) v)) 30 0 (24 * q + k).toNat 1) := by
  have e : w32 (w32 (q * 24) + k) = 24 * q + k := by rw [w32_add, w32_i (by omega) (by omega)]; omega
  rw [s_X9_tellUsual, if_pos (by omega), y_told, cl_r, e, if_pos (by omega), if_pos (by omega)]
theorem Inv.usu {V : XM} (h : Inv V) {k q v : Int} (h0 : 0 ≤ k) (h1 : k < (V 14 0 1)) (h2 : 0 ≤ q) (h3 : q < (V 14 0 3)) (hk : (V 69 0 (q.toNat)) ≠ 8 ∨ v = -9 ∨ (0 ≤ v ∧ v < (V 14 0 9))) :
    Inv (xu (xu (xu (xu V 29 0 (24 * q + k).toNat (toldF (V 69 0 (q.toNat)) v)) 30 0 (24 * q + k).toNat 1) 71 0 (12 * k + q).toNat 1) 72 0 (12 * k + q).toNat (toldF (V 69 0 (q.toNat)) v)) := by
  obtain ⟨⟨ck1, ck2, ck3, cp1, cp2, cp3, ct1, ct2, ct3, cs1, cs2, cs3, cq1, cq2, cq3, cr1, cr2, cr3, cf1, cf2, cf3, cb1, cb2, cb3, cw1, cw2, cw3, clf, clc⟩, hkin, hpro, husu, hgiv, hthg, hhom, hput, hrin, hsen, hbar, hset, hmos, hpai, hrel, hmap, hdoo, hshe, htab, hwor⟩ := h
  have h8 : (V 69 0 (q.toNat)) = 8 → toldF (V 69 0 (q.toNat)) v = v := fun e => toldF_8 v e
  generalize toldF (V 69 0 (q.toNat)) v = x at *
  have e29 : (xu (xu (xu (xu V 29 0 (24 * q + k).toNat x) 30 0 (24 * q + k).toNat 1) 71 0 (12 * k + q).toNat 1) 72 0 (12 * k + q).toNat x) 29 0 = zup (V 29 0) (24 * q + k).toNat x := xu_rw V 29 0 _ _
  have e30 : (xu (xu (xu (xu V 29 0 (24 * q + k).toNat x) 30 0 (24 * q + k).toNat 1) 71 0 (12 * k + q).toNat 1) 72 0 (12 * k + q).toNat x) 30 0 = zup (V 30 0) (24 * q + k).toNat 1 := xu_rw V 30 0 _ _
  have e71 : (xu (xu (xu (xu V 29 0 (24 * q + k).toNat x) 30 0 (24 * q + k).toNat 1) 71 0 (12 * k + q).toNat 1) 72 0 (12 * k + q).toNat x) 71 0 = zup (V 71 0) (12 * k + q).toNat 1 := xu_rw V 71 0 _ _
  have e72 : (xu (xu (xu (xu V 29 0 (24 * q + k).toNat x) 30 0 (24 * q + k).toNat 1) 71 0 (12 * k + q).toNat 1) 72 0 (12 * k + q).toNat x) 72 0 = zup (V 72 0) (12 * k + q).toNat x := xu_rw V 72 0 _ _
  refine ⟨⟨ck1, ck2, ck3, cp1, cp2, cp3, ct1, ct2, ct3, cs1, cs2, cs3, cq1, cq2, cq3, cr1, cr2, cr3, cf1, cf2, cf3, cb1, cb2, cb3, cw1, cw2, cw3, clf, clc⟩, hkin, hpro, ?_, hgiv, hthg, hhom, hput, hrin, hsen, hbar, hset, hmos, hpai, hrel, hmap, hdoo, hshe, htab, hwor⟩
  refine ⟨?_, ?_⟩
  · intro q' k' g1 g2 g3 g4
    have g2' : q' < (V 14 0 3) := g2
    have := husu.1 q' k' g1 g2 g3 g4
    rw [e29, e30, e71, e72]
    by_cases hh : q' = q ∧ k' = k
    · obtain ⟨rfl, rfl⟩ := hh
      rw [zup_eq, zup_eq, zup_eq, zup_eq]
      refine ⟨rfl, fun _ => ⟨rfl, fun h9 => ?_⟩⟩
      have h9' : (V 69 0 (q'.toNat)) = 8 := h9
      have := h8 h9'
      show x = -9 ∨ 0 ≤ x ∧ x < (V 14 0 9)
      omega
    · rw [zup_ne (by omega), zup_ne (by omega), zup_ne (by omega), zup_ne (by omega)]
      exact this
  · intro q' k' g1 g2 g3 g4
    have g1' : (V 14 0 3) ≤ q' := g1
    rw [e71, zup_ne (by omega)]
    exact husu.2 q' k' g1 g2 g3 g4
theorem c_usual (d : Nat) (V : XM) (h : Inv V) (a b c : Int) : Yf (d + 30) 127 [xr 2 0, xi a, xi b, xl c] V = if ¬ (0 ≤ a ∧ a < (V 14 0 1)) ∨ ¬ (0 ≤ b ∧ b < (V 14 0 3)) then some (xi (-1), V) else if ¬ ((V 69 0 (b.toNat)) ≠ 8 ∨ c = -9 ∨ (0 ≤ c ∧ c < (V 14 0 9))) then some (xi (-1), V) else if ¬ (kfit (V 67 0) a (V 68 0 (b.toNat)) = true) then some (xi (-3), V) else if ¬ ((V 69 0 (b.toNat)) ≠ 8 ∨ c = -9 ∨ kfit (V 67 0) (V 21 0 (c.toNat)) (V 70 0 (b.toNat)) = true) then some (xi (-14), xu V 2 0 15 4) else some (xi 1, xu (xu V 29 0 (24 * b + a).toNat (toldF (V 69 0 (b.toNat)) c)) 30 0 (24 * b + a).toNat 1) := by
  have h' := h
  obtain ⟨⟨ck1, ck2, ck3, cp1, cp2, cp3, ct1, ct2, ct3, cs1, cs2, cs3, cq1, cq2, cq3, cr1, cr2, cr3, cf1, cf2, cf3, cb1, cb2, cb3, cw1, cw2, cw3, clf, clc⟩, hkin, hpro, husu, hgiv, hthg, hhom, hput, hrin, hsen, hbar, hset, hmos, hpai, hrel, hmap, hdoo, hshe, htab, hwor⟩ := h'
  rw [s_X11_usual]
  by_cases i1 : ¬ (0 ≤ a ∧ a < (V 14 0 1)) ∨ ¬ (0 ≤ b ∧ b < (V 14 0 3))
  · (repeat' (first | rfl | rw [ci_r] | rw [cl_r] | rw [cv_r] | rw [ite_b2] | rw [ite_b21] | rw [if_pos (by omega)] | rw [if_neg (by omega)] | rw [y_kindsHas] | rw [y_isKind _ _ _ (by omega)] | rw [y_valHas] | rw [y_isProp _ _ _ (by omega)] | rw [y_thgHas] | rw [y_isThing _ _ _ (by omega)] | rw [y_inRange] | rw [y_in] | rw [s_X11_faulted] | rw [s_X12_faulty] | rw [s_X11_against] | rw [s_X12_against] | simp (disch := omega) only [w32_i, Int.add_sub_cancel, mc64, mc24, mc6, mc8, mc5] | fail | split))
  obtain ⟨p1, p2, p3, p4, p5, p6, p7⟩ := hpro b (by omega) (by omega)
  rw [if_neg i1]
  (repeat (first | rw [ci_r] | rw [cl_r] | rw [cv_r] | rw [ite_b2] | rw [ite_b21] | rw [if_pos (by omega)] | rw [if_neg (by omega)] | rw [y_kindsHas] | rw [y_isKind _ _ _ (by omega)] | rw [y_valHas] | rw [y_isProp _ _ _ (by omega)] | rw [y_thgHas] | rw [y_isThing _ _ _ (by omega)] | rw [y_inRange] | rw [y_in] | rw [s_X11_faulted] | rw [s_X12_faulty] | rw [s_X11_against] | rw [s_X12_against] | simp (disch := omega) only [w32_i, Int.add_sub_cancel, mc64, mc24, mc6, mc8, mc5] | rw [y_knows _ V _ (by omega) (by omega)]))
  rw [p4, ct3]
  by_cases i2 : ¬ ((V 69 0 (b.toNat)) ≠ 8 ∨ c = -9 ∨ (0 ≤ c ∧ c < (V 14 0 9)))
  · (repeat' (first | rfl | rw [ci_r] | rw [cl_r] | rw [cv_r] | rw [ite_b2] | rw [ite_b21] | rw [if_pos (by omega)] | rw [if_neg (by omega)] | rw [y_kindsHas] | rw [y_isKind _ _ _ (by omega)] | rw [y_valHas] | rw [y_isProp _ _ _ (by omega)] | rw [y_thgHas] | rw [y_isThing _ _ _ (by omega)] | rw [y_inRange] | rw [y_in] | rw [s_X11_faulted] | rw [s_X12_faulty] | rw [s_X11_against] | rw [s_X12_against] | simp (disch := omega) only [w32_i, Int.add_sub_cancel, mc64, mc24, mc6, mc8, mc5] | fail | split))
  (repeat (first | rw [ci_r] | rw [cl_r] | rw [cv_r] | rw [ite_b2] | rw [ite_b21] | rw [if_pos (by omega)] | rw [if_neg (by omega)] | rw [y_kindsHas] | rw [y_isKind _ _ _ (by omega)] | rw [y_valHas] | rw [y_isProp _ _ _ (by omega)] | rw [y_thgHas] | rw [y_isThing _ _ _ (by omega)] | rw [y_inRange] | rw [y_in] | rw [s_X11_faulted] | rw [s_X12_faulty] | rw [s_X11_against] | rw [s_X12_against] | simp (disch := omega) only [w32_i, Int.add_sub_cancel, mc64, mc24, mc6, mc8, mc5] | rw [p1, y_fits _ V _ hkin.1 hkin.2.1 _ _ (by omega) (by omega) (by omega)] | rw [y_takes _ V h (by omega) (by omega) (by omega)] | rw [y_tellUsual _ V _ (by omega) (by omega) (by omega) (by omega), p4]))
  (repeat' (first | rfl | rw [ci_r] | rw [cl_r] | rw [cv_r] | rw [ite_b2] | rw [ite_b21] | rw [if_pos (by omega)] | rw [if_neg (by omega)] | rw [y_kindsHas] | rw [y_isKind _ _ _ (by omega)] | rw [y_valHas] | rw [y_isProp _ _ _ (by omega)] | rw [y_thgHas] | rw [y_isThing _ _ _ (by omega)] | rw [y_inRange] | rw [y_in] | rw [s_X11_faulted] | rw [s_X12_faulty] | rw [s_X11_against] | rw [s_X12_against] | simp (disch := omega) only [w32_i, Int.add_sub_cancel, mc64, mc24, mc6, mc8, mc5] | fail | split))
theorem r_usual (d : Nat) (V : XM) (a b c : Int) {B : Nat → Int} (hb : RB V B) (ck1 : 6 ≤ (V 14 0 1)) (ck2 : (V 14 0 1) ≤ 24) (cp1 : 0 ≤ (V 14 0 3)) (cp2 : (V 14 0 3) ≤ 12) : Yf (d + 30) 202 [xr 14 0, xi a, xi b, xl c] V = if ¬ (0 ≤ a ∧ a < (V 14 0 1)) ∨ ¬ (0 ≤ b ∧ b < (V 14 0 3)) then some (xi (-1), V) else if ¬ ((V 69 0 (b.toNat)) ≠ 8 ∨ c = -9 ∨ (0 ≤ c ∧ c < (V 14 0 9))) then some (xi (-1), V) else if ¬ (kfit (V 67 0) a (V 68 0 (b.toNat)) = true) then some (xi (-3), V) else if ¬ ((V 69 0 (b.toNat)) ≠ 8 ∨ c = -9 ∨ kfit (V 67 0) (B (c.toNat)) (V 70 0 (b.toNat)) = true) then some (xi (-14), xu V 14 0 0 4) else some (xi 1, xu (xu V 71 0 (12 * a + b).toNat 1) 72 0 (12 * a + b).toNat (toldF (V 69 0 (b.toNat)) c)) := by
  rw [s_X12_usual]
  obtain ⟨hp, ct1, ct2, h6⟩ := id hb
  by_cases i1 : ¬ (0 ≤ a ∧ a < (V 14 0 1)) ∨ ¬ (0 ≤ b ∧ b < (V 14 0 3))
  · (repeat' (first | rfl | rw [ci_r] | rw [cl_r] | rw [cv_r] | rw [ite_b2] | rw [ite_b21] | rw [if_pos (by omega)] | rw [if_neg (by omega)] | rw [y_kindsHas] | rw [y_isKind _ _ _ (by omega)] | rw [y_valHas] | rw [y_isProp _ _ _ (by omega)] | rw [y_thgHas] | rw [y_isThing _ _ _ (by omega)] | rw [y_inRange] | rw [y_in] | rw [s_X11_faulted] | rw [s_X12_faulty] | rw [s_X11_against] | rw [s_X12_against] | simp (disch := omega) only [w32_i, Int.add_sub_cancel, mc64, mc24, mc6, mc8, mc5] | fail | split))
  rw [if_neg i1]
  (repeat (first | rw [ci_r] | rw [cl_r] | rw [cv_r] | rw [ite_b2] | rw [ite_b21] | rw [if_pos (by omega)] | rw [if_neg (by omega)] | rw [y_kindsHas] | rw [y_isKind _ _ _ (by omega)] | rw [y_valHas] | rw [y_isProp _ _ _ (by omega)] | rw [y_thgHas] | rw [y_isThing _ _ _ (by omega)] | rw [y_inRange] | rw [y_in] | rw [s_X11_faulted] | rw [s_X12_faulty] | rw [s_X11_against] | rw [s_X12_against] | simp (disch := omega) only [w32_i, Int.add_sub_cancel, mc64, mc24, mc6, mc8, mc5] | rw [y_unknown _ V _ (by omega) (by omega) (by omega) (by omega)]))
  by_cases i2 : ¬ ((V 69 0 (b.toNat)) ≠ 8 ∨ c = -9 ∨ (0 ≤ c ∧ c < (V 14 0 9)))
  · (repeat' (first | rfl | rw [ci_r] | rw [cl_r] | rw [cv_r] | rw [ite_b2] | rw [ite_b21] | rw [if_pos (by omega)] | rw [if_neg (by omega)] | rw [y_kindsHas] | rw [y_isKind _ _ _ (by omega)] | rw [y_valHas] | rw [y_isProp _ _ _ (by omega)] | rw [y_thgHas] | rw [y_isThing _ _ _ (by omega)] | rw [y_inRange] | rw [y_in] | rw [s_X11_faulted] | rw [s_X12_faulty] | rw [s_X11_against] | rw [s_X12_against] | simp (disch := omega) only [w32_i, Int.add_sub_cancel, mc64, mc24, mc6, mc8, mc5] | fail | split))
  (repeat (first | rw [ci_r] | rw [cl_r] | rw [cv_r] | rw [ite_b2] | rw [ite_b21] | rw [if_pos (by omega)] | rw [if_neg (by omega)] | rw [y_kindsHas] | rw [y_isKind _ _ _ (by omega)] | rw [y_valHas] | rw [y_isProp _ _ _ (by omega)] | rw [y_thgHas] | rw [y_isThing _ _ _ (by omega)] | rw [y_inRange] | rw [y_in] | rw [s_X11_faulted] | rw [s_X12_faulty] | rw [s_X11_against] | rw [s_X12_against] | simp (disch := omega) only [w32_i, Int.add_sub_cancel, mc64, mc24, mc6, mc8, mc5] | rw [y_comesTo _ V hp _ _ (by omega) (by omega)] | rw [y_stored _ V hb (by omega) (by omega) (by omega) (by omega)]))
  (repeat' (first | rfl | rw [ci_r] | rw [cl_r] | rw [cv_r] | rw [ite_b2] | rw [ite_b21] | rw [if_pos (by omega)] | rw [if_neg (by omega)] | rw [y_kindsHas] | rw [y_isKind _ _ _ (by omega)] | rw [y_valHas] | rw [y_isProp _ _ _ (by omega)] | rw [y_thgHas] | rw [y_isThing _ _ _ (by omega)] | rw [y_inRange] | rw [y_in] | rw [s_X11_faulted] | rw [s_X12_faulty] | rw [s_X11_against] | rw [s_X12_against] | simp (disch := omega) only [w32_i, Int.add_sub_cancel, mc64, mc24, mc6, mc8, mc5] | rw [y_cell] | split))
theorem g_usual (d : Nat) (V : XM) (h : Inv V) (a b c : Int) : AG d 127 202 [xi a, xi b, xl c] V := by
  have h' := h
  obtain ⟨⟨ck1, ck2, ck3, cp1, cp2, cp3, ct1, ct2, ct3, cs1, cs2, cs3, cq1, cq2, cq3, cr1, cr2, cr3, cf1, cf2, cf3, cb1, cb2, cb3, cw1, cw2, cw3, clf, clc⟩, hkin, hpro, husu, hgiv, hthg, hhom, hput, hrin, hsen, hbar, hset, hmos, hpai, hrel, hmap, hdoo, hshe, htab, hwor⟩ := h'
  have hC := c_usual d V h a b c
  by_cases i1 : ¬ (0 ≤ a ∧ a < (V 14 0 1)) ∨ ¬ (0 ≤ b ∧ b < (V 14 0 3))
  · exact AG.no h (hC.trans (if_pos i1)) ((r_usual d _ a b c (by exact h.rb) (by exact ck1) (by exact ck2) (by exact cp1) (by exact cp2)).trans (if_pos (by exact i1)))
  rw [if_neg i1] at hC
  by_cases i2 : ¬ ((V 69 0 (b.toNat)) ≠ 8 ∨ c = -9 ∨ (0 ≤ c ∧ c < (V 14 0 9)))
  · exact AG.no h (hC.trans (if_pos i2)) ((r_usual d _ a b c (by exact h.rb) (by exact ck1) (by exact ck2) (by exact cp1) (by exact cp2)).trans ((if_neg (by exact i1)).trans (if_pos (by exact i2))))
  rw [if_neg i2] at hC
  by_cases i3 : ¬ (kfit (V 67 0) a (V 68 0 (b.toNat)) = true)
  · exact AG.no h (hC.trans (if_pos i3)) ((r_usual d _ a b c (by exact h.rb) (by exact ck1) (by exact ck2) (by exact cp1) (by exact cp2)).trans ((if_neg (by exact i1)).trans ((if_neg (by exact i2)).trans (if_pos (by exact i3)))))
  rw [if_neg i3] at hC
  by_cases i4 : ¬ ((V 69 0 (b.toNat)) ≠ 8 ∨ c = -9 ∨ kfit (V 67 0) (V 21 0 (c.toNat)) (V 70 0 (b.toNat)) = true)
  · exact AG.flt h (hC.trans (if_pos i4)) ((r_usual d _ a b c (by exact h.rb) (by exact ck1) (by exact ck2) (by exact cp1) (by exact cp2)).trans ((if_neg (by exact i1)).trans ((if_neg (by exact i2)).trans ((if_neg (by exact i3)).trans (if_pos (by exact i4))))))
  rw [if_neg i4] at hC
  refine AG.mk hC ((r_usual d _ a b c (by exact h.rb) (by exact ck1) (by exact ck2) (by exact cp1) (by exact cp2)).trans ((if_neg (by exact i1)).trans ((if_neg (by exact i2)).trans ((if_neg (by exact i3)).trans (if_neg (by exact i4)))))) ?_ rfl
  exact Inv.usu h (by omega) (by omega) (by omega) (by omega) (by omega)

/-! counting -/
theorem cnt_b (f : Nat → Bool) : ∀ n : Nat, 0 ≤ cnt f n ∧ cnt f n ≤ n := by
  intro n
  induction n with
  | zero => exact ⟨Int.le_refl _, Int.le_refl _⟩
  | succ n ih => unfold cnt; split <;> omega
theorem cnt_s (f : Nat → Bool) {l : Int} (h : 0 ≤ l) : cnt f (l + 1).toNat = cnt f l.toNat + (if f l.toNat then 1 else 0) := by
  rw [show (l + 1).toNat = l.toNat + 1 by omega]; rfl
theorem cnt_congr {f g : Nat → Bool} : ∀ {n : Nat}, (∀ k, k < n → f k = g k) → cnt f n = cnt g n := by
  intro n
  induction n with
  | zero => intro _; rfl
  | succ n ih =>
    intro h
    unfold cnt
    rw [ih (fun k hk => h k (by omega)), h n (by omega)]
def unsB (V : XM) (t : Nat) : Bool := decide ((V 81 0 t) ≠ 0 ∧ (V 80 0 t) = 0)
theorem y_cUns (d : Nat) (V : XM) (h : Inv V) {t : Int} (h0 : 0 ≤ t) (h1 : t < (V 14 0 9)) : Yf (d + 2) 25 [xr 7 0, xi t] V = some (xi (b2 (unsB V t.toNat = true)), V) := by
  obtain ⟨⟨ck1, ck2, ck3, cp1, cp2, cp3, ct1, ct2, ct3, cs1, cs2, cs3, cq1, cq2, cq3, cr1, cr2, cr3, cf1, cf2, cf3, cb1, cb2, cb3, cw1, cw2, cw3, clf, clc⟩, hkin, hpro, husu, hgiv, hthg, hhom, hput, hrin, hsen, hbar, hset, hmos, hpai, hrel, hmap, hdoo, hshe, htab, hwor⟩ := h
  obtain ⟨s1, s2, s3, s4, s5⟩ := hset t h0 h1
  obtain ⟨o1, o2, o3, o4, o5, o6⟩ := hhom t h0 h1
  rw [s_X1_isUnsettled, s_X1_isLaid]
  unfold b2 unsB
  simp only [decide_eq_true_eq]
  (repeat' (first | rfl | rw [ci_r] | rw [cl_r] | rw [cv_r] | rw [ite_b2] | rw [ite_b21] | rw [if_pos (by omega)] | rw [if_neg (by omega)] | rw [y_kindsHas] | rw [y_isKind _ _ _ (by omega)] | rw [y_valHas] | rw [y_isProp _ _ _ (by omega)] | rw [y_thgHas] | rw [y_isThing _ _ _ (by omega)] | rw [y_inRange] | rw [y_in] | rw [s_X11_faulted] | rw [s_X12_faulty] | rw [s_X11_against] | rw [s_X12_against] | simp (disch := omega) only [w32_i, Int.add_sub_cancel, mc64, mc24, mc6, mc8, mc5] | fail | split))
  (all_goals first | rfl | (exfalso; omega))
theorem y_rUns (d : Nat) (V : XM) {t : Int} (h0 : 0 ≤ t) (h1 : t < 64) : Yf (d + 1) 243 [xr 14 0, xi t] V = some (xi (b2 (unsB V t.toNat = true)), V) := by
  rw [s_X12_isUnsettled]
  unfold b2 unsB
  simp only [decide_eq_true_eq, cmp3_eq]
  (repeat' (first | rfl | rw [ci_r] | rw [cl_r] | rw [cv_r] | rw [ite_b2] | rw [ite_b21] | rw [if_pos (by omega)] | rw [if_neg (by omega)] | rw [y_kindsHas] | rw [y_isKind _ _ _ (by omega)] | rw [y_valHas] | rw [y_isProp _ _ _ (by omega)] | rw [y_thgHas] | rw [y_isThing _ _ _ (by omega)] | rw [y_inRange] | rw [y_in] | rw [s_X11_faulted] | rw [s_X12_faulty] | rw [s_X11_against] | rw [s_X12_against] | simp (disch := omega) only [w32_i, Int.add_sub_cancel, mc64, mc24, mc6, mc8, mc5] | fail | split))
  (all_goals first | rfl | (exfalso; omega))
theorem x_cUns (d : Nat) (V : XM) (h : Inv V) : ∀ (m : Nat) (l c : Int), ((V 14 0 9) - l).toNat ≤ m → 0 ≤ l → l ≤ (V 14 0 9) → c = cnt (unsB V) l.toNat → Xf (d + 2) 26 4 [xr 7 0, xi c, xi l] [] V = some (xi (cnt (unsB V) (V 14 0 9).toNat), V) := by
  have h' := h
  obtain ⟨⟨ck1, ck2, ck3, cp1, cp2, cp3, ct1, ct2, ct3, cs1, cs2, cs3, cq1, cq2, cq3, cr1, cr2, cr3, cf1, cf2, cf3, cb1, cb2, cb3, cw1, cw2, cw3, clf, clc⟩, hkin, hpro, husu, hgiv, hthg, hhom, hput, hrin, hsen, hbar, hset, hmos, hpai, hrel, hmap, hdoo, hshe, htab, hwor⟩ := h'
  intro m
  induction m with
  | zero =>
    intro l c hm h0 h1 hc
    rw [s_X1_unsettled_4, if_neg (by omega), hc, show l = (V 14 0 9) by omega]
  | succ m ih =>
    intro l c hm h0 h1 hc
    rw [s_X1_unsettled_4]
    by_cases hl : l < (V 14 0 9)
    · have hcb := cnt_b (unsB V) l.toNat
      have hs := cnt_s (unsB V) h0
      rw [if_pos (by omega), y_cUns _ V h h0 hl, ci_r, ite_b2, w32_i (by omega) (by omega), w32_i (by omega) (by omega)]
      by_cases hu : unsB V l.toNat = true
      · rw [if_pos hu]
        rw [if_pos hu] at hs
        exact ih _ _ (by omega) (by omega) (by omega) (by omega)
      · rw [if_neg hu]
        rw [if_neg hu] at hs
        exact ih _ _ (by omega) (by omega) (by omega) (by omega)
    · rw [if_neg (by omega), hc, show l = (V 14 0 9) by omega]
theorem x_rUns (d : Nat) (V : XM) (ct2 : (V 14 0 9) ≤ 64) : ∀ (m : Nat) (l c : Int), ((V 14 0 9) - l).toNat ≤ m → 0 ≤ l → l ≤ (V 14 0 9) → c = cnt (unsB V) l.toNat → Xf (d + 1) 244 4 [xr 14 0, xi c, xi l] [] V = some (xi (cnt (unsB V) (V 14 0 9).toNat), V) := by
  intro m
  induction m with
  | zero =>
    intro l c hm h0 h1 hc
    rw [s_X12_unsettled_4, if_neg (by omega), hc, show l = (V 14 0 9) by omega]
  | succ m ih =>
    intro l c hm h0 h1 hc
    rw [s_X12_unsettled_4]
    by_cases hl : l < (V 14 0 9)
    · have hcb := cnt_b (unsB V) l.toNat
      have hs := cnt_s (unsB V) h0
      rw [if_pos (by omega), y_rUns _ V h0 (by omega), ci_r, ite_b2, w32_i (by omega) (by omega), w32_i (by omega) (by omega), w32_i (by omega) (by omega)]
      by_cases hu : unsB V l.toNat = true
      · rw [if_pos hu]
        rw [if_pos hu] at hs
        exact ih _ _ (by omega) (by omega) (by omega) (by omega)
      · rw [if_neg hu]
        rw [if_neg hu] at hs
        exact ih _ _ (by omega) (by omega) (by omega) (by omega)
    · rw [if_neg (by omega), hc, show l = (V 14 0 9) by omega]
theorem y_cUnsettled (d : Nat) (V : XM) (h : Inv V) : Yf (d + 3) 26 [xr 7 0] V = some (xi (cnt (unsB V) (V 14 0 9).toNat), V) := by
  have h' := h
  obtain ⟨⟨ck1, ck2, ck3, cp1, cp2, cp3, ct1, ct2, ct3, cs1, cs2, cs3, cq1, cq2, cq3, cr1, cr2, cr3, cf1, cf2, cf3, cb1, cb2, cb3, cw1, cw2, cw3, clf, clc⟩, hkin, hpro, husu, hgiv, hthg, hhom, hput, hrin, hsen, hbar, hset, hmos, hpai, hrel, hmap, hdoo, hshe, htab, hwor⟩ := h'
  rw [s_X1_unsettled]
  exact x_cUns d V h 64 0 0 (by omega) (by omega) (by omega) rfl
theorem y_rUnsettled (d : Nat) (V : XM) (ct1 : 0 ≤ (V 14 0 9)) (ct2 : (V 14 0 9) ≤ 64) : Yf (d + 2) 244 [xr 14 0] V = some (xi (cnt (unsB V) (V 14 0 9).toNat), V) := by
  rw [s_X12_unsettled]
  exact x_rUns d V ct2 64 0 0 (by omega) (by omega) (by omega) rfl
theorem g_count (d : Nat) (V : XM) (h : Inv V) (a : Int) : AG d 183 305 [xi a] V := by
  have h' := h
  obtain ⟨⟨ck1, ck2, ck3, cp1, cp2, cp3, ct1, ct2, ct3, cs1, cs2, cs3, cq1, cq2, cq3, cr1, cr2, cr3, cf1, cf2, cf3, cb1, cb2, cb3, cw1, cw2, cw3, clf, clc⟩, hkin, hpro, husu, hgiv, hthg, hhom, hput, hrin, hsen, hbar, hset, hmos, hpai, hrel, hmap, hdoo, hshe, htab, hwor⟩ := h'
  by_cases e0 : a = 0
  · exact AG.no h (by rw [s_X11_count, if_pos (by omega), ck3]) (by rw [s_X12_count, if_pos (by omega)])
  by_cases e1 : a = 1
  · exact AG.no h (by rw [s_X11_count, if_neg (by omega), if_pos (by omega), cp3]) (by rw [s_X12_count, if_neg (by omega), if_pos (by omega)])
  by_cases e2 : a = 2
  · exact AG.no h (by rw [s_X11_count, if_neg (by omega), if_neg (by omega), if_pos (by omega), ct3]) (by rw [s_X12_count, if_neg (by omega), if_neg (by omega), if_pos (by omega)])
  by_cases e3 : a = 3
  · exact AG.no h (by rw [s_X11_count, if_neg (by omega), if_neg (by omega), if_neg (by omega), if_pos (by omega), cs3]) (by rw [s_X12_count, if_neg (by omega), if_neg (by omega), if_neg (by omega), if_pos (by omega)])
  by_cases e4 : a = 4
  · exact AG.no h (by rw [s_X11_count, if_neg (by omega), if_neg (by omega), if_neg (by omega), if_neg (by omega), if_pos (by omega), cr3]) (by rw [s_X12_count, if_neg (by omega), if_neg (by omega), if_neg (by omega), if_neg (by omega), if_pos (by omega)])
  by_cases e5 : a = 5
  · exact AG.no h (by rw [s_X11_count, if_neg (by omega), if_neg (by omega), if_neg (by omega), if_neg (by omega), if_neg (by omega), if_pos (by omega), cf3]) (by rw [s_X12_count, if_neg (by omega), if_neg (by omega), if_neg (by omega), if_neg (by omega), if_neg (by omega), if_pos (by omega)])
  by_cases e6 : a = 6
  · exact AG.no h (by rw [s_X11_count, if_neg (by omega), if_neg (by omega), if_neg (by omega), if_neg (by omega), if_neg (by omega), if_neg (by omega), if_pos (by omega), cb3]) (by rw [s_X12_count, if_neg (by omega), if_neg (by omega), if_neg (by omega), if_neg (by omega), if_neg (by omega), if_neg (by omega), if_pos (by omega)])
  by_cases e7 : a = 7
  · exact AG.no h (by rw [s_X11_count, if_neg (by omega), if_neg (by omega), if_neg (by omega), if_neg (by omega), if_neg (by omega), if_neg (by omega), if_neg (by omega), if_pos (by omega), y_cUnsettled _ V h, ci_r]) (by rw [s_X12_count, if_neg (by omega), if_neg (by omega), if_neg (by omega), if_neg (by omega), if_neg (by omega), if_neg (by omega), if_neg (by omega), if_pos (by omega), y_rUnsettled _ V ct1 ct2, ci_r])
  by_cases e8 : a = 8
  · exact AG.no h (by rw [s_X11_count, if_neg (by omega), if_neg (by omega), if_neg (by omega), if_neg (by omega), if_neg (by omega), if_neg (by omega), if_neg (by omega), if_neg (by omega), if_pos (by omega), cw3]) (by rw [s_X12_count, if_neg (by omega), if_neg (by omega), if_neg (by omega), if_neg (by omega), if_neg (by omega), if_neg (by omega), if_neg (by omega), if_neg (by omega), if_pos (by omega)])
  by_cases e9 : a = 9
  · exact AG.no h (by rw [s_X11_count, if_neg (by omega), if_neg (by omega), if_neg (by omega), if_neg (by omega), if_neg (by omega), if_neg (by omega), if_neg (by omega), if_neg (by omega), if_neg (by omega), if_pos (by omega), cq3]) (by rw [s_X12_count, if_neg (by omega), if_neg (by omega), if_neg (by omega), if_neg (by omega), if_neg (by omega), if_neg (by omega), if_neg (by omega), if_neg (by omega), if_neg (by omega), if_pos (by omega)])
  exact AG.no h (by rw [s_X11_count, if_neg (by omega), if_neg (by omega), if_neg (by omega), if_neg (by omega), if_neg (by omega), if_neg (by omega), if_neg (by omega), if_neg (by omega), if_neg (by omega), if_neg (by omega)]) (by rw [s_X12_count, if_neg (by omega), if_neg (by omega), if_neg (by omega), if_neg (by omega), if_neg (by omega), if_neg (by omega), if_neg (by omega), if_neg (by omega), if_neg (by omega), if_neg (by omega)])
theorem x_digest (d : Nat) (V : XM) (h : Inv V) : ∀ (m : Nat) (l c : Int), ((V 14 0 56) - l).toNat ≤ m → 0 ≤ l → l ≤ (V 14 0 56) → ∃ x, Xf d 181 6 [xr 2 0, xl c, xr 0 0, xi l] [] V = some (xl x, V) ∧ Xf d 303 6 [xr 14 0, xl c, xr 0 0, xi l] [] V = some (xl x, V) := by
  obtain ⟨⟨ck1, ck2, ck3, cp1, cp2, cp3, ct1, ct2, ct3, cs1, cs2, cs3, cq1, cq2, cq3, cr1, cr2, cr3, cf1, cf2, cf3, cb1, cb2, cb3, cw1, cw2, cw3, clf, clc⟩, hkin, hpro, husu, hgiv, hthg, hhom, hput, hrin, hsen, hbar, hset, hmos, hpai, hrel, hmap, hdoo, hshe, htab, hwor⟩ := h
  intro m
  induction m with
  | zero =>
    intro l c hm h0 h1
    exact ⟨c, by rw [s_X11_digest_6, if_neg (by omega)], by rw [s_X12_digest_6, if_neg (by omega)]⟩
  | succ m ih =>
    intro l c hm h0 h1
    by_cases hl : l < (V 14 0 56)
    · rw [s_X11_digest_6, s_X12_digest_6, if_pos (by omega), if_pos (by omega), if_pos (by omega), if_pos (by omega), hwor l h0 hl, w32_i (by omega) (by omega)]
      exact ih _ _ (by omega) (by omega) (by omega)
    · exact ⟨c, by rw [s_X11_digest_6, if_neg (by omega)], by rw [s_X12_digest_6, if_neg (by omega)]⟩
theorem g_digest (d : Nat) (V : XM) (h : Inv V) : AG d 181 303 [] V := by
  have h' := h
  obtain ⟨⟨ck1, ck2, ck3, cp1, cp2, cp3, ct1, ct2, ct3, cs1, cs2, cs3, cq1, cq2, cq3, cr1, cr2, cr3, cf1, cf2, cf3, cb1, cb2, cb3, cw1, cw2, cw3, clf, clc⟩, hkin, hpro, husu, hgiv, hthg, hhom, hput, hrin, hsen, hbar, hset, hmos, hpai, hrel, hmap, hdoo, hshe, htab, hwor⟩ := h'
  obtain ⟨x, e1, e2⟩ := x_digest (d + 29) V h 2000 0 17 (by omega) (by omega) (by omega)
  exact AG.no h ((s_X11_digest _ _).trans e1) ((s_X12_digest _ _).trans e2)
