/-! give -/
theorem y_otherwise (d : Nat) (V : XM) (h : Inv V) {t q : Int} (v : Int) (h0 : 0 ≤ t) (h1 : t < (V 14 0 9)) (h2 : 0 ≤ q) (h3 : q < (V 14 0 3)) : Yf (d + 2) 114 [xr 5 0, xi t, xi q, xl v] V = some (xi (b2 ((V 83 0 ((64 * q + t).toNat)) ≠ -9 ∧ (V 84 0 ((64 * q + t).toNat)) ≠ toldF (V 69 0 (q.toNat)) v)), V) := by
  obtain ⟨⟨ck1, ck2, ck3, cp1, cp2, cp3, ct1, ct2, ct3, cs1, cs2, cs3, cq1, cq2, cq3, cr1, cr2, cr3, cf1, cf2, cf3, cb1, cb2, cb3, cw1, cw2, cw3, clf, clc⟩, hkin, hpro, husu, hgiv, hthg, hhom, hput, hrin, hsen, hbar, hset, hmos, hpai, hrel, hmap, hdoo, hshe, htab, hwor⟩ := h
  obtain ⟨g1, g2, g3, g4⟩ := hgiv q t h2 h3 h0 (by omega)
  obtain ⟨p1, p2, p3, p4, _⟩ := hpro q h2 h3
  rw [s_X9_isGivenOtherwise, y_givenBy _ V h0 (by omega) h2 (by omega), ci_r, g1]
  by_cases hg : (V 83 0 ((64 * q + t).toNat)) = -9
  · rw [if_pos (by omega)]
    exact congrArg some (congrArg (fun x => (xi x, V)) (b2_0.mpr (fun k => k.1 hg)).symm)
  · rw [if_neg (by omega), y_givenCell _ V h0 (by omega) h2 (by omega), cl_r, if_pos (by omega), y_told, cl_r, (g4 hg).1, p4]
    simp only [cmp3_eq]
    unfold b2
    by_cases hv : (V 84 0 ((64 * q + t).toNat)) = toldF (V 69 0 (q.toNat)) v
    · rw [if_pos hv, if_neg (fun k => k.2 hv)]
    · rw [if_neg hv, if_pos ⟨hg, hv⟩]
def cGive (V : XM) (n a b x : Int) : XM := xu (xu (cTell V n 2 a b (-9)) 31 0 (64 * b + a).toNat x) 32 0 (64 * b + a).toNat n
def rGive (V : XM) (n a b x : Int) : XM := xu (rTell (xu V 84 0 (64 * b + a).toNat x) n 2 a b 0) 83 0 (64 * b + a).toNat n
theorem Inv.give {V : XM} (h : Inv V) {a b x : Int} (h0 : 0 ≤ a) (h1 : a < (V 14 0 9)) (h2 : 0 ≤ b) (h3 : b < (V 14 0 3)) (hn : (V 14 0 22) < 300) (h8 : (V 69 0 (b.toNat)) = 8 → x = -9 ∨ (0 ≤ x ∧ x < (V 14 0 9))) : Inv (rGive (cGive V (V 14 0 22) a b x) (V 14 0 22) a b x) := by
  obtain ⟨⟨ck1, ck2, ck3, cp1, cp2, cp3, ct1, ct2, ct3, cs1, cs2, cs3, cq1, cq2, cq3, cr1, cr2, cr3, cf1, cf2, cf3, cb1, cb2, cb3, cw1, cw2, cw3, clf, clc⟩, hkin, hpro, husu, hgiv, hthg, hhom, hput, hrin, hsen, hbar, hset, hmos, hpai, hrel, hmap, hdoo, hshe, htab, hwor⟩ := h
  have T : Told V (rGive (cGive V (V 14 0 22) a b x) (V 14 0 22) a b x) 2 (a) (b) (-9) (0) := ⟨xu_rw V 33 0 _ _, xu_rw V 34 0 _ _, xu_rw V 35 0 _ _, xu_rw V 36 0 _ _, xu_rw V 85 0 _ _, xu_rw V 86 0 _ _, xu_rw V 87 0 _ _, xu_rw V 88 0 _ _, rfl⟩
  refine ⟨⟨ck1, ck2, ck3, cp1, cp2, cp3, ct1, ct2, ct3, by show 0 ≤ (V 14 0 22) + 1; omega, by show (V 14 0 22) + 1 ≤ 300; omega, rfl, cq1, cq2, cq3, cr1, cr2, cr3, cf1, cf2, cf3, cb1, cb2, cb3, cw1, cw2, cw3, clf, clc⟩, hkin, hpro, husu, ?_, hthg, hhom, (I_put.tell hput T cs1 (by omega) rfl rfl rfl rfl rfl rfl), hrin, (I_sen.tell hsen T cs1 (by omega) (by omega) (by omega) (by omega) rfl), (I_bar.tell hbar T cs1 (by omega) rfl rfl), (I_set.tell hset T cs1 (by omega) rfl rfl rfl rfl rfl rfl), (I_mos.tell hmos T cs1 (by omega) rfl rfl rfl rfl rfl rfl rfl rfl), (I_pai.tell hpai T cs1 (by omega) rfl rfl rfl rfl rfl rfl rfl rfl rfl), (I_rel.tell hrel T cs1 (by omega) (by omega) rfl rfl rfl rfl rfl), hmap, (I_doo.tell hdoo T cs1 (by omega) rfl rfl), hshe, htab, hwor⟩
  have e31 : (rGive (cGive V (V 14 0 22) a b x) (V 14 0 22) a b x) 31 0 = zup (V 31 0) (64 * b + a).toNat x := xu_rw V 31 0 _ _
  have e32 : (rGive (cGive V (V 14 0 22) a b x) (V 14 0 22) a b x) 32 0 = zup (V 32 0) (64 * b + a).toNat (V 14 0 22) := xu_rw V 32 0 _ _
  have e83 : (rGive (cGive V (V 14 0 22) a b x) (V 14 0 22) a b x) 83 0 = zup (V 83 0) (64 * b + a).toNat (V 14 0 22) := xu_rw V 83 0 _ _
  have e84 : (rGive (cGive V (V 14 0 22) a b x) (V 14 0 22) a b x) 84 0 = zup (V 84 0) (64 * b + a).toNat x := xu_rw V 84 0 _ _
  have e69 : (rGive (cGive V (V 14 0 22) a b x) (V 14 0 22) a b x) 69 0 = V 69 0 := rfl
  have et : (rGive (cGive V (V 14 0 22) a b x) (V 14 0 22) a b x) 14 0 9 = V 14 0 9 := rfl
  intro q t g1 g2 g3 g4
  have g2' : q < (V 14 0 3) := g2
  rw [e31, e32, e83, e84, e69, et]
  by_cases hh : q = b ∧ t = a
  · obtain ⟨rfl, rfl⟩ := hh
    rw [zup_eq, zup_eq, zup_eq, zup_eq]
    exact ⟨rfl, .inr cs1, fun k => by omega, fun _ => ⟨rfl, h8⟩⟩
  · rw [zup_ne (by omega), zup_ne (by omega), zup_ne (by omega), zup_ne (by omega)]
    exact hgiv q t g1 g2 g3 g4
theorem c_give (d : Nat) (V : XM) (h : Inv V) (a b c : Int) (i1 : ¬ (¬ (0 ≤ a ∧ a < (V 14 0 9)) ∨ ¬ (0 ≤ b ∧ b < (V 14 0 3)))) (i2 : (V 69 0 (b.toNat)) ≠ 8 ∨ c = -9 ∨ (0 ≤ c ∧ c < (V 14 0 9))) : Yf (d + 30) 131 [xr 2 0, xi a, xi b, xl c] V =
    if ¬ (kfit (V 67 0) (V 73 0 (a.toNat)) (V 68 0 (b.toNat)) = true) then some (xi (-3), V) else if (V 14 0 22) = 300 then some (xi (-4), V) else
    if ¬ ((V 69 0 (b.toNat)) ≠ 8 ∨ c = -9 ∨ kfit (V 67 0) (V 21 0 (c.toNat)) (V 70 0 (b.toNat)) = true) then some (xi (-14), xu V 2 0 15 4) else
    if (V 83 0 ((64 * b + a).toNat)) ≠ -9 ∧ (V 84 0 ((64 * b + a).toNat)) ≠ toldF (V 69 0 (b.toNat)) c then some (xi (w32 (-100 - (V 83 0 ((64 * b + a).toNat)))), V) else
    some (xi (V 14 0 22), cGive V (V 14 0 22) a b (toldF (V 69 0 (b.toNat)) c)) := by
  have h' := h
  obtain ⟨⟨ck1, ck2, ck3, cp1, cp2, cp3, ct1, ct2, ct3, cs1, cs2, cs3, cq1, cq2, cq3, cr1, cr2, cr3, cf1, cf2, cf3, cb1, cb2, cb3, cw1, cw2, cw3, clf, clc⟩, hkin, hpro, husu, hgiv, hthg, hhom, hput, hrin, hsen, hbar, hset, hmos, hpai, hrel, hmap, hdoo, hshe, htab, hwor⟩ := h'
  obtain ⟨t1, t2, t3, _⟩ := hthg a (by omega) (by omega)
  obtain ⟨p1, p2, p3, p4, p5, p6, p7⟩ := hpro b (by omega) (by omega)
  obtain ⟨g1, g2, g3, g4⟩ := hgiv b a (by omega) (by omega) (by omega) (by omega)
  rw [s_X11_give]
  (repeat (first | rw [ci_r] | rw [cl_r] | rw [cv_r] | rw [ite_b2] | rw [ite_b21] | rw [if_pos (by omega)] | rw [if_neg (by omega)] | rw [y_kindsHas] | rw [y_isKind _ _ _ (by omega)] | rw [y_valHas] | rw [y_isProp _ _ _ (by omega)] | rw [y_thgHas] | rw [y_isThing _ _ _ (by omega)] | rw [y_inRange] | rw [y_in] | rw [s_X11_faulted] | rw [s_X12_faulty] | rw [s_X11_against] | rw [s_X12_against] | simp (disch := omega) only [w32_i, Int.add_sub_cancel, mc64, mc24, mc6, mc8, mc5] | rw [y_knows _ V _ (by omega) (by omega), p4, ct3] | rw [y_isFor _ V hkin (by omega) (by omega) (by omega) (by omega) (by omega) (by omega) (by omega), t1, p1]))
  by_cases i3 : kfit (V 67 0) (V 73 0 (a.toNat)) (V 68 0 (b.toNat)) = true
  · rw [if_pos i3, if_neg (fun k => k i3), y_full, ci_r, ite_b2]
    by_cases i4 : (V 14 0 22) = 300
    · rw [if_pos (by omega), if_pos i4]
    · rw [if_neg (by omega), if_neg i4, y_takes _ V h (by omega) (by omega) i2, ci_r, ite_b2]
      by_cases i5 : (V 69 0 (b.toNat)) ≠ 8 ∨ c = -9 ∨ kfit (V 67 0) (V 21 0 (c.toNat)) (V 70 0 (b.toNat)) = true
      · rw [if_pos i5, if_neg (fun k => k i5), y_otherwise _ V h _ (by omega) (by omega) (by omega) (by omega), ci_r, ite_b2]
        by_cases i6 : (V 83 0 ((64 * b + a).toNat)) ≠ -9 ∧ (V 84 0 ((64 * b + a).toNat)) ≠ toldF (V 69 0 (b.toNat)) c
        · rw [if_pos i6, if_pos i6, y_givenBy _ V (by omega) (by omega) (by omega) (by omega), ci_r, s_X11_against, ci_r, g1]
        · rw [if_neg i6, if_neg i6, y_sadd _ V _ _ _ _ cs3 (by omega) (by omega), ci_r]
          have e : w32 (w32 (b * 64) + a) = 64 * b + a := by rw [w32_add, w32_i (by omega) (by omega)]; omega
          rw [s_X9_tellGiven, if_pos (by omega), y_told, cl_r, e, if_pos (by omega), if_pos (by omega), cv_r]
          show some (xi (V 14 0 22), xu (xu (cTell V (V 14 0 22) 2 a b (-9)) 31 0 (64 * b + a).toNat (toldF (V 27 0 (b.toNat)) c)) 32 0 (64 * b + a).toNat (V 14 0 22)) = _
          rw [p4]
          rfl
      · rw [if_neg i5, if_pos i5, s_X11_faulted, ci_r]
        rfl
  · rw [if_neg i3, if_pos i3]
theorem r_give (d : Nat) (V : XM) (a b c : Int) {B : Nat → Int} (hb : RB V B) (ck1 : 6 ≤ (V 14 0 1)) (cp2 : (V 14 0 3) ≤ 12) (cp1 : 0 ≤ (V 14 0 3)) (cs1 : 0 ≤ (V 14 0 22)) (cs2 : (V 14 0 22) ≤ 300) (i1 : ¬ (¬ (0 ≤ a ∧ a < (V 14 0 9)) ∨ ¬ (0 ≤ b ∧ b < (V 14 0 3)))) (i2 : (V 69 0 (b.toNat)) ≠ 8 ∨ c = -9 ∨ (0 ≤ c ∧ c < (V 14 0 9))) : Yf (d + 30) 223 [xr 14 0, xi a, xi b, xl c] V =
    if ¬ (kfit (V 67 0) (V 73 0 (a.toNat)) (V 68 0 (b.toNat)) = true) then some (xi (-3), V) else if (V 14 0 22) = 300 then some (xi (-4), V) else
    if ¬ ((V 69 0 (b.toNat)) ≠ 8 ∨ c = -9 ∨ kfit (V 67 0) (B c.toNat) (V 70 0 (b.toNat)) = true) then some (xi (-14), xu V 14 0 0 4) else
    if (V 83 0 ((64 * b + a).toNat)) ≠ -9 ∧ (V 84 0 ((64 * b + a).toNat)) ≠ toldF (V 69 0 (b.toNat)) c then some (xi (w32 (-100 - (V 83 0 ((64 * b + a).toNat)))), V) else
    some (xi (V 14 0 22), rGive V (V 14 0 22) a b (toldF (V 69 0 (b.toNat)) c)) := by
  have hb' := hb
  obtain ⟨hp, ct1, ct2, h6⟩ := hb
  obtain ⟨t2, t3, _⟩ := h6 a (by omega) (by omega)
  have e : w32 (w32 (64 * b) + a) = 64 * b + a := by rw [w32_add, w32_i (by omega) (by omega)]
  rw [s_X12_give, e]
  (repeat (first | rw [ci_r] | rw [cl_r] | rw [cv_r] | rw [ite_b2] | rw [ite_b21] | rw [if_pos (by omega)] | rw [if_neg (by omega)] | rw [y_kindsHas] | rw [y_isKind _ _ _ (by omega)] | rw [y_valHas] | rw [y_isProp _ _ _ (by omega)] | rw [y_thgHas] | rw [y_isThing _ _ _ (by omega)] | rw [y_inRange] | rw [y_in] | rw [s_X11_faulted] | rw [s_X12_faulty] | rw [s_X11_against] | rw [s_X12_against] | simp (disch := omega) only [w32_i, Int.add_sub_cancel, mc64, mc24, mc6, mc8, mc5] | rw [y_unknown _ V _ (by omega) (by omega) (by omega) (by omega)] | rw [y_comesTo _ V hp _ _ (by omega) (by omega)]))
  by_cases i3 : kfit (V 67 0) (V 73 0 (a.toNat)) (V 68 0 (b.toNat)) = true
  · rw [if_pos i3, if_neg (c := ¬ (kfit (V 67 0) (V 73 0 (a.toNat)) (V 68 0 (b.toNat)) = true)) (fun k => k i3)]
    by_cases i4 : (V 14 0 22) = 300
    · rw [if_pos i4, if_pos i4]
    · rw [if_neg i4, if_neg i4, y_stored _ V hb' (by omega) (by omega) (by omega) i2, ci_r, ite_b2]
      by_cases i5 : (V 69 0 (b.toNat)) ≠ 8 ∨ c = -9 ∨ kfit (V 67 0) (B c.toNat) (V 70 0 (b.toNat)) = true
      · rw [if_pos i5, if_neg (c := ¬ ((V 69 0 (b.toNat)) ≠ 8 ∨ c = -9 ∨ kfit (V 67 0) (B c.toNat) (V 70 0 (b.toNat)) = true)) (fun k => k i5)]
        simp only [cmp3_eq]
        have ew : ∀ d, Yf (d + 1) 210 [xr 14 0, xi 2, xi a, xi b, xi 0] (xu V 84 0 (64 * b + a).toNat (toldF (V 69 0 (b.toNat)) c)) = some (xi (V 14 0 22), rTell (xu V 84 0 (64 * b + a).toNat (toldF (V 69 0 (b.toNat)) c)) (V 14 0 22) 2 a b 0) := fun d => y_tell d _ 2 a b 0 rfl cs1 (by show (V 14 0 22) < 300; omega)
        have ex : ∀ W : XM, (xu W 83 0 (64 * b + a).toNat (V 14 0 22)) 83 0 (64 * b + a).toNat = (V 14 0 22) := fun W => by rw [xu_rw, zup_eq]
        by_cases i6 : (V 83 0 ((64 * b + a).toNat)) = -9
        · rw [if_neg (c := (V 83 0 ((64 * b + a).toNat)) ≠ -9 ∧ (V 84 0 ((64 * b + a).toNat)) ≠ toldF (V 69 0 (b.toNat)) c) (fun k => k.1 i6)]
          (repeat (first | rw [ci_r] | rw [cl_r] | rw [cv_r] | rw [ite_b2] | rw [ite_b21] | rw [if_pos (by omega)] | rw [if_neg (by omega)] | rw [y_kindsHas] | rw [y_isKind _ _ _ (by omega)] | rw [y_valHas] | rw [y_isProp _ _ _ (by omega)] | rw [y_thgHas] | rw [y_isThing _ _ _ (by omega)] | rw [y_inRange] | rw [y_in] | rw [s_X11_faulted] | rw [s_X12_faulty] | rw [s_X11_against] | rw [s_X12_against] | simp (disch := omega) only [w32_i, Int.add_sub_cancel, mc64, mc24, mc6, mc8, mc5] | rw [y_cell] | rw [ew]))
          rw [ex]
          rfl
        · by_cases i7 : (V 84 0 ((64 * b + a).toNat)) = toldF (V 69 0 (b.toNat)) c
          · rw [if_neg (c := (V 83 0 ((64 * b + a).toNat)) ≠ -9 ∧ (V 84 0 ((64 * b + a).toNat)) ≠ toldF (V 69 0 (b.toNat)) c) (fun k => k.2 i7)]
            (repeat (first | rw [ci_r] | rw [cl_r] | rw [cv_r] | rw [ite_b2] | rw [ite_b21] | rw [if_pos (by omega)] | rw [if_neg (by omega)] | rw [y_kindsHas] | rw [y_isKind _ _ _ (by omega)] | rw [y_valHas] | rw [y_isProp _ _ _ (by omega)] | rw [y_thgHas] | rw [y_isThing _ _ _ (by omega)] | rw [y_inRange] | rw [y_in] | rw [s_X11_faulted] | rw [s_X12_faulty] | rw [s_X11_against] | rw [s_X12_against] | simp (disch := omega) only [w32_i, Int.add_sub_cancel, mc64, mc24, mc6, mc8, mc5] | rw [y_cell] | rw [ew]))
            rw [ex]
            rfl
          · rw [if_pos (c := (V 83 0 ((64 * b + a).toNat)) ≠ -9 ∧ (V 84 0 ((64 * b + a).toNat)) ≠ toldF (V 69 0 (b.toNat)) c) ⟨i6, i7⟩]
            (repeat (first | rw [ci_r] | rw [cl_r] | rw [cv_r] | rw [ite_b2] | rw [ite_b21] | rw [if_pos (by omega)] | rw [if_neg (by omega)] | rw [y_kindsHas] | rw [y_isKind _ _ _ (by omega)] | rw [y_valHas] | rw [y_isProp _ _ _ (by omega)] | rw [y_thgHas] | rw [y_isThing _ _ _ (by omega)] | rw [y_inRange] | rw [y_in] | rw [s_X11_faulted] | rw [s_X12_faulty] | rw [s_X11_against] | rw [s_X12_against] | simp (disch := omega) only [w32_i, Int.add_sub_cancel, mc64, mc24, mc6, mc8, mc5] | rw [y_cell] | rw [ew]))
      · rw [if_neg i5, if_pos i5, s_X12_faulty, ci_r]
        rfl
  · rw [if_neg i3, if_pos i3]
theorem g_give (d : Nat) (V : XM) (h : Inv V) (a b c : Int) : AG d 131 223 [xi a, xi b, xl c] V := by
  have h' := h
  obtain ⟨⟨ck1, ck2, ck3, cp1, cp2, cp3, ct1, ct2, ct3, cs1, cs2, cs3, cq1, cq2, cq3, cr1, cr2, cr3, cf1, cf2, cf3, cb1, cb2, cb3, cw1, cw2, cw3, clf, clc⟩, hkin, hpro, husu, hgiv, hthg, hhom, hput, hrin, hsen, hbar, hset, hmos, hpai, hrel, hmap, hdoo, hshe, htab, hwor⟩ := h'
  by_cases i1 : ¬ (0 ≤ a ∧ a < (V 14 0 9)) ∨ ¬ (0 ≤ b ∧ b < (V 14 0 3))
  · by_cases ia : 0 ≤ a ∧ a < (V 14 0 9)
    · exact AG.no (x := xi (-1)) h (by rw [s_X11_give]; (repeat (first | rw [ci_r] | rw [cl_r] | rw [cv_r] | rw [ite_b2] | rw [ite_b21] | rw [if_pos (by omega)] | rw [if_neg (by omega)] | rw [y_kindsHas] | rw [y_isKind _ _ _ (by omega)] | rw [y_valHas] | rw [y_isProp _ _ _ (by omega)] | rw [y_thgHas] | rw [y_isThing _ _ _ (by omega)] | rw [y_inRange] | rw [y_in] | rw [s_X11_faulted] | rw [s_X12_faulty] | rw [s_X11_against] | rw [s_X12_against] | simp (disch := omega) only [w32_i, Int.add_sub_cancel, mc64, mc24, mc6, mc8, mc5] | fail))) (by rw [s_X12_give]; (repeat (first | rw [ci_r] | rw [cl_r] | rw [cv_r] | rw [ite_b2] | rw [ite_b21] | rw [if_pos (by omega)] | rw [if_neg (by omega)] | rw [y_kindsHas] | rw [y_isKind _ _ _ (by omega)] | rw [y_valHas] | rw [y_isProp _ _ _ (by omega)] | rw [y_thgHas] | rw [y_isThing _ _ _ (by omega)] | rw [y_inRange] | rw [y_in] | rw [s_X11_faulted] | rw [s_X12_faulty] | rw [s_X11_against] | rw [s_X12_against] | simp (disch := omega) only [w32_i, Int.add_sub_cancel, mc64, mc24, mc6, mc8, mc5] | fail)))
    · exact AG.no (x := xi (-1)) h (by rw [s_X11_give]; (repeat (first | rw [ci_r] | rw [cl_r] | rw [cv_r] | rw [ite_b2] | rw [ite_b21] | rw [if_pos (by omega)] | rw [if_neg (by omega)] | rw [y_kindsHas] | rw [y_isKind _ _ _ (by omega)] | rw [y_valHas] | rw [y_isProp _ _ _ (by omega)] | rw [y_thgHas] | rw [y_isThing _ _ _ (by omega)] | rw [y_inRange] | rw [y_in] | rw [s_X11_faulted] | rw [s_X12_faulty] | rw [s_X11_against] | rw [s_X12_against] | simp (disch := omega) only [w32_i, Int.add_sub_cancel, mc64, mc24, mc6, mc8, mc5] | fail))) (by rw [s_X12_give]; (repeat (first | rw [ci_r] | rw [cl_r] | rw [cv_r] | rw [ite_b2] | rw [ite_b21] | rw [if_pos (by omega)] | rw [if_neg (by omega)] | rw [y_kindsHas] | rw [y_isKind _ _ _ (by omega)] | rw [y_valHas] | rw [y_isProp _ _ _ (by omega)] | rw [y_thgHas] | rw [y_isThing _ _ _ (by omega)] | rw [y_inRange] | rw [y_in] | rw [s_X11_faulted] | rw [s_X12_faulty] | rw [s_X11_against] | rw [s_X12_against] | simp (disch := omega) only [w32_i, Int.add_sub_cancel, mc64, mc24, mc6, mc8, mc5] | fail)))
  obtain ⟨p1, p2, p3, p4, p5, p6, p7⟩ := hpro b (by omega) (by omega)
  by_cases i2 : (V 69 0 (b.toNat)) ≠ 8 ∨ c = -9 ∨ (0 ≤ c ∧ c < (V 14 0 9))
  · have hC := c_give d V h a b c i1 i2
    have hR := fun W k1 k2 k3 k4 k5 k6 k7 k8 => r_give d W a b c (B := (V 21 0)) k1 k2 k3 k4 k5 k6 k7 k8
    have hR0 := hR V h.rb ck1 cp2 cp1 cs1 cs2 i1 i2
    by_cases i3 : ¬ (kfit (V 67 0) (V 73 0 (a.toNat)) (V 68 0 (b.toNat)) = true)
    · exact AG.no h (hC.trans (if_pos i3)) (hR0.trans (if_pos i3))
    rw [if_neg i3] at hC hR0
    by_cases i4 : (V 14 0 22) = 300
    · exact AG.no h (hC.trans (if_pos i4)) (hR0.trans (if_pos i4))
    rw [if_neg i4] at hC hR0
    by_cases i5 : ¬ ((V 69 0 (b.toNat)) ≠ 8 ∨ c = -9 ∨ kfit (V 67 0) (V 21 0 (c.toNat)) (V 70 0 (b.toNat)) = true)
    · exact AG.flt h (hC.trans (if_pos i5)) ((hR _ (by exact h.rb) (by exact ck1) (by exact cp2) (by exact cp1) (by exact cs1) (by exact cs2) (by exact i1) (by exact i2)).trans ((if_neg (by exact i3)).trans ((if_neg (by exact i4)).trans (if_pos (by exact i5)))))
    rw [if_neg i5] at hC hR0
    by_cases i6 : (V 83 0 ((64 * b + a).toNat)) ≠ -9 ∧ (V 84 0 ((64 * b + a).toNat)) ≠ toldF (V 69 0 (b.toNat)) c
    · exact AG.no h (hC.trans (if_pos i6)) (hR0.trans (if_pos i6))
    rw [if_neg i6] at hC hR0
    refine AG.mk hC ((hR _ (by exact h.rb) (by exact ck1) (by exact cp2) (by exact cp1) (by exact cs1) (by exact cs2) (by exact i1) (by exact i2)).trans ((if_neg (by exact i3)).trans ((if_neg (by exact i4)).trans ((if_neg (by exact i5)).trans (if_neg (by exact i6)))))) ?_ rfl
    refine Inv.give h (by omega) (by omega) (by omega) (by omega) (by omega) (fun e8 => ?_)
    rw [toldF_8 c e8]
    omega
  · exact AG.no (x := xi (-1)) h (by rw [s_X11_give]; (repeat (first | rw [ci_r] | rw [cl_r] | rw [cv_r] | rw [ite_b2] | rw [ite_b21] | rw [if_pos (by omega)] | rw [if_neg (by omega)] | rw [y_kindsHas] | rw [y_isKind _ _ _ (by omega)] | rw [y_valHas] | rw [y_isProp _ _ _ (by omega)] | rw [y_thgHas] | rw [y_isThing _ _ _ (by omega)] | rw [y_inRange] | rw [y_in] | rw [s_X11_faulted] | rw [s_X12_faulty] | rw [s_X11_against] | rw [s_X12_against] | simp (disch := omega) only [w32_i, Int.add_sub_cancel, mc64, mc24, mc6, mc8, mc5] | rw [y_knows _ V _ (by omega) (by omega), p4, ct3]))) (by rw [s_X12_give]; (repeat (first | rw [ci_r] | rw [cl_r] | rw [cv_r] | rw [ite_b2] | rw [ite_b21] | rw [if_pos (by omega)] | rw [if_neg (by omega)] | rw [y_kindsHas] | rw [y_isKind _ _ _ (by omega)] | rw [y_valHas] | rw [y_isProp _ _ _ (by omega)] | rw [y_thgHas] | rw [y_isThing _ _ _ (by omega)] | rw [y_inRange] | rw [y_in] | rw [s_X11_faulted] | rw [s_X12_faulty] | rw [s_X11_against] | rw [s_X12_against] | simp (disch := omega) only [w32_i, Int.add_sub_cancel, mc64, mc24, mc6, mc8, mc5] | rw [y_unknown _ V _ (by omega) (by omega) (by omega) (by omega)])))
