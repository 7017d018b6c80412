/-! exits -/
theorem opp {b : Int} (h0 : 0 ≤ b) (h1 : b < 8) : 0 ≤ iXor b 1 ∧ iXor b 1 < 8 ∧ iXor b 1 ≠ b := by
  have : b = 0 ∨ b = 1 ∨ b = 2 ∨ b = 3 ∨ b = 4 ∨ b = 5 ∨ b = 6 ∨ b = 7 := by omega
  rcases this with e | e | e | e | e | e | e | e <;> subst e <;> decide
def cEx (V : XM) (e s t dd n : Int) : XM := xu (xu (xu (xu V 57 0 e.toNat s) 58 0 e.toNat t) 59 0 e.toNat dd) 60 0 e.toNat n
def rEx (V : XM) (e s t n dd : Int) : XM := xu (xu (xu (xu V 95 0 e.toNat s) 96 0 e.toNat t) 97 0 e.toNat n) 98 0 e.toNat dd
theorem y_cWrite (d : Nat) (V : XM) {e : Int} (s t dd n : Int) (h0 : 0 ≤ e) (h1 : e < 512) : Yf (d + 1) 51 [xr 11 0, xi e, xi s, xi t, xi dd, xi n] V = some (xi 0, cEx V e s t dd n) := by
  rw [s_X3_write, if_pos ⟨h0, h1⟩, if_pos ⟨h0, h1⟩, if_pos ⟨h0, h1⟩, if_pos ⟨h0, h1⟩]; rfl
theorem y_rLead (d : Nat) (V : XM) {e : Int} (s t n dd : Int) (h0 : 0 ≤ e) (h1 : e < 512) : Yf (d + 1) 269 [xr 14 0, xi e, xi s, xi t, xi n, xi dd] V = some (xi 0, rEx V e s t n dd) := by
  rw [s_X12_lead, if_pos ⟨h0, h1⟩, if_pos ⟨h0, h1⟩, if_pos ⟨h0, h1⟩, if_pos ⟨h0, h1⟩]; rfl
theorem I_map.set {V W : XM} (h : I_map V) {e s t n dd dc : Int} (he : 0 ≤ e ∧ e < 8 * (V 14 0 9)) (hs : 0 ≤ s ∧ s ≤ 4) (hn : (2 ≤ s ∧ 0 ≤ n) ∨ (s ≤ 1 ∧ n = -9)) (h4 : s = 0 ∨ s = 4 → t = -9) (h1 : 1 ≤ s ∧ s ≤ 3 → 0 ≤ t ∧ t < (V 14 0 9) ∧ (V 21 0 (t.toNat)) = 1) (h3 : s = 3 → 0 ≤ dd ∧ dd < (V 14 0 9)) (hd : dc = if s = 3 then dd else -9)
    (e57 : W 57 0 = zup (V 57 0) e.toNat s) (e58 : W 58 0 = zup (V 58 0) e.toNat t) (e59 : W 59 0 = zup (V 59 0) e.toNat dc) (e60 : W 60 0 = zup (V 60 0) e.toNat n) (e95 : W 95 0 = zup (V 95 0) e.toNat s) (e96 : W 96 0 = zup (V 96 0) e.toNat t) (e97 : W 97 0 = zup (V 97 0) e.toNat n) (e98 : W 98 0 = zup (V 98 0) e.toNat dd) (e21 : W 21 0 = V 21 0) (et : (W 14 0 9) = (V 14 0 9)) : I_map W := by
  unfold I_map
  rw [e57, e58, e59, e60, e95, e96, e97, e98, e21, et]
  intro x k1 k2
  by_cases hx : x = e
  · subst hx
    rw [zup_eq, zup_eq, zup_eq, zup_eq, zup_eq, zup_eq, zup_eq, zup_eq]
    exact ⟨fun k => by omega, fun _ => ⟨rfl, rfl, rfl, hd, hs.1, hs.2, hn, h4, h1, h3⟩⟩
  · have hne : x.toNat ≠ e.toNat := by omega
    rw [zup_ne hne, zup_ne hne, zup_ne hne, zup_ne hne, zup_ne hne, zup_ne hne, zup_ne hne, zup_ne hne]
    exact h x k1 k2
theorem y_sortOf (d : Nat) (V : XM) {a b : Int} (h0 : 0 ≤ a ∧ a < 64) (h1 : 0 ≤ b ∧ b < 8) : Yf (d + 1) 52 [xr 11 0, xi a, xi b] V = some (xi (V 57 0 ((8 * a + b).toNat)), V) := by
  have e : w32 (w32 (a * 8) + b) = 8 * a + b := by rw [w32_add, w32_i (by omega) (by omega)]; omega
  rw [s_X3_sortOf, e, if_pos (by omega)]
theorem y_leadsTo (d : Nat) (V : XM) {a b : Int} (h0 : 0 ≤ a ∧ a < 64) (h1 : 0 ≤ b ∧ b < 8) : Yf (d + 1) 53 [xr 11 0, xi a, xi b] V = some (xi (V 58 0 ((8 * a + b).toNat)), V) := by
  have e : w32 (w32 (a * 8) + b) = 8 * a + b := by rw [w32_add, w32_i (by omega) (by omega)]; omega
  rw [s_X3_leadsTo, e, if_pos (by omega)]
theorem y_toldIn (d : Nat) (V : XM) {a b : Int} (h0 : 0 ≤ a ∧ a < 64) (h1 : 0 ≤ b ∧ b < 8) : Yf (d + 1) 55 [xr 11 0, xi a, xi b] V = some (xi (V 60 0 ((8 * a + b).toNat)), V) := by
  have e : w32 (w32 (a * 8) + b) = 8 * a + b := by rw [w32_add, w32_i (by omega) (by omega)]; omega
  rw [s_X3_toldIn, e, if_pos (by omega)]
theorem y_isTold (d : Nat) (V : XM) {a b : Int} (h0 : 0 ≤ a ∧ a < 64) (h1 : 0 ≤ b ∧ b < 8) : Yf (d + 2) 54 [xr 11 0, xi a, xi b] V = some (xi (b2 (2 ≤ (V 57 0 ((8 * a + b).toNat)))), V) := by
  rw [s_X3_isTold, y_sortOf _ V h0 h1, ci_r]
  ((try unfold b2); (repeat' split) <;> first | rfl | (exfalso; omega))
theorem c_exit (d : Nat) (V : XM) (h : Inv V) {a b c : Int} (ia : 0 ≤ a ∧ a < (V 14 0 9) ∧ (V 21 0 (a.toNat)) = 1) (ic : c = -9 ∨ (0 ≤ c ∧ c < (V 14 0 9) ∧ (V 21 0 (c.toNat)) = 1)) (ib : 0 ≤ b ∧ b < 8) : Yf (d + 30) 155 [xr 2 0, xi a, xi b, xi c] V =
    if ((V 95 0 ((8 * a + b).toNat)) = 2 ∨ (V 95 0 ((8 * a + b).toNat)) = 4) ∧ (V 96 0 ((8 * a + b).toNat)) = c then some (xi (-3), V) else if (V 14 0 22) = 300 then some (xi (-4), V) else
    if 2 ≤ (V 95 0 ((8 * a + b).toNat)) then some (xi (w32 (-100 - (V 97 0 ((8 * a + b).toNat)))), V) else
    if c = -9 then some (xi (V 14 0 22), cEx (cTell V (V 14 0 22) 8 a b c) (8 * a + b) 4 c (-9) (V 14 0 22)) else
    if (V 95 0 ((8 * c + iXor b 1).toNat)) = 0 then some (xi (V 14 0 22), cEx (cEx (cTell V (V 14 0 22) 8 a b c) (8 * a + b) 2 c (-9) (V 14 0 22)) (8 * c + iXor b 1) 1 a (-9) (-9)) else
    some (xi (V 14 0 22), cEx (cTell V (V 14 0 22) 8 a b c) (8 * a + b) 2 c (-9) (V 14 0 22)) := by
  obtain ⟨⟨ck1, ck2, ck3, cp1, cp2, cp3, ct1, ct2, ct3, cs1, cs2, cs3, cq1, cq2, cq3, cr1, cr2, cr3, cf1, cf2, cf3, cb1, cb2, cb3, cw1, cw2, cw3, clf, clc⟩, hkin, hpro, husu, hgiv, hthg, hhom, hput, hrin, hsen, hbar, hset, hmos, hpai, hrel, hmap, hdoo, hshe, htab, hwor⟩ := h
  obtain ⟨p1, p2, p3⟩ := opp ib.1 ib.2
  have hm := (hmap (8 * a + b) (by omega) (by omega)).2 (by omega)
  have A1 := fun e => y_cRoom e V a (by omega)
  have A2 := fun e => y_cRoom e V c (by omega)
  have A3 := fun e => y_isTold e V (a := a) (b := b) (by omega) ib
  have A4 := fun e => y_sortOf e V (a := a) (b := b) (by omega) ib
  have A5 := fun e => y_leadsTo e V (a := a) (b := b) (by omega) ib
  have A6 := fun e => y_toldIn e V (a := a) (b := b) (by omega) ib
  rw [hm.1] at A3 A4
  rw [hm.2.1] at A5
  rw [hm.2.2.1] at A6
  have hb : c ≠ -9 → (V 57 0 ((8 * c + iXor b 1).toNat)) = (V 95 0 ((8 * c + iXor b 1).toNat)) := fun k => ((hmap (8 * c + iXor b 1) (by omega) (by omega)).2 (by omega)).1
  have ew : w32 (w32 (a * 8) + b) = 8 * a + b := by rw [w32_add, w32_i (by omega) (by omega)]; omega
  obtain ⟨q1, q2⟩ : 0 ≤ (V 95 0 ((8 * a + b).toNat)) ∧ (V 95 0 ((8 * a + b).toNat)) ≤ 4 := ⟨hm.2.2.2.2.1, hm.2.2.2.2.2.1⟩
  clear hm ck1 ck2 ck3 cp1 cp2 cp3 cq1 cq2 cq3 cr1 cr2 cr3 cf1 cf2 cf3 cb1 cb2 cb3 cw1 cw2 cw3 clf clc
  generalize e1 : (V 95 0 ((8 * a + b).toNat)) = so at *
  generalize e2 : (V 96 0 ((8 * a + b).toNat)) = en at *
  generalize e3 : (V 97 0 ((8 * a + b).toNat)) = ei at *
  have T1 : ∀ e, (V 14 0 22) < 300 → Yf (e + 3) 57 [xr 11 0, xi a, xi b, xi c, xi (V 14 0 22)] (cTell V (V 14 0 22) 8 a b c) = some (xi 0, if c = -9 then cEx (cTell V (V 14 0 22) 8 a b c) (8 * a + b) 4 c (-9) (V 14 0 22) else if (V 95 0 ((8 * c + iXor b 1).toNat)) = 0 then cEx (cEx (cTell V (V 14 0 22) 8 a b c) (8 * a + b) 2 c (-9) (V 14 0 22)) (8 * c + iXor b 1) 1 a (-9) (-9) else cEx (cTell V (V 14 0 22) 8 a b c) (8 * a + b) 2 c (-9) (V 14 0 22)) := by
    intro e hn
    rw [s_X3_tellExit, ew]
    by_cases hc : c = -9
    · rw [if_pos hc, if_pos hc, y_cWrite _ _ _ _ _ _ (by omega) (by omega), cv_r, if_pos hc]
    · rw [if_neg hc, if_neg hc, y_cWrite _ _ _ _ _ _ (by omega) (by omega), cv_r, if_neg hc, s_X3_opposite, ci_r, y_sortOf _ _ (by omega) ⟨p1, p2⟩, ci_r]
      have er : (cEx (cTell V (V 14 0 22) 8 a b c) (8 * a + b) 2 c (-9) (V 14 0 22)) 57 0 (8 * c + iXor b 1).toNat = (V 95 0 ((8 * c + iXor b 1).toNat)) := by
        have := xu_rw V 57 0 (8 * a + b).toNat 2
        show (xu V 57 0 (8 * a + b).toNat 2) 57 0 (8 * c + iXor b 1).toNat = _
        rw [this, zup_ne (by omega)]
        exact hb hc
      rw [er]
      have ew2 : w32 (w32 (c * 8) + iXor b 1) = 8 * c + iXor b 1 := by rw [w32_add, w32_i (by omega) (by omega)]; omega
      by_cases hz : (V 95 0 ((8 * c + iXor b 1).toNat)) = 0
      · rw [if_pos hz, if_pos hz, s_X3_opposite, ci_r, ew2, y_cWrite _ _ _ _ _ _ (by omega) (by omega), cv_r]
      · rw [if_neg hz, if_neg hz]
  have T2 : (if c = -9 then some (xi (V 14 0 22), cEx (cTell V (V 14 0 22) 8 a b c) (8 * a + b) 4 c (-9) (V 14 0 22)) else
    if (V 95 0 ((8 * c + iXor b 1).toNat)) = 0 then some (xi (V 14 0 22), cEx (cEx (cTell V (V 14 0 22) 8 a b c) (8 * a + b) 2 c (-9) (V 14 0 22)) (8 * c + iXor b 1) 1 a (-9) (-9)) else
    some (xi (V 14 0 22), cEx (cTell V (V 14 0 22) 8 a b c) (8 * a + b) 2 c (-9) (V 14 0 22)) : XR) = some (xi (V 14 0 22), if c = -9 then cEx (cTell V (V 14 0 22) 8 a b c) (8 * a + b) 4 c (-9) (V 14 0 22) else if (V 95 0 ((8 * c + iXor b 1).toNat)) = 0 then cEx (cEx (cTell V (V 14 0 22) 8 a b c) (8 * a + b) 2 c (-9) (V 14 0 22)) (8 * c + iXor b 1) 1 a (-9) (-9) else cEx (cTell V (V 14 0 22) 8 a b c) (8 * a + b) 2 c (-9) (V 14 0 22)) := by
    split
    · rfl
    · split <;> rfl
  rw [T2, s_X11_exit]
  generalize (if c = -9 then cEx (cTell V (V 14 0 22) 8 a b c) (8 * a + b) 4 c (-9) (V 14 0 22) else if (V 95 0 ((8 * c + iXor b 1).toNat)) = 0 then cEx (cEx (cTell V (V 14 0 22) 8 a b c) (8 * a + b) 2 c (-9) (V 14 0 22)) (8 * c + iXor b 1) 1 a (-9) (-9) else cEx (cTell V (V 14 0 22) 8 a b c) (8 * a + b) 2 c (-9) (V 14 0 22)) = X at *
  clear hb T2 p3 ew
  by_cases hc : c = -9
  · by_cases i1 : (so = 2 ∨ so = 4) ∧ en = c
    · (repeat (first | rw [ci_r] | rw [cl_r] | rw [cv_r] | rw [ite_b2] | rw [ite_b21] | rw [if_pos (by omega)] | rw [if_neg (by omega)] | rw [y_kindsHas] | rw [y_isKind _ _ _ (by omega)] | rw [y_valHas] | rw [y_isProp _ _ _ (by omega)] | rw [y_thgHas] | rw [y_isThing _ _ _ (by omega)] | rw [y_inRange] | rw [y_in] | rw [s_X11_faulted] | rw [s_X12_faulty] | rw [s_X11_against] | rw [s_X12_against] | simp (disch := omega) only [w32_i, Int.add_sub_cancel, mc64, mc24, mc6, mc8, mc5] | rw [A1] | rw [A3] | rw [A4] | rw [A5]))
    · by_cases i2 : (V 14 0 22) = 300
      · by_cases i3 : 2 ≤ so
        · by_cases i4 : so = 3
          all_goals (repeat (first | rw [ci_r] | rw [cl_r] | rw [cv_r] | rw [ite_b2] | rw [ite_b21] | rw [if_pos (by omega)] | rw [if_neg (by omega)] | rw [y_kindsHas] | rw [y_isKind _ _ _ (by omega)] | rw [y_valHas] | rw [y_isProp _ _ _ (by omega)] | rw [y_thgHas] | rw [y_isThing _ _ _ (by omega)] | rw [y_inRange] | rw [y_in] | rw [s_X11_faulted] | rw [s_X12_faulty] | rw [s_X11_against] | rw [s_X12_against] | simp (disch := omega) only [w32_i, Int.add_sub_cancel, mc64, mc24, mc6, mc8, mc5] | rw [A1] | rw [A3] | rw [A4] | rw [A5] | rw [y_full]))
        · (repeat (first | rw [ci_r] | rw [cl_r] | rw [cv_r] | rw [ite_b2] | rw [ite_b21] | rw [if_pos (by omega)] | rw [if_neg (by omega)] | rw [y_kindsHas] | rw [y_isKind _ _ _ (by omega)] | rw [y_valHas] | rw [y_isProp _ _ _ (by omega)] | rw [y_thgHas] | rw [y_isThing _ _ _ (by omega)] | rw [y_inRange] | rw [y_in] | rw [s_X11_faulted] | rw [s_X12_faulty] | rw [s_X11_against] | rw [s_X12_against] | simp (disch := omega) only [w32_i, Int.add_sub_cancel, mc64, mc24, mc6, mc8, mc5] | rw [A1] | rw [A3] | rw [y_full]))
      · by_cases i3 : 2 ≤ so
        · by_cases i4 : so = 3
          all_goals (repeat (first | rw [ci_r] | rw [cl_r] | rw [cv_r] | rw [ite_b2] | rw [ite_b21] | rw [if_pos (by omega)] | rw [if_neg (by omega)] | rw [y_kindsHas] | rw [y_isKind _ _ _ (by omega)] | rw [y_valHas] | rw [y_isProp _ _ _ (by omega)] | rw [y_thgHas] | rw [y_isThing _ _ _ (by omega)] | rw [y_inRange] | rw [y_in] | rw [s_X11_faulted] | rw [s_X12_faulty] | rw [s_X11_against] | rw [s_X12_against] | simp (disch := omega) only [w32_i, Int.add_sub_cancel, mc64, mc24, mc6, mc8, mc5] | rw [A1] | rw [A3] | rw [A4] | rw [A5] | rw [y_full] | rw [A6]))
        · (repeat (first | rw [ci_r] | rw [cl_r] | rw [cv_r] | rw [ite_b2] | rw [ite_b21] | rw [if_pos (by omega)] | rw [if_neg (by omega)] | rw [y_kindsHas] | rw [y_isKind _ _ _ (by omega)] | rw [y_valHas] | rw [y_isProp _ _ _ (by omega)] | rw [y_thgHas] | rw [y_isThing _ _ _ (by omega)] | rw [y_inRange] | rw [y_in] | rw [s_X11_faulted] | rw [s_X12_faulty] | rw [s_X11_against] | rw [s_X12_against] | simp (disch := omega) only [w32_i, Int.add_sub_cancel, mc64, mc24, mc6, mc8, mc5] | rw [A1] | rw [A3] | rw [y_full] | rw [y_sadd _ V _ _ _ _ cs3 (by omega) (by omega)] | rw [T1 _ (by omega)]))
  · by_cases i1 : (so = 2 ∨ so = 4) ∧ en = c
    · (repeat (first | rw [ci_r] | rw [cl_r] | rw [cv_r] | rw [ite_b2] | rw [ite_b21] | rw [if_pos (by omega)] | rw [if_neg (by omega)] | rw [y_kindsHas] | rw [y_isKind _ _ _ (by omega)] | rw [y_valHas] | rw [y_isProp _ _ _ (by omega)] | rw [y_thgHas] | rw [y_isThing _ _ _ (by omega)] | rw [y_inRange] | rw [y_in] | rw [s_X11_faulted] | rw [s_X12_faulty] | rw [s_X11_against] | rw [s_X12_against] | simp (disch := omega) only [w32_i, Int.add_sub_cancel, mc64, mc24, mc6, mc8, mc5] | rw [A1] | rw [A2] | rw [A3] | rw [A4] | rw [A5]))
    · by_cases i2 : (V 14 0 22) = 300
      · by_cases i3 : 2 ≤ so
        · by_cases i4 : so = 3
          all_goals (repeat (first | rw [ci_r] | rw [cl_r] | rw [cv_r] | rw [ite_b2] | rw [ite_b21] | rw [if_pos (by omega)] | rw [if_neg (by omega)] | rw [y_kindsHas] | rw [y_isKind _ _ _ (by omega)] | rw [y_valHas] | rw [y_isProp _ _ _ (by omega)] | rw [y_thgHas] | rw [y_isThing _ _ _ (by omega)] | rw [y_inRange] | rw [y_in] | rw [s_X11_faulted] | rw [s_X12_faulty] | rw [s_X11_against] | rw [s_X12_against] | simp (disch := omega) only [w32_i, Int.add_sub_cancel, mc64, mc24, mc6, mc8, mc5] | rw [A1] | rw [A2] | rw [A3] | rw [A4] | rw [A5] | rw [y_full]))
        · (repeat (first | rw [ci_r] | rw [cl_r] | rw [cv_r] | rw [ite_b2] | rw [ite_b21] | rw [if_pos (by omega)] | rw [if_neg (by omega)] | rw [y_kindsHas] | rw [y_isKind _ _ _ (by omega)] | rw [y_valHas] | rw [y_isProp _ _ _ (by omega)] | rw [y_thgHas] | rw [y_isThing _ _ _ (by omega)] | rw [y_inRange] | rw [y_in] | rw [s_X11_faulted] | rw [s_X12_faulty] | rw [s_X11_against] | rw [s_X12_against] | simp (disch := omega) only [w32_i, Int.add_sub_cancel, mc64, mc24, mc6, mc8, mc5] | rw [A1] | rw [A2] | rw [A3] | rw [y_full]))
      · by_cases i3 : 2 ≤ so
        · by_cases i4 : so = 3
          all_goals (repeat (first | rw [ci_r] | rw [cl_r] | rw [cv_r] | rw [ite_b2] | rw [ite_b21] | rw [if_pos (by omega)] | rw [if_neg (by omega)] | rw [y_kindsHas] | rw [y_isKind _ _ _ (by omega)] | rw [y_valHas] | rw [y_isProp _ _ _ (by omega)] | rw [y_thgHas] | rw [y_isThing _ _ _ (by omega)] | rw [y_inRange] | rw [y_in] | rw [s_X11_faulted] | rw [s_X12_faulty] | rw [s_X11_against] | rw [s_X12_against] | simp (disch := omega) only [w32_i, Int.add_sub_cancel, mc64, mc24, mc6, mc8, mc5] | rw [A1] | rw [A2] | rw [A3] | rw [A4] | rw [A5] | rw [y_full] | rw [A6]))
        · (repeat (first | rw [ci_r] | rw [cl_r] | rw [cv_r] | rw [ite_b2] | rw [ite_b21] | rw [if_pos (by omega)] | rw [if_neg (by omega)] | rw [y_kindsHas] | rw [y_isKind _ _ _ (by omega)] | rw [y_valHas] | rw [y_isProp _ _ _ (by omega)] | rw [y_thgHas] | rw [y_isThing _ _ _ (by omega)] | rw [y_inRange] | rw [y_in] | rw [s_X11_faulted] | rw [s_X12_faulty] | rw [s_X11_against] | rw [s_X12_against] | simp (disch := omega) only [w32_i, Int.add_sub_cancel, mc64, mc24, mc6, mc8, mc5] | rw [A1] | rw [A2] | rw [A3] | rw [y_full] | rw [y_sadd _ V _ _ _ _ cs3 (by omega) (by omega)] | rw [T1 _ (by omega)]))
theorem r_exit (d : Nat) (V : XM) {a b c : Int} {B : Nat → Int} (hb : RB V B) (cs1 : 0 ≤ (V 14 0 22)) (cs2 : (V 14 0 22) ≤ 300) (ia : 0 ≤ a ∧ a < (V 14 0 9) ∧ B a.toNat = 1) (ic : c = -9 ∨ (0 ≤ c ∧ c < (V 14 0 9) ∧ B c.toNat = 1)) (ib : 0 ≤ b ∧ b < 8) : Yf (d + 30) 270 [xr 14 0, xi a, xi b, xi c] V =
    if ((V 95 0 ((8 * a + b).toNat)) = 2 ∨ (V 95 0 ((8 * a + b).toNat)) = 4) ∧ (V 96 0 ((8 * a + b).toNat)) = c then some (xi (-3), V) else if (V 14 0 22) = 300 then some (xi (-4), V) else
    if 2 ≤ (V 95 0 ((8 * a + b).toNat)) then some (xi (w32 (-100 - (V 97 0 ((8 * a + b).toNat)))), V) else
    if c = -9 then some (xi (V 14 0 22), rEx (rTell V (V 14 0 22) 8 a b c) (8 * a + b) 4 c (V 14 0 22) (-9)) else
    if (V 95 0 ((8 * c + iXor b 1).toNat)) = 0 then some (xi (V 14 0 22), rEx (rEx (rTell V (V 14 0 22) 8 a b c) (8 * a + b) 2 c (V 14 0 22) (-9)) (8 * c + iXor b 1) 1 a (-9) (-9)) else
    some (xi (V 14 0 22), rEx (rTell V (V 14 0 22) 8 a b c) (8 * a + b) 2 c (V 14 0 22) (-9)) := by
  obtain ⟨hp, ct1, ct2, h6⟩ := id hb
  obtain ⟨p1, p2, p3⟩ := opp ib.1 ib.2
  have A1 := fun e => y_rRoom e V hb a
  have A2 := fun e => y_rRoom e V hb c
  have ew : w32 (w32 (8 * a) + b) = 8 * a + b := by rw [w32_add, w32_i (by omega) (by omega)]
  rw [s_X12_exit, ew]
  have T1 : ∀ e, Xf (e + 3) 270 83 [xr 14 0, xi a, xi b, xi c, xi (8 * a + b), xr 0 0, xr 0 0] [] V = if (V 14 0 22) = 300 then some (xi (-4), V) else
    if 2 ≤ (V 95 0 ((8 * a + b).toNat)) then some (xi (w32 (-100 - (V 97 0 ((8 * a + b).toNat)))), V) else
    if c = -9 then some (xi (V 14 0 22), rEx (rTell V (V 14 0 22) 8 a b c) (8 * a + b) 4 c (V 14 0 22) (-9)) else
    if (V 95 0 ((8 * c + iXor b 1).toNat)) = 0 then some (xi (V 14 0 22), rEx (rEx (rTell V (V 14 0 22) 8 a b c) (8 * a + b) 2 c (V 14 0 22) (-9)) (8 * c + iXor b 1) 1 a (-9) (-9)) else
    some (xi (V 14 0 22), rEx (rTell V (V 14 0 22) 8 a b c) (8 * a + b) 2 c (V 14 0 22) (-9)) := by
    intro e
    rw [s_X12_exit_83]
    by_cases i1 : (V 14 0 22) = 300
    · rw [if_pos i1, if_pos i1]
    rw [if_neg i1, if_neg i1, if_pos (by omega)]
    by_cases i2 : 2 ≤ (V 95 0 ((8 * a + b).toNat))
    · rw [if_pos (by omega), if_pos (by omega), if_pos i2, s_X12_against, ci_r]
    rw [if_neg (by omega), if_neg i2, y_tell _ V _ _ _ _ rfl cs1 (by omega), ci_r]
    by_cases hc : c = -9
    · rw [if_pos hc, if_pos hc, s_X12_exit_143, y_rLead _ _ _ _ _ _ (by omega) (by omega), cv_r, if_pos hc]
    · rw [if_neg hc, if_neg hc, s_X12_exit_143, y_rLead _ _ _ _ _ _ (by omega) (by omega), cv_r, if_neg hc]
      have er : (rEx (rTell V (V 14 0 22) 8 a b c) (8 * a + b) 2 c (V 14 0 22) (-9)) 95 0 (8 * c + iXor b 1).toNat = (V 95 0 ((8 * c + iXor b 1).toNat)) := by
        have := xu_rw V 95 0 (8 * a + b).toNat 2
        show (xu V 95 0 (8 * a + b).toNat 2) 95 0 (8 * c + iXor b 1).toNat = _
        rw [this, zup_ne (by omega)]
      have ew2 : w32 (w32 (8 * c) + iXor b 1) = 8 * c + iXor b 1 := by rw [w32_add, w32_i (by omega) (by omega)]
      rw [ew2, if_pos (by omega), er]
      by_cases hz : (V 95 0 ((8 * c + iXor b 1).toNat)) = 0
      · rw [if_pos hz, if_pos hz, y_rLead _ _ _ _ _ _ (by omega) (by omega), cv_r]
      · rw [if_neg hz, if_neg hz]
  by_cases i0 : ((V 95 0 ((8 * a + b).toNat)) = 2 ∨ (V 95 0 ((8 * a + b).toNat)) = 4) ∧ (V 96 0 ((8 * a + b).toNat)) = c
  · rw [if_pos (c := ((V 95 0 ((8 * a + b).toNat)) = 2 ∨ (V 95 0 ((8 * a + b).toNat)) = 4) ∧ (V 96 0 ((8 * a + b).toNat)) = c) i0]
    clear T1
    by_cases hc : c = -9 <;> by_cases h2 : (V 95 0 ((8 * a + b).toNat)) = 2
    all_goals (repeat (first | rw [ci_r] | rw [cl_r] | rw [cv_r] | rw [ite_b2] | rw [ite_b21] | rw [if_pos (by omega)] | rw [if_neg (by omega)] | rw [y_kindsHas] | rw [y_isKind _ _ _ (by omega)] | rw [y_valHas] | rw [y_isProp _ _ _ (by omega)] | rw [y_thgHas] | rw [y_isThing _ _ _ (by omega)] | rw [y_inRange] | rw [y_in] | rw [s_X11_faulted] | rw [s_X12_faulty] | rw [s_X11_against] | rw [s_X12_against] | simp (disch := omega) only [w32_i, Int.add_sub_cancel, mc64, mc24, mc6, mc8, mc5] | rw [A1] | rw [A2]))
  · rw [if_neg (c := ((V 95 0 ((8 * a + b).toNat)) = 2 ∨ (V 95 0 ((8 * a + b).toNat)) = 4) ∧ (V 96 0 ((8 * a + b).toNat)) = c) i0]
    have T2 := T1 (d + 26)
    clear T1
    rw [← T2]
    clear T2
    by_cases hc : c = -9 <;> by_cases h2 : (V 95 0 ((8 * a + b).toNat)) = 2 <;> by_cases h4 : (V 95 0 ((8 * a + b).toNat)) = 4
    all_goals first | (exfalso; omega) | (repeat (first | rw [ci_r] | rw [cl_r] | rw [cv_r] | rw [ite_b2] | rw [ite_b21] | rw [if_pos (by omega)] | rw [if_neg (by omega)] | rw [y_kindsHas] | rw [y_isKind _ _ _ (by omega)] | rw [y_valHas] | rw [y_isProp _ _ _ (by omega)] | rw [y_thgHas] | rw [y_isThing _ _ _ (by omega)] | rw [y_inRange] | rw [y_in] | rw [s_X11_faulted] | rw [s_X12_faulty] | rw [s_X11_against] | rw [s_X12_against] | simp (disch := omega) only [w32_i, Int.add_sub_cancel, mc64, mc24, mc6, mc8, mc5] | rw [A1] | rw [A2]))
