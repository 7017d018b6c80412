/-! what a put goes against -/
theorem y_hasMost (d : Nat) (V : XM) {w : Int} (h0 : 0 ≤ w) (h1 : w < 64) : Yf (d + 1) 29 [xr 7 0, xi w] V = some (xi (b2 (0 ≤ (V 45 0 (w.toNat)))), V) := by
  rw [s_X1_hasMost]
  ((try unfold b2); (repeat' split) <;> first | rfl | (exfalso; omega))
theorem y_crowded (d : Nat) (V : XM) {w : Int} (h0 : 0 ≤ w) (h1 : w < 64) : Yf (d + 2) 16 [xr 7 0, xi w] V = some (xi (b2 (0 ≤ (V 45 0 (w.toNat)) ∧ (V 44 0 (w.toNat)) ≤ (V 43 0 (w.toNat)))), V) := by
  rw [s_X1_isCrowded, y_hasMost _ V h0 h1, ci_r, ite_b2]
  ((try unfold b2); (repeat' split) <;> first | rfl | (exfalso; omega))
theorem bar_ff {V : XM} (h : Inv V) {t w : Int} (h0 : 0 ≤ t) (h1 : t < (V 14 0 9)) (h2 : 0 ≤ w) (h3 : w < (V 14 0 9)) : ff (senB V 1 t w) (V 14 0 22).toNat 0 = -9 ↔ bt (V 40 0 (t.toNat)) w.toNat = false := by
  obtain ⟨⟨ck1, ck2, ck3, cp1, cp2, cp3, ct1, ct2, ct3, cs1, cs2, cs3, cq1, cq2, cq3, cr1, cr2, cr3, cf1, cf2, cf3, cb1, cb2, cb3, cw1, cw2, cw3, clf, clc⟩, hkin, hpro, husu, hgiv, hthg, hhom, hput, hrin, hsen, hbar, hset, hmos, hpai, hrel, hmap, hdoo, hshe, htab, hwor⟩ := h
  have hb := hbar.2 t w h0 h1 h2 (by omega)
  rcases ff_spec (senB V 1 t w) (V 14 0 22).toNat 0 with ⟨x1, x2⟩ | ⟨s, x1, x2, x3, x4, x5⟩
  · refine ⟨fun _ => ?_, fun _ => x1⟩
    cases hz : bt (V 40 0 (t.toNat)) w.toNat with
    | false => rfl
    | true =>
      obtain ⟨s, y1, y2, y3, y4, y5⟩ := hb.mp hz
      have := x2 s.toNat (by omega) (by omega)
      unfold senB at this
      simp only [decide_eq_false_iff_not] at this
      exact absurd ⟨y3, y4, y5⟩ this
  · refine ⟨fun e => by omega, fun e => ?_⟩
    unfold senB at x4
    simp only [decide_eq_true_eq] at x4
    have := hb.mpr ⟨s, by omega, by omega, by rw [Int.toNat_natCast]; exact x4⟩
    rw [e] at this; cases this
def putF (V : XM) (B : Nat → Int) (t w : Int) : Int :=
  if B t.toNat ≠ 3 ∧ 0 < (V 80 0 (t.toNat)) then (V 79 0 ((6 * t).toNat))
  else if ff (senB V 1 t w) (V 14 0 22).toNat 0 ≠ -9 then ff (senB V 1 t w) (V 14 0 22).toNat 0
  else if (V 81 0 (t.toNat)) ≠ 0 ∧ bt (V 81 0 (t.toNat)) w.toNat = false then la (fun k => decide ((V 85 0 k) = 3 ∧ (V 86 0 k) = t)) (V 14 0 22).toNat
  else if B t.toNat ≠ 3 ∧ (V 82 0 (w.toNat)) ≠ -9 ∧ (V 87 0 ((V 82 0 (w.toNat)).toNat)) ≤ cnt (heB V B w) (V 14 0 9).toNat then (V 82 0 (w.toNat))
  else ff (rpB V t w) (V 14 0 22).toNat 0
theorem y_cAgainst (d : Nat) (V : XM) (h : Inv V) {t w : Int} (h0 : 0 ≤ t) (h1 : t < (V 14 0 9)) (h2 : 0 ≤ w) (h3 : w < (V 14 0 9)) (hf : ¬ ((V 21 0 (t.toNat)) = 1 ∨ (V 21 0 (t.toNat)) = 2)) : Yf (d + 5) 15 [xr 7 0, xi t, xi w] V = some (xi (putF V (V 21 0) t w), V) := by
  have h' := h
  obtain ⟨⟨ck1, ck2, ck3, cp1, cp2, cp3, ct1, ct2, ct3, cs1, cs2, cs3, cq1, cq2, cq3, cr1, cr2, cr3, cf1, cf2, cf3, cb1, cb2, cb3, cw1, cw2, cw3, clf, clc⟩, hkin, hpro, husu, hgiv, hthg, hhom, hput, hrin, hsen, hbar, hset, hmos, hpai, hrel, hmap, hdoo, hshe, htab, hwor⟩ := h'
  have hbf := bar_ff h h0 h1 h2 h3
  obtain ⟨o1, o2, o3, o4, o5, o6⟩ := hhom t h0 h1
  obtain ⟨s1, s2, s3, s4, s5⟩ := hset t h0 h1
  obtain ⟨q1, q2⟩ := hput.1 t h0 h1
  obtain ⟨m1, m2, m3, m4⟩ := hmos w h2 h3
  have hpa := (pairs_eq h t w).1
  have tb := bt_test (V 40 0 (t.toNat)) h2 (show w < 64 by omega)
  have ts := bt_test (V 81 0 (t.toNat)) h2 (show w < 64 by omega)
  have hm1 : cnt (heB V (V 21 0) w) (V 14 0 9).toNat = (V 43 0 (w.toNat)) := m1.symm
  rw [s_X1_againstPut]
  simp only [cmp3_eq]
  unfold putF
  rw [hm1]
  by_cases c1 : (V 21 0 (t.toNat)) ≠ 3 ∧ 0 < (V 80 0 (t.toNat))
  · rw [if_pos c1, y_cOne _ V h0 (by omega), ci_r, ite_b2, if_pos (by omega), y_laid _ V h0 (by omega), ci_r, ite_b2, if_pos (by omega), if_pos (by omega), q1 c1.1 c1.2]
  rw [if_neg c1]
  by_cases c2 : ff (senB V 1 t w) (V 14 0 22).toNat 0 ≠ -9
  · rw [if_pos c2]
    have tb' : ¬ lAnd (V 40 0 (t.toNat)) (lShl 1 w) = 0 := fun e => c2 (hbf.mpr (tb.mp e))
    by_cases c3 : (V 21 0 (t.toNat)) = 3
    · (repeat (first | rw [ci_r] | rw [cl_r] | rw [cv_r] | rw [ite_b2] | rw [ite_b21] | rw [if_pos (by omega)] | rw [if_neg (by omega)] | rw [y_kindsHas] | rw [y_isKind _ _ _ (by omega)] | rw [y_valHas] | rw [y_isProp _ _ _ (by omega)] | rw [y_thgHas] | rw [y_isThing _ _ _ (by omega)] | rw [y_inRange] | rw [y_in] | rw [s_X11_faulted] | rw [s_X12_faulty] | rw [s_X11_against] | rw [s_X12_against] | simp (disch := omega) only [w32_i, Int.add_sub_cancel, mc64, mc24, mc6, mc8, mc5] | rw [y_cOne _ V h0 (by omega)] | rw [s_X11_bit] | rw [y_cFirst _ V h _ _ _ (by omega)]))
    · (repeat (first | rw [ci_r] | rw [cl_r] | rw [cv_r] | rw [ite_b2] | rw [ite_b21] | rw [if_pos (by omega)] | rw [if_neg (by omega)] | rw [y_kindsHas] | rw [y_isKind _ _ _ (by omega)] | rw [y_valHas] | rw [y_isProp _ _ _ (by omega)] | rw [y_thgHas] | rw [y_isThing _ _ _ (by omega)] | rw [y_inRange] | rw [y_in] | rw [s_X11_faulted] | rw [s_X12_faulty] | rw [s_X11_against] | rw [s_X12_against] | simp (disch := omega) only [w32_i, Int.add_sub_cancel, mc64, mc24, mc6, mc8, mc5] | rw [y_cOne _ V h0 (by omega)] | rw [s_X11_bit] | rw [y_cFirst _ V h _ _ _ (by omega)] | rw [y_laid _ V h0 (by omega)]))
  rw [if_neg c2]
  have tb' : lAnd (V 40 0 (t.toNat)) (lShl 1 w) = 0 := tb.mpr (hbf.mp (by omega))
  by_cases c3 : (V 81 0 (t.toNat)) ≠ 0 ∧ bt (V 81 0 (t.toNat)) w.toNat = false
  · rw [if_pos c3, among_la h h0 h1 c3.1]
    have ts' := ts.mpr c3.2
    have c3' := c3.1
    by_cases c4 : (V 21 0 (t.toNat)) = 3
    · exfalso; omega
    · (repeat (first | rw [ci_r] | rw [cl_r] | rw [cv_r] | rw [ite_b2] | rw [ite_b21] | rw [if_pos (by omega)] | rw [if_neg (by omega)] | rw [y_kindsHas] | rw [y_isKind _ _ _ (by omega)] | rw [y_valHas] | rw [y_isProp _ _ _ (by omega)] | rw [y_thgHas] | rw [y_isThing _ _ _ (by omega)] | rw [y_inRange] | rw [y_in] | rw [s_X11_faulted] | rw [s_X12_faulty] | rw [s_X11_against] | rw [s_X12_against] | simp (disch := omega) only [w32_i, Int.add_sub_cancel, mc64, mc24, mc6, mc8, mc5] | rw [y_cOne _ V h0 (by omega)] | rw [s_X11_bit] | rw [s1] | rw [y_laid _ V h0 (by omega)]))
  rw [if_neg c3]
  have ts' : (V 81 0 (t.toNat)) ≠ 0 → ¬ lAnd (V 81 0 (t.toNat)) (lShl 1 w) = 0 := fun e k => c3 ⟨e, ts.mp k⟩
  have cr := y_crowded (d + 2) V h2 (show w < 64 by omega)
  rw [m3] at cr
  by_cases c5 : (V 21 0 (t.toNat)) ≠ 3 ∧ (V 82 0 (w.toNat)) ≠ -9 ∧ (V 87 0 ((V 82 0 (w.toNat)).toNat)) ≤ (V 43 0 (w.toNat))
  · rw [if_pos c5]
    by_cases c4 : (V 81 0 (t.toNat)) = 0
    · (repeat (first | rw [ci_r] | rw [cl_r] | rw [cv_r] | rw [ite_b2] | rw [ite_b21] | rw [if_pos (by omega)] | rw [if_neg (by omega)] | rw [y_kindsHas] | rw [y_isKind _ _ _ (by omega)] | rw [y_valHas] | rw [y_isProp _ _ _ (by omega)] | rw [y_thgHas] | rw [y_isThing _ _ _ (by omega)] | rw [y_inRange] | rw [y_in] | rw [s_X11_faulted] | rw [s_X12_faulty] | rw [s_X11_against] | rw [s_X12_against] | simp (disch := omega) only [w32_i, Int.add_sub_cancel, mc64, mc24, mc6, mc8, mc5] | rw [y_cOne _ V h0 (by omega)] | rw [s_X11_bit] | rw [y_laid _ V h0 (by omega)] | rw [cr] | rw [m3]))
    · have ts2 := ts' c4
      (repeat (first | rw [ci_r] | rw [cl_r] | rw [cv_r] | rw [ite_b2] | rw [ite_b21] | rw [if_pos (by omega)] | rw [if_neg (by omega)] | rw [y_kindsHas] | rw [y_isKind _ _ _ (by omega)] | rw [y_valHas] | rw [y_isProp _ _ _ (by omega)] | rw [y_thgHas] | rw [y_isThing _ _ _ (by omega)] | rw [y_inRange] | rw [y_in] | rw [s_X11_faulted] | rw [s_X12_faulty] | rw [s_X11_against] | rw [s_X12_against] | simp (disch := omega) only [w32_i, Int.add_sub_cancel, mc64, mc24, mc6, mc8, mc5] | rw [y_cOne _ V h0 (by omega)] | rw [s_X11_bit] | rw [s1] | rw [y_laid _ V h0 (by omega)] | rw [cr] | rw [m3]))
  · rw [if_neg c5, ← hpa]
    have pp := y_cPairs (d + 1) V h.pd t w
    by_cases c4 : (V 81 0 (t.toNat)) = 0
    · by_cases c6 : (V 21 0 (t.toNat)) = 3
      · (repeat (first | rw [ci_r] | rw [cl_r] | rw [cv_r] | rw [ite_b2] | rw [ite_b21] | rw [if_pos (by omega)] | rw [if_neg (by omega)] | rw [y_kindsHas] | rw [y_isKind _ _ _ (by omega)] | rw [y_valHas] | rw [y_isProp _ _ _ (by omega)] | rw [y_thgHas] | rw [y_isThing _ _ _ (by omega)] | rw [y_inRange] | rw [y_in] | rw [s_X11_faulted] | rw [s_X12_faulty] | rw [s_X11_against] | rw [s_X12_against] | simp (disch := omega) only [w32_i, Int.add_sub_cancel, mc64, mc24, mc6, mc8, mc5] | rw [y_cOne _ V h0 (by omega)] | rw [s_X11_bit] | rw [pp]))
      · (repeat (first | rw [ci_r] | rw [cl_r] | rw [cv_r] | rw [ite_b2] | rw [ite_b21] | rw [if_pos (by omega)] | rw [if_neg (by omega)] | rw [y_kindsHas] | rw [y_isKind _ _ _ (by omega)] | rw [y_valHas] | rw [y_isProp _ _ _ (by omega)] | rw [y_thgHas] | rw [y_isThing _ _ _ (by omega)] | rw [y_inRange] | rw [y_in] | rw [s_X11_faulted] | rw [s_X12_faulty] | rw [s_X11_against] | rw [s_X12_against] | simp (disch := omega) only [w32_i, Int.add_sub_cancel, mc64, mc24, mc6, mc8, mc5] | rw [y_cOne _ V h0 (by omega)] | rw [s_X11_bit] | rw [y_laid _ V h0 (by omega)] | rw [cr] | rw [pp]))
    · have ts2 := ts' c4
      by_cases c6 : (V 21 0 (t.toNat)) = 3
      · exfalso; omega
      · (repeat (first | rw [ci_r] | rw [cl_r] | rw [cv_r] | rw [ite_b2] | rw [ite_b21] | rw [if_pos (by omega)] | rw [if_neg (by omega)] | rw [y_kindsHas] | rw [y_isKind _ _ _ (by omega)] | rw [y_valHas] | rw [y_isProp _ _ _ (by omega)] | rw [y_thgHas] | rw [y_isThing _ _ _ (by omega)] | rw [y_inRange] | rw [y_in] | rw [s_X11_faulted] | rw [s_X12_faulty] | rw [s_X11_against] | rw [s_X12_against] | simp (disch := omega) only [w32_i, Int.add_sub_cancel, mc64, mc24, mc6, mc8, mc5] | rw [y_cOne _ V h0 (by omega)] | rw [s_X11_bit] | rw [s1] | rw [y_laid _ V h0 (by omega)] | rw [cr] | rw [pp]))
theorem y_rAgainst (d : Nat) (V : XM) {B : Nat → Int} (hb : RB V B) (hr : RP V) {t w : Int} (h0 : 0 ≤ t) (h1 : t < (V 14 0 9)) (h2 : 0 ≤ w) (h3 : w < (V 14 0 9)) (o2 : 0 ≤ (V 80 0 (t.toNat))) (hm : (V 82 0 (w.toNat)) = -9 ∨ (0 ≤ (V 82 0 (w.toNat)) ∧ (V 82 0 (w.toNat)) < 300)) : Yf (d + 5) 219 [xr 14 0, xi t, xi w] V = some (xi (putF V B t w), V) := by
  obtain ⟨hp, ct1, ct2, h6⟩ := id hb
  obtain ⟨cs1, cs2, _, ho, _⟩ := id hr
  have ts := bt_rtest (V 81 0 (t.toNat)) h2 (show w < 64 by omega)
  have hpa := y_rPairs (d + 2) V hr t w h2
  have hhe := y_held d V hb ho h2
  rw [s_X12_putAgainst]
  simp only [cmp3_eq]
  unfold putF
  by_cases c1 : B t.toNat ≠ 3 ∧ 0 < (V 80 0 (t.toNat))
  · rw [if_pos c1]
    (repeat (first | rw [ci_r] | rw [cl_r] | rw [cv_r] | rw [ite_b2] | rw [ite_b21] | rw [if_pos (by omega)] | rw [if_neg (by omega)] | rw [y_kindsHas] | rw [y_isKind _ _ _ (by omega)] | rw [y_valHas] | rw [y_isProp _ _ _ (by omega)] | rw [y_thgHas] | rw [y_isThing _ _ _ (by omega)] | rw [y_inRange] | rw [y_in] | rw [s_X11_faulted] | rw [s_X12_faulty] | rw [s_X11_against] | rw [s_X12_against] | simp (disch := omega) only [w32_i, Int.add_sub_cancel, mc64, mc24, mc6, mc8, mc5] | rw [y_rBackdrop _ V hb h0 h1]))
  rw [if_neg c1]
  by_cases c2 : ff (senB V 1 t w) (V 14 0 22).toNat 0 ≠ -9
  · rw [if_pos c2]
    by_cases c3 : B t.toNat = 3
    · (repeat (first | rw [ci_r] | rw [cl_r] | rw [cv_r] | rw [ite_b2] | rw [ite_b21] | rw [if_pos (by omega)] | rw [if_neg (by omega)] | rw [y_kindsHas] | rw [y_isKind _ _ _ (by omega)] | rw [y_valHas] | rw [y_isProp _ _ _ (by omega)] | rw [y_thgHas] | rw [y_isThing _ _ _ (by omega)] | rw [y_inRange] | rw [y_in] | rw [s_X11_faulted] | rw [s_X12_faulty] | rw [s_X11_against] | rw [s_X12_against] | simp (disch := omega) only [w32_i, Int.add_sub_cancel, mc64, mc24, mc6, mc8, mc5] | rw [y_rBackdrop _ V hb h0 h1] | rw [y_rFirst _ V _ _ _ cs1 cs2]))
    · (repeat (first | rw [ci_r] | rw [cl_r] | rw [cv_r] | rw [ite_b2] | rw [ite_b21] | rw [if_pos (by omega)] | rw [if_neg (by omega)] | rw [y_kindsHas] | rw [y_isKind _ _ _ (by omega)] | rw [y_valHas] | rw [y_isProp _ _ _ (by omega)] | rw [y_thgHas] | rw [y_isThing _ _ _ (by omega)] | rw [y_inRange] | rw [y_in] | rw [s_X11_faulted] | rw [s_X12_faulty] | rw [s_X11_against] | rw [s_X12_against] | simp (disch := omega) only [w32_i, Int.add_sub_cancel, mc64, mc24, mc6, mc8, mc5] | rw [y_rBackdrop _ V hb h0 h1] | rw [y_rFirst _ V _ _ _ cs1 cs2]))
  rw [if_neg c2]
  by_cases c3 : (V 81 0 (t.toNat)) ≠ 0 ∧ bt (V 81 0 (t.toNat)) w.toNat = false
  · rw [if_pos c3]
    rw [if_neg (by rw [c3.2]; simp)] at ts
    have c3' := c3.1
    by_cases c4 : B t.toNat = 3
    · (repeat (first | rw [ci_r] | rw [cl_r] | rw [cv_r] | rw [ite_b2] | rw [ite_b21] | rw [if_pos (by omega)] | rw [if_neg (by omega)] | rw [y_kindsHas] | rw [y_isKind _ _ _ (by omega)] | rw [y_valHas] | rw [y_isProp _ _ _ (by omega)] | rw [y_thgHas] | rw [y_isThing _ _ _ (by omega)] | rw [y_inRange] | rw [y_in] | rw [s_X11_faulted] | rw [s_X12_faulty] | rw [s_X11_against] | rw [s_X12_against] | simp (disch := omega) only [w32_i, Int.add_sub_cancel, mc64, mc24, mc6, mc8, mc5] | rw [y_rBackdrop _ V hb h0 h1] | rw [y_rFirst _ V _ _ _ cs1 cs2] | rw [y_rAmong _ V _ cs1 cs2]))
    · (repeat (first | rw [ci_r] | rw [cl_r] | rw [cv_r] | rw [ite_b2] | rw [ite_b21] | rw [if_pos (by omega)] | rw [if_neg (by omega)] | rw [y_kindsHas] | rw [y_isKind _ _ _ (by omega)] | rw [y_valHas] | rw [y_isProp _ _ _ (by omega)] | rw [y_thgHas] | rw [y_isThing _ _ _ (by omega)] | rw [y_inRange] | rw [y_in] | rw [s_X11_faulted] | rw [s_X12_faulty] | rw [s_X11_against] | rw [s_X12_against] | simp (disch := omega) only [w32_i, Int.add_sub_cancel, mc64, mc24, mc6, mc8, mc5] | rw [y_rBackdrop _ V hb h0 h1] | rw [y_rFirst _ V _ _ _ cs1 cs2] | rw [y_rAmong _ V _ cs1 cs2]))
  rw [if_neg c3]
  by_cases c4 : (V 81 0 (t.toNat)) = 0
  · by_cases c5 : B t.toNat ≠ 3 ∧ (V 82 0 (w.toNat)) ≠ -9 ∧ (V 87 0 ((V 82 0 (w.toNat)).toNat)) ≤ cnt (heB V B w) (V 14 0 9).toNat
    · rw [if_pos c5]
      (repeat (first | rw [ci_r] | rw [cl_r] | rw [cv_r] | rw [ite_b2] | rw [ite_b21] | rw [if_pos (by omega)] | rw [if_neg (by omega)] | rw [y_kindsHas] | rw [y_isKind _ _ _ (by omega)] | rw [y_valHas] | rw [y_isProp _ _ _ (by omega)] | rw [y_thgHas] | rw [y_isThing _ _ _ (by omega)] | rw [y_inRange] | rw [y_in] | rw [s_X11_faulted] | rw [s_X12_faulty] | rw [s_X11_against] | rw [s_X12_against] | simp (disch := omega) only [w32_i, Int.add_sub_cancel, mc64, mc24, mc6, mc8, mc5] | rw [y_rBackdrop _ V hb h0 h1] | rw [y_rFirst _ V _ _ _ cs1 cs2] | rw [hhe]))
    · rw [if_neg c5]
      by_cases c6 : B t.toNat = 3
      · (repeat (first | rw [ci_r] | rw [cl_r] | rw [cv_r] | rw [ite_b2] | rw [ite_b21] | rw [if_pos (by omega)] | rw [if_neg (by omega)] | rw [y_kindsHas] | rw [y_isKind _ _ _ (by omega)] | rw [y_valHas] | rw [y_isProp _ _ _ (by omega)] | rw [y_thgHas] | rw [y_isThing _ _ _ (by omega)] | rw [y_inRange] | rw [y_in] | rw [s_X11_faulted] | rw [s_X12_faulty] | rw [s_X11_against] | rw [s_X12_against] | simp (disch := omega) only [w32_i, Int.add_sub_cancel, mc64, mc24, mc6, mc8, mc5] | rw [y_rBackdrop _ V hb h0 h1] | rw [y_rFirst _ V _ _ _ cs1 cs2] | rw [hhe] | rw [hpa]))
      · by_cases c7 : (V 82 0 (w.toNat)) = -9
        · (repeat (first | rw [ci_r] | rw [cl_r] | rw [cv_r] | rw [ite_b2] | rw [ite_b21] | rw [if_pos (by omega)] | rw [if_neg (by omega)] | rw [y_kindsHas] | rw [y_isKind _ _ _ (by omega)] | rw [y_valHas] | rw [y_isProp _ _ _ (by omega)] | rw [y_thgHas] | rw [y_isThing _ _ _ (by omega)] | rw [y_inRange] | rw [y_in] | rw [s_X11_faulted] | rw [s_X12_faulty] | rw [s_X11_against] | rw [s_X12_against] | simp (disch := omega) only [w32_i, Int.add_sub_cancel, mc64, mc24, mc6, mc8, mc5] | rw [y_rBackdrop _ V hb h0 h1] | rw [y_rFirst _ V _ _ _ cs1 cs2] | rw [hhe] | rw [hpa]))
        · (repeat (first | rw [ci_r] | rw [cl_r] | rw [cv_r] | rw [ite_b2] | rw [ite_b21] | rw [if_pos (by omega)] | rw [if_neg (by omega)] | rw [y_kindsHas] | rw [y_isKind _ _ _ (by omega)] | rw [y_valHas] | rw [y_isProp _ _ _ (by omega)] | rw [y_thgHas] | rw [y_isThing _ _ _ (by omega)] | rw [y_inRange] | rw [y_in] | rw [s_X11_faulted] | rw [s_X12_faulty] | rw [s_X11_against] | rw [s_X12_against] | simp (disch := omega) only [w32_i, Int.add_sub_cancel, mc64, mc24, mc6, mc8, mc5] | rw [y_rBackdrop _ V hb h0 h1] | rw [y_rFirst _ V _ _ _ cs1 cs2] | rw [hhe] | rw [hpa]))
  · have c4' : bt (V 81 0 (t.toNat)) w.toNat = true := by
      cases hz : bt (V 81 0 (t.toNat)) w.toNat with
      | true => rfl
      | false => exact absurd ⟨c4, hz⟩ c3
    rw [if_pos c4'] at ts
    by_cases c5 : B t.toNat ≠ 3 ∧ (V 82 0 (w.toNat)) ≠ -9 ∧ (V 87 0 ((V 82 0 (w.toNat)).toNat)) ≤ cnt (heB V B w) (V 14 0 9).toNat
    · rw [if_pos c5]
      (repeat (first | rw [ci_r] | rw [cl_r] | rw [cv_r] | rw [ite_b2] | rw [ite_b21] | rw [if_pos (by omega)] | rw [if_neg (by omega)] | rw [y_kindsHas] | rw [y_isKind _ _ _ (by omega)] | rw [y_valHas] | rw [y_isProp _ _ _ (by omega)] | rw [y_thgHas] | rw [y_isThing _ _ _ (by omega)] | rw [y_inRange] | rw [y_in] | rw [s_X11_faulted] | rw [s_X12_faulty] | rw [s_X11_against] | rw [s_X12_against] | simp (disch := omega) only [w32_i, Int.add_sub_cancel, mc64, mc24, mc6, mc8, mc5] | rw [y_rBackdrop _ V hb h0 h1] | rw [y_rFirst _ V _ _ _ cs1 cs2] | rw [hhe]))
    · rw [if_neg c5]
      by_cases c6 : B t.toNat = 3
      · (repeat (first | rw [ci_r] | rw [cl_r] | rw [cv_r] | rw [ite_b2] | rw [ite_b21] | rw [if_pos (by omega)] | rw [if_neg (by omega)] | rw [y_kindsHas] | rw [y_isKind _ _ _ (by omega)] | rw [y_valHas] | rw [y_isProp _ _ _ (by omega)] | rw [y_thgHas] | rw [y_isThing _ _ _ (by omega)] | rw [y_inRange] | rw [y_in] | rw [s_X11_faulted] | rw [s_X12_faulty] | rw [s_X11_against] | rw [s_X12_against] | simp (disch := omega) only [w32_i, Int.add_sub_cancel, mc64, mc24, mc6, mc8, mc5] | rw [y_rBackdrop _ V hb h0 h1] | rw [y_rFirst _ V _ _ _ cs1 cs2] | rw [hhe] | rw [hpa]))
      · by_cases c7 : (V 82 0 (w.toNat)) = -9
        · (repeat (first | rw [ci_r] | rw [cl_r] | rw [cv_r] | rw [ite_b2] | rw [ite_b21] | rw [if_pos (by omega)] | rw [if_neg (by omega)] | rw [y_kindsHas] | rw [y_isKind _ _ _ (by omega)] | rw [y_valHas] | rw [y_isProp _ _ _ (by omega)] | rw [y_thgHas] | rw [y_isThing _ _ _ (by omega)] | rw [y_inRange] | rw [y_in] | rw [s_X11_faulted] | rw [s_X12_faulty] | rw [s_X11_against] | rw [s_X12_against] | simp (disch := omega) only [w32_i, Int.add_sub_cancel, mc64, mc24, mc6, mc8, mc5] | rw [y_rBackdrop _ V hb h0 h1] | rw [y_rFirst _ V _ _ _ cs1 cs2] | rw [hhe] | rw [hpa]))
        · (repeat (first | rw [ci_r] | rw [cl_r] | rw [cv_r] | rw [ite_b2] | rw [ite_b21] | rw [if_pos (by omega)] | rw [if_neg (by omega)] | rw [y_kindsHas] | rw [y_isKind _ _ _ (by omega)] | rw [y_valHas] | rw [y_isProp _ _ _ (by omega)] | rw [y_thgHas] | rw [y_isThing _ _ _ (by omega)] | rw [y_inRange] | rw [y_in] | rw [s_X11_faulted] | rw [s_X12_faulty] | rw [s_X11_against] | rw [s_X12_against] | simp (disch := omega) only [w32_i, Int.add_sub_cancel, mc64, mc24, mc6, mc8, mc5] | rw [y_rBackdrop _ V hb h0 h1] | rw [y_rFirst _ V _ _ _ cs1 cs2] | rw [hhe] | rw [hpa]))
theorem putF_0 {V : XM} (h : Inv V) {t w : Int} (h0 : 0 ≤ t) (h1 : t < (V 14 0 9)) (h2 : 0 ≤ w) (h3 : w < (V 14 0 9)) : putF V (V 21 0) t w = -9 ∨ 0 ≤ putF V (V 21 0) t w := by
  have hpa := (pairs_eq h t w).2
  have h' := h
  obtain ⟨⟨ck1, ck2, ck3, cp1, cp2, cp3, ct1, ct2, ct3, cs1, cs2, cs3, cq1, cq2, cq3, cr1, cr2, cr3, cf1, cf2, cf3, cb1, cb2, cb3, cw1, cw2, cw3, clf, clc⟩, hkin, hpro, husu, hgiv, hthg, hhom, hput, hrin, hsen, hbar, hset, hmos, hpai, hrel, hmap, hdoo, hshe, htab, hwor⟩ := h'
  unfold putF
  by_cases c1 : (V 21 0 (t.toNat)) ≠ 3 ∧ 0 < (V 80 0 (t.toNat))
  · rw [if_pos c1]
    have := ((hput.1 t h0 h1).2 0 (by omega) c1.2).1
    rw [show 6 * t + 0 = 6 * t by omega] at this
    exact .inr this
  rw [if_neg c1]
  by_cases c2 : ff (senB V 1 t w) (V 14 0 22).toNat 0 ≠ -9
  · rw [if_pos c2]
    rcases ff_spec (senB V 1 t w) (V 14 0 22).toNat 0 with ⟨x1, _⟩ | ⟨s, x1, _⟩
    · exact absurd x1 c2
    · exact .inr (by omega)
  rw [if_neg c2]
  by_cases c3 : (V 81 0 (t.toNat)) ≠ 0 ∧ bt (V 81 0 (t.toNat)) w.toNat = false
  · rw [if_pos c3, among_la h h0 h1 c3.1]
    have := (hset t h0 h1).2.2.1
    omega
  rw [if_neg c3]
  by_cases c5 : (V 21 0 (t.toNat)) ≠ 3 ∧ (V 82 0 (w.toNat)) ≠ -9 ∧ (V 87 0 ((V 82 0 (w.toNat)).toNat)) ≤ cnt (heB V (V 21 0) w) (V 14 0 9).toNat
  · rw [if_pos c5]
    have := (hmos w h2 h3).2.2.2
    omega
  · rw [if_neg c5]; exact hpa
