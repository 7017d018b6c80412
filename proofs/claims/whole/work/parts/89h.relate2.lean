/-! what a relate goes against, the reference's side -/
theorem y_rDenied (d : Nat) (V : XM) (h : GR V) {r a b : Int} (ir : 0 ≤ r ∧ r < 8) (ia : 0 ≤ a ∧ a < (V 14 0 9)) (ib : 0 ≤ b ∧ b < (V 14 0 9)) : ∃ W : XM, Yf (d + 3) 257 [xr 14 0, xi r, xi a, xi b] V = some (xi (dnN V r a b), W) ∧ (W = V ∨ ∃ n, W = gS V r n) := by
  obtain ⟨t1, t2, s1, s2, hh⟩ := id h
  have A1 := fun e => y_rTold e V 7 r a b s1 s2
  have A2 := fun e => y_rTold e V 7 r b a s1 s2
  rw [s_X12_deniedBy, if_pos ir]
  unfold dnN
  by_cases c1 : (V 90 0 (r.toNat)) = 5
  · rw [if_pos c1, if_pos c1, y_groupUp _ V h r _ s1 (by omega), cv_r]
    refine ⟨gS V r (V 14 0 22).toNat, ?_, .inr ⟨_, rfl⟩⟩
    refine loop_first (F := fun l => Xf (d + 2) 257 22 [xr 14 0, xi r, xi a, xi b, xi l] [] (gS V r (V 14 0 22).toNat)) (N := (V 14 0 22)) s1 (fun l k0 k1 => ?_)
    show Xf (d + 2) 257 22 [xr 14 0, xi r, xi a, xi b, xi l] [] (gS V r (V 14 0 22).toNat) = if _ then (if _ then _ else Xf (d + 2) 257 22 [xr 14 0, xi r, xi a, xi b, xi (l + 1)] [] (gS V r (V 14 0 22).toNat)) else _
    have es : ((gS V r (V 14 0 22).toNat) 14 0 22) = (V 14 0 22) := rfl
    have e85 : (gS V r (V 14 0 22).toNat) 85 0 l.toNat = (V 85 0 (l.toNat)) := rfl
    have e86 : (gS V r (V 14 0 22).toNat) 86 0 l.toNat = (V 86 0 (l.toNat)) := rfl
    have e87 : (gS V r (V 14 0 22).toNat) 87 0 l.toNat = (V 87 0 (l.toNat)) := rfl
    have e88 : (gS V r (V 14 0 22).toNat) 88 0 l.toNat = (V 88 0 (l.toNat)) := rfl
    rw [s_X12_deniedBy_22, es, e85, e86, e87, e88]
    by_cases hl : l < (V 14 0 22)
    · rw [if_pos hl, if_pos hl, if_pos (by omega), w32_i (by omega) (by omega), gs_row V r _ ia.1 ia.2, gs_row V r _ ib.1 ib.2]
      unfold dn5
      simp only [decide_eq_true_eq]
      by_cases c2 : (V 85 0 (l.toNat)) = 7
      · obtain ⟨y1, y2, y3, y4⟩ := hh l k0 hl (.inr c2)
        rw [gs_row V r _ y1 y2, gs_row V r _ y3 y4, if_pos c2, if_pos (by omega)]
        generalize gF V r (V 14 0 22).toNat a.toNat = ga
        generalize gF V r (V 14 0 22).toNat b.toNat = gb
        generalize gF V r (V 14 0 22).toNat (V 87 0 (l.toNat)).toNat = g2
        generalize gF V r (V 14 0 22).toNat (V 88 0 (l.toNat)).toNat = g3
        clear A1 A2 hh
        by_cases c3 : (V 86 0 (l.toNat)) = r
        · by_cases d1 : g2 = ga <;> by_cases d2 : g3 = gb <;> by_cases d3 : g2 = gb <;> by_cases d4 : g3 = ga
          all_goals (repeat (first | rw [ci_r] | rw [cl_r] | rw [cv_r] | rw [ite_b2] | rw [ite_b21] | rw [if_pos (by omega)] | rw [if_neg (by omega)] | rw [y_kindsHas] | rw [y_isKind _ _ _ (by omega)] | rw [y_valHas] | rw [y_isProp _ _ _ (by omega)] | rw [y_thgHas] | rw [y_isThing _ _ _ (by omega)] | rw [y_inRange] | rw [y_in] | rw [s_X11_faulted] | rw [s_X12_faulty] | rw [s_X11_against] | rw [s_X12_against] | simp (disch := omega) only [w32_i, Int.add_sub_cancel, mc64, mc24, mc6, mc8, mc5] | fail))
        · (repeat (first | rw [ci_r] | rw [cl_r] | rw [cv_r] | rw [ite_b2] | rw [ite_b21] | rw [if_pos (by omega)] | rw [if_neg (by omega)] | rw [y_kindsHas] | rw [y_isKind _ _ _ (by omega)] | rw [y_valHas] | rw [y_isProp _ _ _ (by omega)] | rw [y_thgHas] | rw [y_isThing _ _ _ (by omega)] | rw [y_inRange] | rw [y_in] | rw [s_X11_faulted] | rw [s_X12_faulty] | rw [s_X11_against] | rw [s_X12_against] | simp (disch := omega) only [w32_i, Int.add_sub_cancel, mc64, mc24, mc6, mc8, mc5] | fail))
      · rw [if_neg c2, if_neg (fun k => c2 k.1)]
    · rw [if_neg hl, if_neg hl]
  · rw [if_neg c1, if_neg c1, A1, ci_r, if_pos ir]
    by_cases c2 : (V 90 0 (r.toNat)) = 4
    · refine ⟨V, ?_, .inl rfl⟩
      rw [if_pos c2, A2, ci_r, s_X12_earlier, if_pos c2]
      unfold erl
      generalize ff (senB3 V 7 r a b) (V 14 0 22).toNat 0 = x
      generalize ff (senB3 V 7 r b a) (V 14 0 22).toNat 0 = y
      by_cases q1 : x = -9
      · rw [if_pos q1, if_pos q1, ci_r]
      · rw [if_neg q1, if_neg q1]
        by_cases q2 : y = -9
        · rw [if_pos q2, if_pos q2, ci_r]
        · rw [if_neg q2, if_neg q2]
          by_cases q3 : x < y
          · rw [if_pos q3, if_pos q3, ci_r]
          · rw [if_neg q3, if_neg q3, ci_r]
    · exact ⟨V, by rw [if_neg c2, if_neg c2], .inl rfl⟩
theorem y_rOne (d : Nat) (V : XM) {r a b : Int} (s1 : 0 ≤ (V 14 0 22)) (s2 : (V 14 0 22) ≤ 300) (ir : 0 ≤ r ∧ r < 8) (ia : 0 ≤ a) (ib : 0 ≤ b) (hf : 0 ≤ (V 90 0 (r.toNat))) : Yf (d + 1) 258 [xr 14 0, xi r, xi a, xi b] V = some (xi (ooN V r a b), V) := by
  have L77 : Xf d 258 77 [xr 14 0, xi r, xr 0 0, xi b, xi (V 90 0 (r.toNat)), xi 0] [] V = some (xi (if (V 90 0 (r.toNat)) = 0 ∨ (V 90 0 (r.toNat)) = 1 then ff (erB V r (-9) b) (V 14 0 22).toNat 0 else -9), V) := by
    by_cases c : (V 90 0 (r.toNat)) < 2
    · rw [if_pos (by omega)]
      refine loop_first (F := fun l => Xf d 258 77 [xr 14 0, xi r, xr 0 0, xi b, xi (V 90 0 (r.toNat)), xi l] [] V) s1 (fun l k0 k1 => ?_)
      show Xf d 258 77 [xr 14 0, xi r, xr 0 0, xi b, xi (V 90 0 (r.toNat)), xi l] [] V = if _ then (if _ then _ else Xf d 258 77 [xr 14 0, xi r, xr 0 0, xi b, xi (V 90 0 (r.toNat)), xi (l + 1)] [] V) else _
      rw [s_X12_oneOnly_77]
      unfold erB
      simp only [decide_eq_true_eq, true_or, true_and, and_true]
      (repeat' (first | rfl | rw [ci_r] | rw [cl_r] | rw [cv_r] | rw [ite_b2] | rw [ite_b21] | rw [if_pos (by omega)] | rw [if_neg (by omega)] | rw [y_kindsHas] | rw [y_isKind _ _ _ (by omega)] | rw [y_valHas] | rw [y_isProp _ _ _ (by omega)] | rw [y_thgHas] | rw [y_isThing _ _ _ (by omega)] | rw [y_inRange] | rw [y_in] | rw [s_X11_faulted] | rw [s_X12_faulty] | rw [s_X11_against] | rw [s_X12_against] | simp (disch := omega) only [w32_i, Int.add_sub_cancel, mc64, mc24, mc6, mc8, mc5] | fail | split))
    · rw [if_neg (by omega), s_X12_oneOnly_77]
      by_cases q : (0 : Int) < (V 14 0 22)
      · rw [if_pos q, if_neg c]
      · rw [if_neg q]
  rw [s_X12_oneOnly, if_pos ir]
  unfold ooN
  by_cases c : (V 90 0 (r.toNat)) = 0 ∨ (V 90 0 (r.toNat)) = 2
  · have := loop_find (F := fun l => Xf d 258 11 [xr 14 0, xi r, xi a, xi b, xi (V 90 0 (r.toNat)), xi l] [] V) (f := erB V r a (-9)) (A := fun l => some (xi l, V)) (Z := Xf d 258 77 [xr 14 0, xi r, xr 0 0, xi b, xi (V 90 0 (r.toNat)), xi 0] [] V) (N := (V 14 0 22)) (fun l k0 k1 => by
      show Xf d 258 11 [xr 14 0, xi r, xi a, xi b, xi (V 90 0 (r.toNat)), xi l] [] V = if _ then (if _ then _ else Xf d 258 11 [xr 14 0, xi r, xi a, xi b, xi (V 90 0 (r.toNat)), xi (l + 1)] [] V) else _
      rw [s_X12_oneOnly_11]
      unfold erB
      simp only [decide_eq_true_eq, true_or, true_and, and_true]
      clear L77
      rcases c with c | c
      · (repeat' (first | rfl | rw [ci_r] | rw [cl_r] | rw [cv_r] | rw [ite_b2] | rw [ite_b21] | rw [if_pos (by omega)] | rw [if_neg (by omega)] | rw [y_kindsHas] | rw [y_isKind _ _ _ (by omega)] | rw [y_valHas] | rw [y_isProp _ _ _ (by omega)] | rw [y_thgHas] | rw [y_isThing _ _ _ (by omega)] | rw [y_inRange] | rw [y_in] | rw [s_X11_faulted] | rw [s_X12_faulty] | rw [s_X11_against] | rw [s_X12_against] | simp (disch := omega) only [w32_i, Int.add_sub_cancel, mc64, mc24, mc6, mc8, mc5] | fail | split))
      · (repeat' (first | rfl | rw [ci_r] | rw [cl_r] | rw [cv_r] | rw [ite_b2] | rw [ite_b21] | rw [if_pos (by omega)] | rw [if_neg (by omega)] | rw [y_kindsHas] | rw [y_isKind _ _ _ (by omega)] | rw [y_valHas] | rw [y_isProp _ _ _ (by omega)] | rw [y_thgHas] | rw [y_isThing _ _ _ (by omega)] | rw [y_inRange] | rw [y_in] | rw [s_X11_faulted] | rw [s_X12_faulty] | rw [s_X11_against] | rw [s_X12_against] | simp (disch := omega) only [w32_i, Int.add_sub_cancel, mc64, mc24, mc6, mc8, mc5] | fail | split))) (V 14 0 22).toNat 0 (by omega) (by omega) s1
    refine this.trans ?_
    show (if ff (erB V r a (-9)) (V 14 0 22).toNat 0 = -9 then _ else some (xi (ff (erB V r a (-9)) (V 14 0 22).toNat 0), V) : XR) = _
    by_cases q : ff (erB V r a (-9)) (V 14 0 22).toNat 0 = -9
    · rw [if_pos q, if_neg (fun k => k.2 q), L77]
    · rw [if_neg q, if_pos ⟨c, q⟩]
  · rw [if_neg (fun k => c k.1), ← L77, s_X12_oneOnly_11]
    by_cases q : (0 : Int) < (V 14 0 22)
    · rw [if_pos q, if_neg (fun k => c (.inl k)), if_neg (fun k => c (.inr k))]
    · rw [if_neg q]
