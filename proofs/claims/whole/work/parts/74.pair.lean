/-! pair -/
def mxF (V : XM) (a b : Int) : Int := if (V 79 0 ((6 * b).toNat)) < (V 79 0 ((6 * a).toNat)) then (V 79 0 ((6 * a).toNat)) else (V 79 0 ((6 * b).toNat))
/-- both lie, and not as the pair wants -/
def odB (V : XM) (a b c : Int) : Bool := decide (0 < (V 80 0 (a.toNat)) ∧ 0 < (V 80 0 (b.toNat)) ∧ (((V 78 0 ((6 * a).toNat)) = (V 78 0 ((6 * b).toNat)) ∧ c ≠ 1) ∨ ((V 78 0 ((6 * a).toNat)) ≠ (V 78 0 ((6 * b).toNat)) ∧ c = 1)))
def rgB (V : XM) (a b c : Int) (s : Nat) : Bool := decide ((V 85 0 s) = 4 ∧ (((V 86 0 s) = a ∧ (V 87 0 s) = b) ∨ ((V 86 0 s) = b ∧ (V 87 0 s) = a)) ∧ (V 88 0 s) ≠ c)
def cgB (V : XM) (a b c : Int) (p : Nat) : Bool := decide ((((V 46 0 p) = a ∧ (V 47 0 p) = b) ∨ ((V 46 0 p) = b ∧ (V 47 0 p) = a)) ∧ (V 48 0 p) ≠ c)
def pgF (V : XM) (a b c : Int) : Int := if ff (rgB V a b c) (V 14 0 22).toNat 0 ≠ -9 then ff (rgB V a b c) (V 14 0 22).toNat 0 else if odB V a b c = true then mxF V a b else -9
theorem pg_map {V : XM} (h : Inv V) (a b c : Int) : ff (rgB V a b c) (V 14 0 22).toNat 0 = if ff (cgB V a b c) (V 14 0 27).toNat 0 = -9 then -9 else ((V 49 0 ((ff (cgB V a b c) (V 14 0 27).toNat 0).toNat)).toNat : Int) := by
  obtain ⟨hcnt, hrest⟩ := h
  have hpai : I_pai V := hrest.2.2.2.2.2.2.2.2.2.2.2.2.1
  clear hcnt hrest
  refine ff_map (f := rgB V a b c) (g := cgB V a b c) (m := fun p => (V 49 0 p).toNat) (N := (V 14 0 22).toNat) (P := (V 14 0 27).toNat) (fun p hp => ?_) (fun p q hpq hq => ?_) (fun s hs hf => ?_)
  · obtain ⟨y1, y2, y3, y4, y5, y6, _⟩ := hpai.1 p (by omega) (by omega)
    rw [Int.toNat_natCast] at y1 y2 y3 y4 y5 y6
    refine ⟨by show (V 49 0 p).toNat < _; omega, ?_⟩
    unfold cgB rgB
    rw [y4, y5, y6]
    exact decide_eq_decide.mpr ⟨fun k => ⟨y3, k⟩, fun k => k.2⟩
  · obtain ⟨y1, y2, y3, y4, y5, y6, y7, y8, y9, y10, y11, y12, y13, y14, y15, y16⟩ := hpai.1 p (by omega) (by omega)
    have := y16 q (by omega) (by omega)
    rw [Int.toNat_natCast] at y1 this
    rw [Int.toNat_natCast] at this
    show (V 49 0 p).toNat < (V 49 0 q).toNat
    omega
  · unfold rgB at hf
    simp only [decide_eq_true_eq] at hf
    obtain ⟨p, x1, x2, x3⟩ := hpai.2 s (by omega) (by omega) (by rw [Int.toNat_natCast]; exact hf.1)
    refine ⟨p.toNat, by omega, ?_⟩
    show (V 49 0 (p.toNat)).toNat = s
    omega
theorem cg_in {V : XM} (h : Inv V) {a b c : Int} (hk : ff (cgB V a b c) (V 14 0 27).toNat 0 ≠ -9) : ((V 49 0 ((ff (cgB V a b c) (V 14 0 27).toNat 0).toNat)).toNat : Int) = (V 49 0 ((ff (cgB V a b c) (V 14 0 27).toNat 0).toNat)) := by
  obtain ⟨hcnt, hrest⟩ := h
  have hpai : I_pai V := hrest.2.2.2.2.2.2.2.2.2.2.2.2.1
  clear hcnt hrest
  rcases ff_spec (cgB V a b c) (V 14 0 27).toNat 0 with ⟨x1, _⟩ | ⟨s, x1, x2, x3, x4, x5⟩
  · exact absurd x1 hk
  · rw [x1, Int.toNat_natCast]
    have := (hpai.1 s (by omega) (by omega)).1
    rw [Int.toNat_natCast] at this
    omega
theorem y_cPairing (d : Nat) (V : XM) (h : Inv V) {a b c : Int} (ia : 0 ≤ a ∧ a < (V 14 0 9)) (ib : 0 ≤ b ∧ b < (V 14 0 9)) (hab : a ≠ b) (hc : c = 0 ∨ c = 1) (ha3 : (V 21 0 (a.toNat)) ≠ 3) (hb3 : (V 21 0 (b.toNat)) ≠ 3) : Yf (d + 3) 27 [xr 7 0, xi a, xi b, xi c] V = some (xi (pgF V a b c), V) := by
  have ho := h.ho
  have hhc := h.hc
  have hpd := h.pd
  have hpm := pg_map h a b c
  have hci := fun k => cg_in h (a := a) (b := b) (c := c) k
  obtain ⟨⟨ck1, ck2, ck3, cp1, cp2, cp3, ct1, ct2, ct3, cs1, cs2, cs3, cq1, cq2, cq3, cr1, cr2, cr3, cf1, cf2, cf3, cb1, cb2, cb3, cw1, cw2, cw3, clf, clc⟩, hkin, hpro, husu, hgiv, hthg, hhom, hput, hrin, hsen, hbar, hset, hmos, hpai, hrel, hmap, hdoo, hshe, htab, hwor⟩ := h
  have pa := (hput.1 a ia.1 ia.2).1 ha3
  have pb := (hput.1 b ib.1 ib.2).1 hb3
  have ca := hhc a ia.1 ia.2
  have cb := hhc b ib.1 ib.2
  have e1 := y_laid (d + 1) V ia.1 (show a < 64 by omega)
  have e2 := y_laid (d + 1) V ib.1 (show b < 64 by omega)
  rw [ca.1] at e1
  rw [cb.1] at e2
  have e3 := y_home0 d V ho hhc ia.1 ia.2
  have e4 := y_home0 d V ho hhc ib.1 ib.2
  clear ck1 ck2 ck3 cp1 cp2 cp3 cr1 cr2 cr3 cf1 cf2 cf3 cb1 cb2 cb3 cw1 cw2 cw3 clf clc cs1 cs2 cs3
  rw [s_X1_againstPairing]
  have := loop_find (F := fun l => Xf (d + 2) 27 3 [xr 7 0, xi a, xi b, xi c, xi l] [] V) (f := cgB V a b c) (A := fun l => some (xi (V 49 0 (l.toNat)), V)) (Z := some (xi (if odB V a b c = true then mxF V a b else -9), V)) (N := (V 14 0 27)) (fun l h2 h3 => by
    show Xf (d + 2) 27 3 [xr 7 0, xi a, xi b, xi c, xi l] [] V = if _ then (if _ then _ else Xf (d + 2) 27 3 [xr 7 0, xi a, xi b, xi c, xi (l + 1)] [] V) else _
    rw [s_X1_againstPairing_3, cq3]
    by_cases hl : l < (V 14 0 27)
    · obtain ⟨q1, q2, q3, q4, q5, q6, q7⟩ := hpd.2.2 l h2 (by omega)
      rw [if_pos hl, if_pos hl, y_partner _ V a h2 (by omega), ci_r]
      clear q6 q7 e1 e2 e3 e4 pa pb ca cb
      unfold cgB
      simp only [decide_eq_true_eq]
      by_cases c1 : (V 46 0 (l.toNat)) = a
      · rw [if_pos c1]
        by_cases c2 : (V 47 0 (l.toNat)) = b <;> by_cases c3 : (V 48 0 (l.toNat)) = c
        all_goals (repeat (first | rw [ci_r] | rw [cl_r] | rw [cv_r] | rw [ite_b2] | rw [ite_b21] | rw [if_pos (by omega)] | rw [if_neg (by omega)] | rw [y_kindsHas] | rw [y_isKind _ _ _ (by omega)] | rw [y_valHas] | rw [y_isProp _ _ _ (by omega)] | rw [y_thgHas] | rw [y_isThing _ _ _ (by omega)] | rw [y_inRange] | rw [y_in] | rw [s_X11_faulted] | rw [s_X12_faulty] | rw [s_X11_against] | rw [s_X12_against] | simp (disch := omega) only [w32_i, Int.add_sub_cancel, mc64, mc24, mc6, mc8, mc5] | fail))
      · rw [if_neg c1]
        by_cases c2 : (V 47 0 (l.toNat)) = a <;> by_cases c3 : (V 48 0 (l.toNat)) = c <;> by_cases c4 : (V 46 0 (l.toNat)) = b
        all_goals (repeat (first | rw [ci_r] | rw [cl_r] | rw [cv_r] | rw [ite_b2] | rw [ite_b21] | rw [if_pos (by omega)] | rw [if_neg (by omega)] | rw [y_kindsHas] | rw [y_isKind _ _ _ (by omega)] | rw [y_valHas] | rw [y_isProp _ _ _ (by omega)] | rw [y_thgHas] | rw [y_isThing _ _ _ (by omega)] | rw [y_inRange] | rw [y_in] | rw [s_X11_faulted] | rw [s_X12_faulty] | rw [s_X11_against] | rw [s_X12_against] | simp (disch := omega) only [w32_i, Int.add_sub_cancel, mc64, mc24, mc6, mc8, mc5] | fail))
    · rw [if_neg hl, if_neg hl, e1, ci_r, ite_b2]
      unfold odB
      simp only [decide_eq_true_eq]
      by_cases c1 : 0 < (V 80 0 (a.toNat))
      · by_cases c2 : 0 < (V 80 0 (b.toNat))
        · have pa := pa c1
          have pb := pb c2
          rw [if_pos c1, e2, ci_r, ite_b2, if_pos c2, e3, ci_r, if_neg (show ¬ (V 80 0 (a.toNat)) = 0 by omega), e4, ci_r, if_neg (show ¬ (V 80 0 (b.toNat)) = 0 by omega), pa, pb]
          unfold mxF
          clear hpd hpm hci e1 e2 e3 e4 ho hhc
          by_cases c3 : (V 78 0 ((6 * a).toNat)) = (V 78 0 ((6 * b).toNat))
          · rw [if_pos c3]
            rcases hc with hc | hc
            · rw [if_neg (show ¬ 1 = c by omega), if_pos (by omega), if_pos (by omega)]
              congr 3
              (repeat' split) <;> omega
            · rw [if_pos (show 1 = c by omega), if_neg (by omega)]
          · rw [if_neg c3]
            rcases hc with hc | hc
            · rw [if_pos (show 0 = c by omega), if_neg (by omega)]
            · rw [if_neg (show ¬ 0 = c by omega), if_pos (by omega), if_pos (by omega)]
              congr 3
              (repeat' split) <;> omega
        · rw [if_pos c1, e2, ci_r, ite_b2, if_neg c2, if_neg (fun k => c2 k.2.1)]
      · rw [if_neg c1, if_neg (fun k => c1 k.1)]) (V 14 0 27).toNat 0 (by omega) (by omega) cq1
  refine this.trans ?_
  show (if ff (cgB V a b c) (V 14 0 27).toNat 0 = -9 then some (xi (if odB V a b c = true then mxF V a b else -9), V) else some (xi (V 49 0 ((ff (cgB V a b c) (V 14 0 27).toNat 0).toNat)), V) : XR) = _
  unfold pgF
  by_cases c1 : ff (cgB V a b c) (V 14 0 27).toNat 0 = -9
  · rw [if_pos c1] at hpm
    rw [if_pos c1, if_neg (c := ff (rgB V a b c) (V 14 0 22).toNat 0 ≠ -9) (fun k => k hpm)]
  · have := hci c1
    rw [if_neg c1, this] at hpm
    have h9 : (0 : Int) ≤ ((V 49 0 ((ff (cgB V a b c) (V 14 0 27).toNat 0).toNat)).toNat : Int) := by omega
    rw [this] at h9
    rw [if_neg c1, if_pos (by omega), hpm]
def cPair (V : XM) (n p a b c : Int) : XM := xu (xu (xu (xu (xu (cTell V n 4 a b (-9)) 46 0 p.toNat a) 47 0 p.toNat b) 48 0 p.toNat c) 49 0 p.toNat n) 7 0 15 (p + 1)
def rPair (V : XM) (n p a b c : Int) : XM := rTell (xu V 14 0 27 (p + 1)) n 4 a b c
theorem y_rPairing (d : Nat) (V : XM) {a b c : Int} (ia : 0 ≤ a ∧ a < 64) (ib : 0 ≤ b ∧ b < 64) (hab : a ≠ b) (hc : c = 0 ∨ c = 1) (cs1 : 0 ≤ (V 14 0 22)) (cs2 : (V 14 0 22) < 300) (cq1 : 0 ≤ (V 14 0 27)) (cq2 : (V 14 0 27) < 16) (hx : odB V a b c = true → 0 ≤ (V 79 0 ((6 * a).toNat)) ∧ 0 ≤ (V 79 0 ((6 * b).toNat))) (h0a : 0 ≤ (V 80 0 (a.toNat))) (h0b : 0 ≤ (V 80 0 (b.toNat))) : Xf (d + 2) 241 96 [xr 14 0, xi a, xi b, xi c, xi c, xi 0] [] V = if pgF V a b c ≠ -9 then some (xi (w32 (-100 - pgF V a b c)), V) else some (xi (V 14 0 22), rPair V (V 14 0 22) (V 14 0 27) a b c) := by
  have := loop_find (F := fun l => Xf (d + 2) 241 96 [xr 14 0, xi a, xi b, xi c, xi c, xi l] [] V) (f := rgB V a b c) (A := fun l => some (xi (w32 (-100 - l)), V)) (Z := if odB V a b c = true then some (xi (w32 (-100 - mxF V a b)), V) else some (xi (V 14 0 22), rPair V (V 14 0 22) (V 14 0 27) a b c)) (N := (V 14 0 22)) (fun l h2 h3 => by
    show Xf (d + 2) 241 96 [xr 14 0, xi a, xi b, xi c, xi c, xi l] [] V = if _ then (if _ then _ else Xf (d + 2) 241 96 [xr 14 0, xi a, xi b, xi c, xi c, xi (l + 1)] [] V) else _
    rw [s_X12_pair_96]
    by_cases hl : l < (V 14 0 22)
    · unfold rgB
      simp only [decide_eq_true_eq]
      clear hx
      by_cases c0 : (V 85 0 (l.toNat)) = 4
      · by_cases c1 : (V 86 0 (l.toNat)) = a <;> by_cases c2 : (V 87 0 (l.toNat)) = b <;> by_cases c3 : (V 88 0 (l.toNat)) = c <;> by_cases c4 : (V 86 0 (l.toNat)) = b <;> by_cases c5 : (V 87 0 (l.toNat)) = a <;> first | (exfalso; omega) | skip
        all_goals (repeat (first | rw [ci_r] | rw [cl_r] | rw [cv_r] | rw [ite_b2] | rw [ite_b21] | rw [if_pos (by omega)] | rw [if_neg (by omega)] | rw [y_kindsHas] | rw [y_isKind _ _ _ (by omega)] | rw [y_valHas] | rw [y_isProp _ _ _ (by omega)] | rw [y_thgHas] | rw [y_isThing _ _ _ (by omega)] | rw [y_inRange] | rw [y_in] | rw [s_X11_faulted] | rw [s_X12_faulty] | rw [s_X11_against] | rw [s_X12_against] | simp (disch := omega) only [w32_i, Int.add_sub_cancel, mc64, mc24, mc6, mc8, mc5] | fail))
      · (repeat (first | rw [ci_r] | rw [cl_r] | rw [cv_r] | rw [ite_b2] | rw [ite_b21] | rw [if_pos (by omega)] | rw [if_neg (by omega)] | rw [y_kindsHas] | rw [y_isKind _ _ _ (by omega)] | rw [y_valHas] | rw [y_isProp _ _ _ (by omega)] | rw [y_thgHas] | rw [y_isThing _ _ _ (by omega)] | rw [y_inRange] | rw [y_in] | rw [s_X11_faulted] | rw [s_X12_faulty] | rw [s_X11_against] | rw [s_X12_against] | simp (disch := omega) only [w32_i, Int.add_sub_cancel, mc64, mc24, mc6, mc8, mc5] | fail))
    · rw [if_neg hl, if_neg hl]
      have et := y_tell (d + 1) (xu V 14 0 27 ((V 14 0 27) + 1)) (n := (V 14 0 22)) 4 a b c rfl cs1 cs2
      unfold odB
      simp only [decide_eq_true_eq]
      unfold odB at hx
      simp only [decide_eq_true_eq] at hx
      by_cases c1 : 0 < (V 80 0 (a.toNat))
      · by_cases c2 : 0 < (V 80 0 (b.toNat))
        · by_cases c3 : (V 78 0 ((6 * a).toNat)) = (V 78 0 ((6 * b).toNat)) <;> by_cases c4 : c = 1 <;> by_cases c5 : (V 79 0 ((6 * b).toNat)) < (V 79 0 ((6 * a).toNat))
          all_goals
            unfold mxF
            (repeat (first | rw [ci_r] | rw [cl_r] | rw [cv_r] | rw [ite_b2] | rw [ite_b21] | rw [if_pos (by omega)] | rw [if_neg (by omega)] | rw [y_kindsHas] | rw [y_isKind _ _ _ (by omega)] | rw [y_valHas] | rw [y_isProp _ _ _ (by omega)] | rw [y_thgHas] | rw [y_isThing _ _ _ (by omega)] | rw [y_inRange] | rw [y_in] | rw [s_X11_faulted] | rw [s_X12_faulty] | rw [s_X11_against] | rw [s_X12_against] | simp (disch := omega) only [w32_i, Int.add_sub_cancel, mc64, mc24, mc6, mc8, mc5] | rw [y_placeOf _ V (by omega) (by omega)] | rw [et]))
            try rfl
        · (repeat (first | rw [ci_r] | rw [cl_r] | rw [cv_r] | rw [ite_b2] | rw [ite_b21] | rw [if_pos (by omega)] | rw [if_neg (by omega)] | rw [y_kindsHas] | rw [y_isKind _ _ _ (by omega)] | rw [y_valHas] | rw [y_isProp _ _ _ (by omega)] | rw [y_thgHas] | rw [y_isThing _ _ _ (by omega)] | rw [y_inRange] | rw [y_in] | rw [s_X11_faulted] | rw [s_X12_faulty] | rw [s_X11_against] | rw [s_X12_against] | simp (disch := omega) only [w32_i, Int.add_sub_cancel, mc64, mc24, mc6, mc8, mc5] | rw [et]))
          rfl
      · (repeat (first | rw [ci_r] | rw [cl_r] | rw [cv_r] | rw [ite_b2] | rw [ite_b21] | rw [if_pos (by omega)] | rw [if_neg (by omega)] | rw [y_kindsHas] | rw [y_isKind _ _ _ (by omega)] | rw [y_valHas] | rw [y_isProp _ _ _ (by omega)] | rw [y_thgHas] | rw [y_isThing _ _ _ (by omega)] | rw [y_inRange] | rw [y_in] | rw [s_X11_faulted] | rw [s_X12_faulty] | rw [s_X11_against] | rw [s_X12_against] | simp (disch := omega) only [w32_i, Int.add_sub_cancel, mc64, mc24, mc6, mc8, mc5] | rw [et]))
        rfl) (V 14 0 22).toNat 0 (by omega) (by omega) cs1
  refine this.trans ?_
  show (if ff (rgB V a b c) (V 14 0 22).toNat 0 = -9 then _ else some (xi (w32 (-100 - ff (rgB V a b c) (V 14 0 22).toNat 0)), V) : XR) = _
  unfold pgF
  by_cases c1 : ff (rgB V a b c) (V 14 0 22).toNat 0 = -9
  · rw [if_pos c1, if_neg (c := ff (rgB V a b c) (V 14 0 22).toNat 0 ≠ -9) (fun k => k c1)]
    by_cases c2 : odB V a b c = true
    · have := hx c2
      have hm : mxF V a b ≠ -9 := by unfold mxF; split <;> omega
      rw [if_pos c2, if_pos c2, if_pos hm]
    · rw [if_neg c2, if_neg c2, if_neg (fun k => k rfl)]
  · rw [if_neg c1, if_pos (c := ff (rgB V a b c) (V 14 0 22).toNat 0 ≠ -9) c1, if_pos c1]
theorem Inv.pair {V : XM} (h : Inv V) {a b c : Int} (ia : 0 ≤ a ∧ a < (V 14 0 9)) (ib : 0 ≤ b ∧ b < (V 14 0 9)) (hab : a ≠ b) (hc : c = 0 ∨ c = 1) (oa : isO (V 21 0 (a.toNat))) (ob : isO (V 21 0 (b.toNat))) (hn : (V 14 0 22) < 300) (hp : (V 14 0 27) < 16) (hod : odB V a b c = false) : Inv (rPair (cPair V (V 14 0 22) (V 14 0 27) a b c) (V 14 0 22) (V 14 0 27) a b c) := by
  obtain ⟨⟨ck1, ck2, ck3, cp1, cp2, cp3, ct1, ct2, ct3, cs1, cs2, cs3, cq1, cq2, cq3, cr1, cr2, cr3, cf1, cf2, cf3, cb1, cb2, cb3, cw1, cw2, cw3, clf, clc⟩, hkin, hpro, husu, hgiv, hthg, hhom, hput, hrin, hsen, hbar, hset, hmos, hpai, hrel, hmap, hdoo, hshe, htab, hwor⟩ := h
  have T : Told V (rPair (cPair V (V 14 0 22) (V 14 0 27) a b c) (V 14 0 22) (V 14 0 27) a b c) 4 (a) (b) (-9) (c) := ⟨xu_rw V 33 0 _ _, xu_rw V 34 0 _ _, xu_rw V 35 0 _ _, xu_rw V 36 0 _ _, xu_rw V 85 0 _ _, xu_rw V 86 0 _ _, xu_rw V 87 0 _ _, xu_rw V 88 0 _ _, rfl⟩
  refine ⟨⟨ck1, ck2, ck3, cp1, cp2, cp3, ct1, ct2, ct3, by show 0 ≤ (V 14 0 22) + 1; omega, by show (V 14 0 22) + 1 ≤ 300; omega, rfl, by show 0 ≤ (V 14 0 27) + 1; omega, by show (V 14 0 27) + 1 ≤ 16; omega, rfl, cr1, cr2, cr3, cf1, cf2, cf3, cb1, cb2, cb3, cw1, cw2, cw3, clf, clc⟩, hkin, hpro, husu, hgiv, hthg, hhom, (I_put.tell hput T cs1 (by omega) rfl rfl rfl rfl rfl rfl), hrin, (I_sen.tell hsen T cs1 (by omega) (by omega) (by omega) (by omega) rfl), (I_bar.tell hbar T cs1 (by omega) rfl rfl), (I_set.tell hset T cs1 (by omega) rfl rfl rfl rfl rfl rfl), (I_mos.tell hmos T cs1 (by omega) rfl rfl rfl rfl rfl rfl rfl rfl), ?_, (I_rel.tell hrel T cs1 (by omega) (by omega) rfl rfl rfl rfl rfl), hmap, (I_doo.tell hdoo T cs1 (by omega) rfl rfl), hshe, htab, hwor⟩
  obtain ⟨_, _, _, _, T5, T6, T7, T8, T9⟩ := T
  have e46 : (rPair (cPair V (V 14 0 22) (V 14 0 27) a b c) (V 14 0 22) (V 14 0 27) a b c) 46 0 = zup (V 46 0) (V 14 0 27).toNat a := xu_rw V 46 0 _ _
  have e47 : (rPair (cPair V (V 14 0 22) (V 14 0 27) a b c) (V 14 0 22) (V 14 0 27) a b c) 47 0 = zup (V 47 0) (V 14 0 27).toNat b := xu_rw V 47 0 _ _
  have e48 : (rPair (cPair V (V 14 0 22) (V 14 0 27) a b c) (V 14 0 22) (V 14 0 27) a b c) 48 0 = zup (V 48 0) (V 14 0 27).toNat c := xu_rw V 48 0 _ _
  have e49 : (rPair (cPair V (V 14 0 22) (V 14 0 27) a b c) (V 14 0 22) (V 14 0 27) a b c) 49 0 = zup (V 49 0) (V 14 0 27).toNat (V 14 0 22) := xu_rw V 49 0 _ _
  have e21 : (rPair (cPair V (V 14 0 22) (V 14 0 27) a b c) (V 14 0 22) (V 14 0 27) a b c) 21 0 = V 21 0 := rfl
  have e78 : (rPair (cPair V (V 14 0 22) (V 14 0 27) a b c) (V 14 0 22) (V 14 0 27) a b c) 78 0 = V 78 0 := rfl
  have e80 : (rPair (cPair V (V 14 0 22) (V 14 0 27) a b c) (V 14 0 22) (V 14 0 27) a b c) 80 0 = V 80 0 := rfl
  have et : (rPair (cPair V (V 14 0 22) (V 14 0 27) a b c) (V 14 0 22) (V 14 0 27) a b c) 14 0 9 = V 14 0 9 := rfl
  have ep : (rPair (cPair V (V 14 0 22) (V 14 0 27) a b c) (V 14 0 22) (V 14 0 27) a b c) 14 0 27 = (V 14 0 27) + 1 := rfl
  clear ck1 ck2 ck3 cp1 cp2 cp3 cr1 cr2 cr3 cf1 cf2 cf3 cb1 cb2 cb3 cw1 cw2 cw3 clf clc hkin hpro husu hgiv hthg hhom hput hrin hsen hbar hset hmos hrel hmap hdoo hshe htab hwor
  unfold I_pai
  rw [e46, e47, e48, e49, e21, e78, e80, et, ep, T5, T6, T7, T8, T9]
  refine ⟨fun p k1 k2 => ?_, fun u k1 k2 k3 => ?_⟩
  · by_cases hx : p = (V 14 0 27)
    · subst hx
      rw [zup_eq, zup_eq, zup_eq, zup_eq, zup_eq, zup_eq, zup_eq, zup_eq]
      refine ⟨cs1, by omega, rfl, rfl, rfl, rfl, hc, ia.1, ia.2, ib.1, ib.2, hab, oa, ob, fun g1 g2 => ?_, fun q g1 g2 => by omega⟩
      unfold odB at hod
      simp only [decide_eq_false_iff_not] at hod
      clear T5 T6 T7 T8 T9 e46 e47 e48 e49
      constructor
      · intro e
        rcases hc with hc | hc
        · exact absurd ⟨g1, g2, .inl ⟨e, by omega⟩⟩ hod
        · exact hc
      · intro e
        exact Decidable.byContradiction (fun k => hod ⟨g1, g2, .inr ⟨k, e⟩⟩)
    · have hne : p.toNat ≠ (V 14 0 27).toNat := by omega
      obtain ⟨y1, y2, y3, y4, y5, y6, y7, y8, y9, y10, y11, y12, y13, y14, y15, y16⟩ := hpai.1 p k1 (by omega)
      have hn2 : (V 49 0 (p.toNat)).toNat ≠ (V 14 0 22).toNat := by omega
      rw [zup_ne hne, zup_ne hne, zup_ne hne, zup_ne hne, zup_ne hn2, zup_ne hn2, zup_ne hn2, zup_ne hn2]
      refine ⟨y1, by omega, y3, y4, y5, y6, y7, y8, y9, y10, y11, y12, y13, y14, y15, fun q g1 g2 => ?_⟩
      by_cases hq : q = (V 14 0 27)
      · subst hq; rw [zup_eq]; exact y2
      · rw [zup_ne (by omega)]; exact y16 q g1 (by omega)
  · by_cases hu : u = (V 14 0 22)
    · exact ⟨(V 14 0 27), cq1, by omega, by rw [zup_eq]; exact hu.symm⟩
    · rw [zup_ne (by omega)] at k3
      obtain ⟨p, x1, x2, x3⟩ := hpai.2 u k1 (by omega) k3
      exact ⟨p, x1, by omega, by rw [zup_ne (by omega)]; exact x3⟩
theorem g_pair (d : Nat) (V : XM) (h : Inv V) (a b c : Int) (hc : c = 0 ∨ c = 1) : AG d 144 241 [xi a, xi b, xi c] V := by
  have h' := h
  obtain ⟨⟨ck1, ck2, ck3, cp1, cp2, cp3, ct1, ct2, ct3, cs1, cs2, cs3, cq1, cq2, cq3, cr1, cr2, cr3, cf1, cf2, cf3, cb1, cb2, cb3, cw1, cw2, cw3, clf, clc⟩, hkin, hpro, husu, hgiv, hthg, hhom, hput, hrin, hsen, hbar, hset, hmos, hpai, hrel, hmap, hdoo, hshe, htab, hwor⟩ := h'
  by_cases ia : 0 ≤ a ∧ a < (V 14 0 9)
  · by_cases ib : 0 ≤ b ∧ b < (V 14 0 9)
    · obtain ⟨ta1, ta2, ta3, ta4, ta5, ta6, _⟩ := hthg a ia.1 ia.2
      obtain ⟨tb1, tb2, tb3, tb4, tb5, tb6, _⟩ := hthg b ib.1 ib.2
      have hb := h.rb
      have A1 := fun e => y_cOne e V ia.1 (show a < 64 by omega)
      have A2 := fun e => y_cOne e V ib.1 (show b < 64 by omega)
      have B1 := fun e => y_rFixed e V hb ia.1 ia.2
      have B2 := fun e => y_rFixed e V hb ib.1 ib.2
      have B3 := fun e => y_rBackdrop e V hb ia.1 ia.2
      have B4 := fun e => y_rBackdrop e V hb ib.1 ib.2
      by_cases i1 : a = b
      · exact AG.no (x := xi (-3)) h (by rw [s_X11_pair]; (repeat (first | rw [ci_r] | rw [cl_r] | rw [cv_r] | rw [ite_b2] | rw [ite_b21] | rw [if_pos (by omega)] | rw [if_neg (by omega)] | rw [y_kindsHas] | rw [y_isKind _ _ _ (by omega)] | rw [y_valHas] | rw [y_isProp _ _ _ (by omega)] | rw [y_thgHas] | rw [y_isThing _ _ _ (by omega)] | rw [y_inRange] | rw [y_in] | rw [s_X11_faulted] | rw [s_X12_faulty] | rw [s_X11_against] | rw [s_X12_against] | simp (disch := omega) only [w32_i, Int.add_sub_cancel, mc64, mc24, mc6, mc8, mc5] | fail))) (by rw [s_X12_pair]; (repeat (first | rw [ci_r] | rw [cl_r] | rw [cv_r] | rw [ite_b2] | rw [ite_b21] | rw [if_pos (by omega)] | rw [if_neg (by omega)] | rw [y_kindsHas] | rw [y_isKind _ _ _ (by omega)] | rw [y_valHas] | rw [y_isProp _ _ _ (by omega)] | rw [y_thgHas] | rw [y_isThing _ _ _ (by omega)] | rw [y_inRange] | rw [y_in] | rw [s_X11_faulted] | rw [s_X12_faulty] | rw [s_X11_against] | rw [s_X12_against] | simp (disch := omega) only [w32_i, Int.add_sub_cancel, mc64, mc24, mc6, mc8, mc5] | fail)))
      by_cases i2 : isO (V 21 0 (a.toNat))
      · by_cases i3 : isO (V 21 0 (b.toNat))
        · by_cases i4 : (V 14 0 22) = 300
          · exact AG.no (x := xi (-4)) h (by rw [s_X11_pair]; (repeat (first | rw [ci_r] | rw [cl_r] | rw [cv_r] | rw [ite_b2] | rw [ite_b21] | rw [if_pos (by omega)] | rw [if_neg (by omega)] | rw [y_kindsHas] | rw [y_isKind _ _ _ (by omega)] | rw [y_valHas] | rw [y_isProp _ _ _ (by omega)] | rw [y_thgHas] | rw [y_isThing _ _ _ (by omega)] | rw [y_inRange] | rw [y_in] | rw [s_X11_faulted] | rw [s_X12_faulty] | rw [s_X11_against] | rw [s_X12_against] | simp (disch := omega) only [w32_i, Int.add_sub_cancel, mc64, mc24, mc6, mc8, mc5] | rw [A1] | rw [A2] | rw [y_full]))) (by rw [s_X12_pair]; (repeat (first | rw [ci_r] | rw [cl_r] | rw [cv_r] | rw [ite_b2] | rw [ite_b21] | rw [if_pos (by omega)] | rw [if_neg (by omega)] | rw [y_kindsHas] | rw [y_isKind _ _ _ (by omega)] | rw [y_valHas] | rw [y_isProp _ _ _ (by omega)] | rw [y_thgHas] | rw [y_isThing _ _ _ (by omega)] | rw [y_inRange] | rw [y_in] | rw [s_X11_faulted] | rw [s_X12_faulty] | rw [s_X11_against] | rw [s_X12_against] | simp (disch := omega) only [w32_i, Int.add_sub_cancel, mc64, mc24, mc6, mc8, mc5] | rw [B1] | rw [B2] | rw [B3] | rw [B4])))
          by_cases i5 : (V 14 0 27) = 16
          · exact AG.no (x := xi (-4)) h (by rw [s_X11_pair]; (repeat (first | rw [ci_r] | rw [cl_r] | rw [cv_r] | rw [ite_b2] | rw [ite_b21] | rw [if_pos (by omega)] | rw [if_neg (by omega)] | rw [y_kindsHas] | rw [y_isKind _ _ _ (by omega)] | rw [y_valHas] | rw [y_isProp _ _ _ (by omega)] | rw [y_thgHas] | rw [y_isThing _ _ _ (by omega)] | rw [y_inRange] | rw [y_in] | rw [s_X11_faulted] | rw [s_X12_faulty] | rw [s_X11_against] | rw [s_X12_against] | simp (disch := omega) only [w32_i, Int.add_sub_cancel, mc64, mc24, mc6, mc8, mc5] | rw [A1] | rw [A2] | rw [y_full]))) (by rw [s_X12_pair]; (repeat (first | rw [ci_r] | rw [cl_r] | rw [cv_r] | rw [ite_b2] | rw [ite_b21] | rw [if_pos (by omega)] | rw [if_neg (by omega)] | rw [y_kindsHas] | rw [y_isKind _ _ _ (by omega)] | rw [y_valHas] | rw [y_isProp _ _ _ (by omega)] | rw [y_thgHas] | rw [y_isThing _ _ _ (by omega)] | rw [y_inRange] | rw [y_in] | rw [s_X11_faulted] | rw [s_X12_faulty] | rw [s_X11_against] | rw [s_X12_against] | simp (disch := omega) only [w32_i, Int.add_sub_cancel, mc64, mc24, mc6, mc8, mc5] | rw [B1] | rw [B2] | rw [B3] | rw [B4])))
          have ha3 : (V 21 0 (a.toNat)) ≠ 3 := by rcases i2 with e | e | e <;> omega
          have hb3 : (V 21 0 (b.toNat)) ≠ 3 := by rcases i3 with e | e | e <;> omega
          have hcP := fun e => y_cPairing e V h ia ib i1 hc ha3 hb3
          have hx : odB V a b c = true → 0 ≤ (V 79 0 ((6 * a).toNat)) ∧ 0 ≤ (V 79 0 ((6 * b).toNat)) := fun k => by
            unfold odB at k
            simp only [decide_eq_true_eq] at k
            have p1 := ((hput.1 a ia.1 ia.2).2 0 (by omega) k.1).1
            have p2 := ((hput.1 b ib.1 ib.2).2 0 (by omega) k.2.1).1
            rw [show 6 * a + 0 = 6 * a by omega] at p1
            rw [show 6 * b + 0 = 6 * b by omega] at p2
            exact ⟨p1, p2⟩
          have h0a := (hhom a ia.1 ia.2).2.1
          have h0b := (hhom b ib.1 ib.2).2.1
          have hpg : pgF V a b c = -9 ∨ 0 ≤ pgF V a b c := by
            unfold pgF
            split
            · rcases ff_spec (rgB V a b c) (V 14 0 22).toNat 0 with ⟨x1, _⟩ | ⟨s, x1, _⟩
              · exact .inl x1
              · exact .inr (by omega)
            · split
              · rename_i k; have := hx k; unfold mxF; right; split <;> omega
              · exact .inl rfl
          have hR : ∀ W : XM, RB W (V 21 0) → (W 14 0 9) = (V 14 0 9) → (W 14 0 22) = (V 14 0 22) → (W 14 0 27) = (V 14 0 27) → (odB W a b c = true → 0 ≤ (W 79 0 ((6 * a).toNat)) ∧ 0 ≤ (W 79 0 ((6 * b).toNat))) → 0 ≤ (W 80 0 (a.toNat)) → 0 ≤ (W 80 0 (b.toNat)) → Yf (d + 30) 241 [xr 14 0, xi a, xi b, xi c] W = if pgF W a b c ≠ -9 then some (xi (w32 (-100 - pgF W a b c)), W) else some (xi (W 14 0 22), rPair W (W 14 0 22) (W 14 0 27) a b c) := by
            intro W hb k1 k2 k3 k4 k5 k6
            have B1 := fun e => y_rFixed e W hb ia.1 (by omega)
            have B2 := fun e => y_rFixed e W hb ib.1 (by omega)
            have B3 := fun e => y_rBackdrop e W hb ia.1 (by omega)
            have B4 := fun e => y_rBackdrop e W hb ib.1 (by omega)
            have hP := y_rPairing (d + 27) W (a := a) (b := b) (c := c) (by omega) (by omega) i1 hc (by omega) (by omega) (by omega) (by omega) k4 k5 k6
            rw [s_X12_pair]
            rcases hc with hc0 | hc1
            · subst hc0
              (repeat (first | rw [ci_r] | rw [cl_r] | rw [cv_r] | rw [ite_b2] | rw [ite_b21] | rw [if_pos (by omega)] | rw [if_neg (by omega)] | rw [y_kindsHas] | rw [y_isKind _ _ _ (by omega)] | rw [y_valHas] | rw [y_isProp _ _ _ (by omega)] | rw [y_thgHas] | rw [y_isThing _ _ _ (by omega)] | rw [y_inRange] | rw [y_in] | rw [s_X11_faulted] | rw [s_X12_faulty] | rw [s_X11_against] | rw [s_X12_against] | simp (disch := omega) only [w32_i, Int.add_sub_cancel, mc64, mc24, mc6, mc8, mc5] | rw [B1] | rw [B2] | rw [B3] | rw [B4]))
              exact hP
            · subst hc1
              (repeat (first | rw [ci_r] | rw [cl_r] | rw [cv_r] | rw [ite_b2] | rw [ite_b21] | rw [if_pos (by omega)] | rw [if_neg (by omega)] | rw [y_kindsHas] | rw [y_isKind _ _ _ (by omega)] | rw [y_valHas] | rw [y_isProp _ _ _ (by omega)] | rw [y_thgHas] | rw [y_isThing _ _ _ (by omega)] | rw [y_inRange] | rw [y_in] | rw [s_X11_faulted] | rw [s_X12_faulty] | rw [s_X11_against] | rw [s_X12_against] | simp (disch := omega) only [w32_i, Int.add_sub_cancel, mc64, mc24, mc6, mc8, mc5] | rw [B1] | rw [B2] | rw [B3] | rw [B4]))
              exact hP
          by_cases i6 : pgF V a b c = -9
          · have hod : odB V a b c = false := by
              cases hz : odB V a b c with
              | false => rfl
              | true =>
                unfold pgF at i6
                rw [hz] at i6
                have := hx hz
                have hm : 0 ≤ mxF V a b := by unfold mxF; split <;> omega
                split at i6
                · rename_i k; exact absurd i6 k
                · rw [if_pos rfl] at i6; omega
            have hcc : c % 2 = c := by omega
            refine AG.mk (x := xi (V 14 0 22)) (V1 := cPair V (V 14 0 22) (V 14 0 27) a b c) ?_ ((hR _ (by exact h.rb) (by rfl) (by rfl) (by rfl) (by exact hx) (by exact h0a) (by exact h0b)).trans (if_neg (by exact fun k => k i6))) ?_ rfl
            · have ea : ∀ e, Yf (e + 1) 28 [xr 7 0, xi a, xi b, xi c, xi (V 14 0 22)] (cTell V (V 14 0 22) 4 a b (-9)) = some (xi 0, cPair V (V 14 0 22) (V 14 0 27) a b c) := by
                intro e
                have eq : (cTell V (V 14 0 22) 4 a b (-9)) 7 0 15 = (V 14 0 27) := cq3
                rw [s_X1_addPair, eq, hcc, if_pos (by omega), if_pos (by omega), if_pos (by omega), if_pos (by omega), w32_i (by omega) (by omega)]
                rfl
              rw [s_X11_pair]
              (repeat (first | rw [ci_r] | rw [cl_r] | rw [cv_r] | rw [ite_b2] | rw [ite_b21] | rw [if_pos (by omega)] | rw [if_neg (by omega)] | rw [y_kindsHas] | rw [y_isKind _ _ _ (by omega)] | rw [y_valHas] | rw [y_isProp _ _ _ (by omega)] | rw [y_thgHas] | rw [y_isThing _ _ _ (by omega)] | rw [y_inRange] | rw [y_in] | rw [s_X11_faulted] | rw [s_X12_faulty] | rw [s_X11_against] | rw [s_X12_against] | simp (disch := omega) only [w32_i, Int.add_sub_cancel, mc64, mc24, mc6, mc8, mc5] | rw [A1] | rw [A2] | rw [y_full] | rw [hcP] | rw [y_sadd _ V _ _ _ _ cs3 (by omega) (by omega)] | rw [ea]))
            · exact Inv.pair h ia ib i1 hc i2 i3 (by omega) (by omega) hod
          · exact AG.no h (x := xi (w32 (-100 - pgF V a b c))) (by rw [s_X11_pair]; (repeat (first | rw [ci_r] | rw [cl_r] | rw [cv_r] | rw [ite_b2] | rw [ite_b21] | rw [if_pos (by omega)] | rw [if_neg (by omega)] | rw [y_kindsHas] | rw [y_isKind _ _ _ (by omega)] | rw [y_valHas] | rw [y_isProp _ _ _ (by omega)] | rw [y_thgHas] | rw [y_isThing _ _ _ (by omega)] | rw [y_inRange] | rw [y_in] | rw [s_X11_faulted] | rw [s_X12_faulty] | rw [s_X11_against] | rw [s_X12_against] | simp (disch := omega) only [w32_i, Int.add_sub_cancel, mc64, mc24, mc6, mc8, mc5] | rw [A1] | rw [A2] | rw [y_full] | rw [hcP]))) ((hR V h.rb rfl rfl rfl hx h0a h0b).trans (if_pos i6))
        · have j : (V 21 0 (b.toNat)) = 1 ∨ (V 21 0 (b.toNat)) = 2 ∨ (V 21 0 (b.toNat)) = 3 := by omega
          by_cases j2 : (V 21 0 (b.toNat)) = 3
          · exact AG.no (x := xi (-3)) h (by rw [s_X11_pair]; (repeat (first | rw [ci_r] | rw [cl_r] | rw [cv_r] | rw [ite_b2] | rw [ite_b21] | rw [if_pos (by omega)] | rw [if_neg (by omega)] | rw [y_kindsHas] | rw [y_isKind _ _ _ (by omega)] | rw [y_valHas] | rw [y_isProp _ _ _ (by omega)] | rw [y_thgHas] | rw [y_isThing _ _ _ (by omega)] | rw [y_inRange] | rw [y_in] | rw [s_X11_faulted] | rw [s_X12_faulty] | rw [s_X11_against] | rw [s_X12_against] | simp (disch := omega) only [w32_i, Int.add_sub_cancel, mc64, mc24, mc6, mc8, mc5] | rw [A1] | rw [A2]))) (by rw [s_X12_pair]; (repeat (first | rw [ci_r] | rw [cl_r] | rw [cv_r] | rw [ite_b2] | rw [ite_b21] | rw [if_pos (by omega)] | rw [if_neg (by omega)] | rw [y_kindsHas] | rw [y_isKind _ _ _ (by omega)] | rw [y_valHas] | rw [y_isProp _ _ _ (by omega)] | rw [y_thgHas] | rw [y_isThing _ _ _ (by omega)] | rw [y_inRange] | rw [y_in] | rw [s_X11_faulted] | rw [s_X12_faulty] | rw [s_X11_against] | rw [s_X12_against] | simp (disch := omega) only [w32_i, Int.add_sub_cancel, mc64, mc24, mc6, mc8, mc5] | rw [B1] | rw [B2] | rw [B3] | rw [B4])))
          · exact AG.no (x := xi (-3)) h (by rw [s_X11_pair]; (repeat (first | rw [ci_r] | rw [cl_r] | rw [cv_r] | rw [ite_b2] | rw [ite_b21] | rw [if_pos (by omega)] | rw [if_neg (by omega)] | rw [y_kindsHas] | rw [y_isKind _ _ _ (by omega)] | rw [y_valHas] | rw [y_isProp _ _ _ (by omega)] | rw [y_thgHas] | rw [y_isThing _ _ _ (by omega)] | rw [y_inRange] | rw [y_in] | rw [s_X11_faulted] | rw [s_X12_faulty] | rw [s_X11_against] | rw [s_X12_against] | simp (disch := omega) only [w32_i, Int.add_sub_cancel, mc64, mc24, mc6, mc8, mc5] | rw [A1] | rw [A2]))) (by rw [s_X12_pair]; (repeat (first | rw [ci_r] | rw [cl_r] | rw [cv_r] | rw [ite_b2] | rw [ite_b21] | rw [if_pos (by omega)] | rw [if_neg (by omega)] | rw [y_kindsHas] | rw [y_isKind _ _ _ (by omega)] | rw [y_valHas] | rw [y_isProp _ _ _ (by omega)] | rw [y_thgHas] | rw [y_isThing _ _ _ (by omega)] | rw [y_inRange] | rw [y_in] | rw [s_X11_faulted] | rw [s_X12_faulty] | rw [s_X11_against] | rw [s_X12_against] | simp (disch := omega) only [w32_i, Int.add_sub_cancel, mc64, mc24, mc6, mc8, mc5] | rw [B1] | rw [B2] | rw [B3] | rw [B4])))
      · by_cases j2 : (V 21 0 (a.toNat)) = 3
        · exact AG.no (x := xi (-3)) h (by rw [s_X11_pair]; (repeat (first | rw [ci_r] | rw [cl_r] | rw [cv_r] | rw [ite_b2] | rw [ite_b21] | rw [if_pos (by omega)] | rw [if_neg (by omega)] | rw [y_kindsHas] | rw [y_isKind _ _ _ (by omega)] | rw [y_valHas] | rw [y_isProp _ _ _ (by omega)] | rw [y_thgHas] | rw [y_isThing _ _ _ (by omega)] | rw [y_inRange] | rw [y_in] | rw [s_X11_faulted] | rw [s_X12_faulty] | rw [s_X11_against] | rw [s_X12_against] | simp (disch := omega) only [w32_i, Int.add_sub_cancel, mc64, mc24, mc6, mc8, mc5] | rw [A1] | rw [A2]))) (by rw [s_X12_pair]; (repeat (first | rw [ci_r] | rw [cl_r] | rw [cv_r] | rw [ite_b2] | rw [ite_b21] | rw [if_pos (by omega)] | rw [if_neg (by omega)] | rw [y_kindsHas] | rw [y_isKind _ _ _ (by omega)] | rw [y_valHas] | rw [y_isProp _ _ _ (by omega)] | rw [y_thgHas] | rw [y_isThing _ _ _ (by omega)] | rw [y_inRange] | rw [y_in] | rw [s_X11_faulted] | rw [s_X12_faulty] | rw [s_X11_against] | rw [s_X12_against] | simp (disch := omega) only [w32_i, Int.add_sub_cancel, mc64, mc24, mc6, mc8, mc5] | rw [B1] | rw [B2] | rw [B3] | rw [B4])))
        · exact AG.no (x := xi (-3)) h (by rw [s_X11_pair]; (repeat (first | rw [ci_r] | rw [cl_r] | rw [cv_r] | rw [ite_b2] | rw [ite_b21] | rw [if_pos (by omega)] | rw [if_neg (by omega)] | rw [y_kindsHas] | rw [y_isKind _ _ _ (by omega)] | rw [y_valHas] | rw [y_isProp _ _ _ (by omega)] | rw [y_thgHas] | rw [y_isThing _ _ _ (by omega)] | rw [y_inRange] | rw [y_in] | rw [s_X11_faulted] | rw [s_X12_faulty] | rw [s_X11_against] | rw [s_X12_against] | simp (disch := omega) only [w32_i, Int.add_sub_cancel, mc64, mc24, mc6, mc8, mc5] | rw [A1] | rw [A2]))) (by rw [s_X12_pair]; (repeat (first | rw [ci_r] | rw [cl_r] | rw [cv_r] | rw [ite_b2] | rw [ite_b21] | rw [if_pos (by omega)] | rw [if_neg (by omega)] | rw [y_kindsHas] | rw [y_isKind _ _ _ (by omega)] | rw [y_valHas] | rw [y_isProp _ _ _ (by omega)] | rw [y_thgHas] | rw [y_isThing _ _ _ (by omega)] | rw [y_inRange] | rw [y_in] | rw [s_X11_faulted] | rw [s_X12_faulty] | rw [s_X11_against] | rw [s_X12_against] | simp (disch := omega) only [w32_i, Int.add_sub_cancel, mc64, mc24, mc6, mc8, mc5] | rw [B1] | rw [B2] | rw [B3] | rw [B4])))
    · exact AG.no (x := xi (-1)) h (by rw [s_X11_pair]; (repeat (first | rw [ci_r] | rw [cl_r] | rw [cv_r] | rw [ite_b2] | rw [ite_b21] | rw [if_pos (by omega)] | rw [if_neg (by omega)] | rw [y_kindsHas] | rw [y_isKind _ _ _ (by omega)] | rw [y_valHas] | rw [y_isProp _ _ _ (by omega)] | rw [y_thgHas] | rw [y_isThing _ _ _ (by omega)] | rw [y_inRange] | rw [y_in] | rw [s_X11_faulted] | rw [s_X12_faulty] | rw [s_X11_against] | rw [s_X12_against] | simp (disch := omega) only [w32_i, Int.add_sub_cancel, mc64, mc24, mc6, mc8, mc5] | fail))) (by rw [s_X12_pair]; (repeat (first | rw [ci_r] | rw [cl_r] | rw [cv_r] | rw [ite_b2] | rw [ite_b21] | rw [if_pos (by omega)] | rw [if_neg (by omega)] | rw [y_kindsHas] | rw [y_isKind _ _ _ (by omega)] | rw [y_valHas] | rw [y_isProp _ _ _ (by omega)] | rw [y_thgHas] | rw [y_isThing _ _ _ (by omega)] | rw [y_inRange] | rw [y_in] | rw [s_X11_faulted] | rw [s_X12_faulty] | rw [s_X11_against] | rw [s_X12_against] | simp (disch := omega) only [w32_i, Int.add_sub_cancel, mc64, mc24, mc6, mc8, mc5] | fail)))
  · exact AG.no (x := xi (-1)) h (by rw [s_X11_pair]; (repeat (first | rw [ci_r] | rw [cl_r] | rw [cv_r] | rw [ite_b2] | rw [ite_b21] | rw [if_pos (by omega)] | rw [if_neg (by omega)] | rw [y_kindsHas] | rw [y_isKind _ _ _ (by omega)] | rw [y_valHas] | rw [y_isProp _ _ _ (by omega)] | rw [y_thgHas] | rw [y_isThing _ _ _ (by omega)] | rw [y_inRange] | rw [y_in] | rw [s_X11_faulted] | rw [s_X12_faulty] | rw [s_X11_against] | rw [s_X12_against] | simp (disch := omega) only [w32_i, Int.add_sub_cancel, mc64, mc24, mc6, mc8, mc5] | fail))) (by rw [s_X12_pair]; (repeat (first | rw [ci_r] | rw [cl_r] | rw [cv_r] | rw [ite_b2] | rw [ite_b21] | rw [if_pos (by omega)] | rw [if_neg (by omega)] | rw [y_kindsHas] | rw [y_isKind _ _ _ (by omega)] | rw [y_valHas] | rw [y_isProp _ _ _ (by omega)] | rw [y_thgHas] | rw [y_isThing _ _ _ (by omega)] | rw [y_inRange] | rw [y_in] | rw [s_X11_faulted] | rw [s_X12_faulty] | rw [s_X11_against] | rw [s_X12_against] | simp (disch := omega) only [w32_i, Int.add_sub_cancel, mc64, mc24, mc6, mc8, mc5] | fail)))
