/-! pairs, and what is inside -/
theorem ff_map {f g : Nat → Bool} {m : Nat → Nat} {N P : Nat} (h1 : ∀ p, p < P → m p < N ∧ g p = f (m p)) (h2 : ∀ p q, p < q → q < P → m p < m q) (h3 : ∀ s, s < N → f s = true → ∃ p, p < P ∧ m p = s) : ff f N 0 = if ff g P 0 = -9 then -9 else (m (ff g P 0).toNat : Int) := by
  rcases ff_spec g P 0 with ⟨x1, x2⟩ | ⟨p, x1, x2, x3, x4, x5⟩
  · rw [if_pos x1]
    rcases ff_spec f N 0 with ⟨y1, _⟩ | ⟨s, y1, y2, y3, y4, y5⟩
    · exact y1
    · obtain ⟨p, hp, e⟩ := h3 s (by omega) y4
      have := x2 p (by omega) (by omega)
      rw [(h1 p hp).2, e, y4] at this
      cases this
  · rw [x1, if_neg (by omega), Int.toNat_natCast]
    obtain ⟨a1, a2⟩ := h1 p (by omega)
    rw [a2] at x4
    rcases ff_spec f N 0 with ⟨y1, y2⟩ | ⟨s, y1, y2, y3, y4, y5⟩
    · have := y2 (m p) (by omega) (by omega); rw [x4] at this; cases this
    · rw [y1]
      obtain ⟨q, hq, e⟩ := h3 s (by omega) y4
      by_cases c1 : s < m p
      · by_cases c2 : q < p
        · have := x5 q (by omega) c2
          rw [(h1 q hq).2, e, y4] at this
          cases this
        · by_cases c3 : q = p
          · subst c3; omega
          · have := h2 p q (by omega) hq; omega
      · by_cases c2 : m p < s
        · have := y5 (m p) (by omega) c2
          rw [x4] at this
          cases this
        · omega
def cpB (on ot al H C : Nat → Int) (t w : Int) (p : Nat) : Bool := decide ((on p = t ∧ 0 < C (ot p).toNat ∧ ((H (6 * ot p).toNat = w ∧ al p ≠ 1) ∨ (H (6 * ot p).toNat ≠ w ∧ al p = 1))) ∨ (on p ≠ t ∧ ot p = t ∧ 0 < C (on p).toNat ∧ ((H (6 * on p).toNat = w ∧ al p ≠ 1) ∨ (H (6 * on p).toNat ≠ w ∧ al p = 1))))
def PD (V : XM) : Prop := 0 ≤ (V 7 0 15) ∧ (V 7 0 15) ≤ 16 ∧ ∀ p : Int, 0 ≤ p → p < (V 7 0 15) →
  0 ≤ (V 46 0 (p.toNat)) ∧ (V 46 0 (p.toNat)) < 64 ∧ 0 ≤ (V 47 0 (p.toNat)) ∧ (V 47 0 (p.toNat)) < 64 ∧ ((V 48 0 (p.toNat)) = 0 ∨ (V 48 0 (p.toNat)) = 1) ∧
  (V 38 0 ((V 46 0 (p.toNat)).toNat)) ≤ 6 ∧ (V 38 0 ((V 47 0 (p.toNat)).toNat)) ≤ 6
def cpF (V : XM) (t w : Int) : Int := if ff (cpB (V 46 0) (V 47 0) (V 48 0) (V 37 0) (V 38 0) t w) (V 7 0 15).toNat 0 = -9 then -9 else (V 49 0 ((ff (cpB (V 46 0) (V 47 0) (V 48 0) (V 37 0) (V 38 0) t w) (V 7 0 15).toNat 0).toNat))
theorem y_partner (d : Nat) (V : XM) {p : Int} (t : Int) (h0 : 0 ≤ p) (h1 : p < 16) : Yf (d + 1) 18 [xr 7 0, xi p, xi t] V = some (xi (if (V 46 0 (p.toNat)) = t then (V 47 0 (p.toNat)) else if (V 47 0 (p.toNat)) = t then (V 46 0 (p.toNat)) else -9), V) := by
  rw [s_X1_partner]
  (repeat' (first | rfl | rw [ci_r] | rw [cl_r] | rw [cv_r] | rw [ite_b2] | rw [ite_b21] | rw [if_pos (by omega)] | rw [if_neg (by omega)] | rw [y_kindsHas] | rw [y_isKind _ _ _ (by omega)] | rw [y_valHas] | rw [y_isProp _ _ _ (by omega)] | rw [y_thgHas] | rw [y_isThing _ _ _ (by omega)] | rw [y_inRange] | rw [y_in] | rw [s_X11_faulted] | rw [s_X12_faulty] | rw [s_X11_against] | rw [s_X12_against] | simp (disch := omega) only [w32_i, Int.add_sub_cancel, mc64, mc24, mc6, mc8, mc5] | fail | split))
theorem y_laid (d : Nat) (V : XM) {t : Int} (h0 : 0 ≤ t) (h1 : t < 64) : Yf (d + 1) 9 [xr 7 0, xi t] V = some (xi (b2 (0 < (V 38 0 (t.toNat)))), V) := by
  rw [s_X1_isLaid]
  ((try unfold b2); (repeat' split) <;> first | rfl | (exfalso; omega))
theorem y_cPairs (d : Nat) (V : XM) (hp : PD V) (t w : Int) : Yf (d + 3) 17 [xr 7 0, xi t, xi w] V = some (xi (cpF V t w), V) := by
  obtain ⟨p1, p2, p3⟩ := hp
  rw [s_X1_againstPairs]
  have := loop_find (F := fun l => Xf (d + 2) 17 2 [xr 7 0, xi t, xi w, xi l, xr 0 0] [] V) (f := cpB (V 46 0) (V 47 0) (V 48 0) (V 37 0) (V 38 0) t w) (A := fun l => some (xi (V 49 0 (l.toNat)), V)) (Z := some (xi (-9), V)) (N := (V 7 0 15)) (fun l h2 h3 => by
    show Xf (d + 2) 17 2 [xr 7 0, xi t, xi w, xi l, xr 0 0] [] V = if _ then (if _ then _ else Xf (d + 2) 17 2 [xr 7 0, xi t, xi w, xi (l + 1), xr 0 0] [] V) else _
    rw [s_X1_againstPairs_2]
    by_cases hl : l < (V 7 0 15)
    · obtain ⟨q1, q2, q3, q4, q5, q6, q7⟩ := p3 l h2 hl
      rw [if_pos hl, if_pos hl, y_partner _ V t h2 (by omega), ci_r]
      unfold cpB
      simp only [decide_eq_true_eq]
      by_cases c1 : (V 46 0 (l.toNat)) = t
      · rw [if_pos c1]
        by_cases c3 : 0 < (V 38 0 ((V 47 0 (l.toNat)).toNat))
        · by_cases c4 : (V 37 0 ((6 * (V 47 0 (l.toNat))).toNat)) = w <;> by_cases c5 : (V 48 0 (l.toNat)) = 1
          all_goals (repeat (first | rw [ci_r] | rw [cl_r] | rw [cv_r] | rw [ite_b2] | rw [ite_b21] | rw [if_pos (by omega)] | rw [if_neg (by omega)] | rw [y_kindsHas] | rw [y_isKind _ _ _ (by omega)] | rw [y_valHas] | rw [y_isProp _ _ _ (by omega)] | rw [y_thgHas] | rw [y_isThing _ _ _ (by omega)] | rw [y_inRange] | rw [y_in] | rw [s_X11_faulted] | rw [s_X12_faulty] | rw [s_X11_against] | rw [s_X12_against] | simp (disch := omega) only [w32_i, Int.add_sub_cancel, mc64, mc24, mc6, mc8, mc5] | rw [y_laid _ V (by omega) (by omega)] | rw [y_homeAt _ V _ (by omega) (by omega) (by omega)] | rw [show ∀ x : Int, x + 0 = x from Int.add_zero]))
        · (repeat (first | rw [ci_r] | rw [cl_r] | rw [cv_r] | rw [ite_b2] | rw [ite_b21] | rw [if_pos (by omega)] | rw [if_neg (by omega)] | rw [y_kindsHas] | rw [y_isKind _ _ _ (by omega)] | rw [y_valHas] | rw [y_isProp _ _ _ (by omega)] | rw [y_thgHas] | rw [y_isThing _ _ _ (by omega)] | rw [y_inRange] | rw [y_in] | rw [s_X11_faulted] | rw [s_X12_faulty] | rw [s_X11_against] | rw [s_X12_against] | simp (disch := omega) only [w32_i, Int.add_sub_cancel, mc64, mc24, mc6, mc8, mc5] | rw [y_laid _ V (by omega) (by omega)]))
      · rw [if_neg c1]
        by_cases c2 : (V 47 0 (l.toNat)) = t
        · rw [if_pos c2]
          by_cases c3 : 0 < (V 38 0 ((V 46 0 (l.toNat)).toNat))
          · by_cases c4 : (V 37 0 ((6 * (V 46 0 (l.toNat))).toNat)) = w <;> by_cases c5 : (V 48 0 (l.toNat)) = 1
            all_goals (repeat (first | rw [ci_r] | rw [cl_r] | rw [cv_r] | rw [ite_b2] | rw [ite_b21] | rw [if_pos (by omega)] | rw [if_neg (by omega)] | rw [y_kindsHas] | rw [y_isKind _ _ _ (by omega)] | rw [y_valHas] | rw [y_isProp _ _ _ (by omega)] | rw [y_thgHas] | rw [y_isThing _ _ _ (by omega)] | rw [y_inRange] | rw [y_in] | rw [s_X11_faulted] | rw [s_X12_faulty] | rw [s_X11_against] | rw [s_X12_against] | simp (disch := omega) only [w32_i, Int.add_sub_cancel, mc64, mc24, mc6, mc8, mc5] | rw [y_laid _ V (by omega) (by omega)] | rw [y_homeAt _ V _ (by omega) (by omega) (by omega)] | rw [show ∀ x : Int, x + 0 = x from Int.add_zero]))
          · (repeat (first | rw [ci_r] | rw [cl_r] | rw [cv_r] | rw [ite_b2] | rw [ite_b21] | rw [if_pos (by omega)] | rw [if_neg (by omega)] | rw [y_kindsHas] | rw [y_isKind _ _ _ (by omega)] | rw [y_valHas] | rw [y_isProp _ _ _ (by omega)] | rw [y_thgHas] | rw [y_isThing _ _ _ (by omega)] | rw [y_inRange] | rw [y_in] | rw [s_X11_faulted] | rw [s_X12_faulty] | rw [s_X11_against] | rw [s_X12_against] | simp (disch := omega) only [w32_i, Int.add_sub_cancel, mc64, mc24, mc6, mc8, mc5] | rw [y_laid _ V (by omega) (by omega)]))
        · rw [if_neg c2]
          (repeat (first | rw [ci_r] | rw [cl_r] | rw [cv_r] | rw [ite_b2] | rw [ite_b21] | rw [if_pos (by omega)] | rw [if_neg (by omega)] | rw [y_kindsHas] | rw [y_isKind _ _ _ (by omega)] | rw [y_valHas] | rw [y_isProp _ _ _ (by omega)] | rw [y_thgHas] | rw [y_isThing _ _ _ (by omega)] | rw [y_inRange] | rw [y_in] | rw [s_X11_faulted] | rw [s_X12_faulty] | rw [s_X11_against] | rw [s_X12_against] | simp (disch := omega) only [w32_i, Int.add_sub_cancel, mc64, mc24, mc6, mc8, mc5] | fail))
    · rw [if_neg hl, if_neg hl]) (V 7 0 15).toNat 0 (by omega) (by omega) p1
  refine this.trans ?_
  unfold cpF
  show (if ff _ (V 7 0 15).toNat 0 = -9 then some (xi (-9), V) else some (xi (V 49 0 ((ff _ (V 7 0 15).toNat 0).toNat)), V) : XR) = _
  split <;> rfl
def rpB (V : XM) (t w : Int) (s : Nat) : Bool := decide ((V 85 0 s) = 4 ∧ (((V 86 0 s) = t ∧ 0 < (V 80 0 ((V 87 0 s).toNat)) ∧ (((V 78 0 ((6 * (V 87 0 s)).toNat)) = w ∧ (V 88 0 s) ≠ 1) ∨ ((V 78 0 ((6 * (V 87 0 s)).toNat)) ≠ w ∧ (V 88 0 s) = 1))) ∨
  ((V 86 0 s) ≠ t ∧ (V 87 0 s) = t ∧ 0 < (V 80 0 ((V 86 0 s).toNat)) ∧ (((V 78 0 ((6 * (V 86 0 s)).toNat)) = w ∧ (V 88 0 s) ≠ 1) ∨ ((V 78 0 ((6 * (V 86 0 s)).toNat)) ≠ w ∧ (V 88 0 s) = 1)))))
def RP (V : XM) : Prop := 0 ≤ (V 14 0 22) ∧ (V 14 0 22) ≤ 300 ∧ (V 14 0 9) ≤ 64 ∧ HO V (V 14 0 9) ∧ ∀ s : Int, 0 ≤ s → s < (V 14 0 22) → (V 85 0 (s.toNat)) = 4 → 0 ≤ (V 86 0 (s.toNat)) ∧ (V 86 0 (s.toNat)) < (V 14 0 9) ∧ 0 ≤ (V 87 0 (s.toNat)) ∧ (V 87 0 (s.toNat)) < (V 14 0 9)
theorem Inv.rp {V : XM} (h : Inv V) : RP V := by
  have hh := h.ho
  obtain ⟨⟨ck1, ck2, ck3, cp1, cp2, cp3, ct1, ct2, ct3, cs1, cs2, cs3, cq1, cq2, cq3, cr1, cr2, cr3, cf1, cf2, cf3, cb1, cb2, cb3, cw1, cw2, cw3, clf, clc⟩, hkin, hpro, husu, hgiv, hthg, hhom, hput, hrin, hsen, hbar, hset, hmos, hpai, hrel, hmap, hdoo, hshe, htab, hwor⟩ := h
  refine ⟨cs1, cs2, ct2, hh, fun s k1 k2 k3 => ?_⟩
  obtain ⟨p, x1, x2, x3⟩ := hpai.2 s k1 k2 k3
  obtain ⟨y1, y2, y3, y4, y5, y6, y7, y8, y9, y10, y11, _⟩ := hpai.1 p x1 x2
  rw [x3] at y4 y5
  omega
theorem y_rPairs (d : Nat) (V : XM) (hr : RP V) (t w : Int) (hw : 0 ≤ w) : Yf (d + 2) 218 [xr 14 0, xi t, xi w] V = some (xi (ff (rpB V t w) (V 14 0 22).toNat 0), V) := by
  obtain ⟨cs1, cs2, ct2, ho, h4⟩ := hr
  rw [s_X12_pairAgainst]
  refine loop_first (F := fun l => Xf (d + 1) 218 2 [xr 14 0, xi t, xi w, xi l, xr 0 0, xr 0 0] [] V) cs1 (fun l h0 h1 => ?_)
  show Xf (d + 1) 218 2 [xr 14 0, xi t, xi w, xi l, xr 0 0, xr 0 0] [] V = if _ then (if _ then _ else Xf (d + 1) 218 2 [xr 14 0, xi t, xi w, xi (l + 1), xr 0 0, xr 0 0] [] V) else _
  rw [s_X12_pairAgainst_2]
  by_cases hl : l < (V 14 0 22)
  · rw [if_pos hl, if_pos hl, if_pos (by omega)]
    unfold rpB
    simp only [decide_eq_true_eq]
    by_cases c0 : (V 85 0 (l.toNat)) = 4
    · obtain ⟨q1, q2, q3, q4⟩ := h4 l h0 hl c0
      rw [if_pos c0, if_pos (by omega)]
      by_cases c1 : (V 86 0 (l.toNat)) = t
      · obtain ⟨z1, z2⟩ := ho.2 _ q3 q4
        by_cases c3 : 0 < (V 80 0 ((V 87 0 (l.toNat)).toNat))
        · have z3 := z2 c3
          by_cases c4 : (V 78 0 ((6 * (V 87 0 (l.toNat))).toNat)) = w <;> by_cases c5 : (V 88 0 (l.toNat)) = 1
          all_goals (repeat (first | rw [ci_r] | rw [cl_r] | rw [cv_r] | rw [ite_b2] | rw [ite_b21] | rw [if_pos (by omega)] | rw [if_neg (by omega)] | rw [y_kindsHas] | rw [y_isKind _ _ _ (by omega)] | rw [y_valHas] | rw [y_isProp _ _ _ (by omega)] | rw [y_thgHas] | rw [y_isThing _ _ _ (by omega)] | rw [y_inRange] | rw [y_in] | rw [s_X11_faulted] | rw [s_X12_faulty] | rw [s_X11_against] | rw [s_X12_against] | simp (disch := omega) only [w32_i, Int.add_sub_cancel, mc64, mc24, mc6, mc8, mc5] | rw [y_placeOf _ V (by omega) (by omega)]))
        · (repeat (first | rw [ci_r] | rw [cl_r] | rw [cv_r] | rw [ite_b2] | rw [ite_b21] | rw [if_pos (by omega)] | rw [if_neg (by omega)] | rw [y_kindsHas] | rw [y_isKind _ _ _ (by omega)] | rw [y_valHas] | rw [y_isProp _ _ _ (by omega)] | rw [y_thgHas] | rw [y_isThing _ _ _ (by omega)] | rw [y_inRange] | rw [y_in] | rw [s_X11_faulted] | rw [s_X12_faulty] | rw [s_X11_against] | rw [s_X12_against] | simp (disch := omega) only [w32_i, Int.add_sub_cancel, mc64, mc24, mc6, mc8, mc5] | rw [y_placeOf _ V (by omega) (by omega)]))
      · by_cases c2 : (V 87 0 (l.toNat)) = t
        · obtain ⟨z1, z2⟩ := ho.2 _ q1 q2
          by_cases c3 : 0 < (V 80 0 ((V 86 0 (l.toNat)).toNat))
          · have z3 := z2 c3
            by_cases c4 : (V 78 0 ((6 * (V 86 0 (l.toNat))).toNat)) = w <;> by_cases c5 : (V 88 0 (l.toNat)) = 1
            all_goals (repeat (first | rw [ci_r] | rw [cl_r] | rw [cv_r] | rw [ite_b2] | rw [ite_b21] | rw [if_pos (by omega)] | rw [if_neg (by omega)] | rw [y_kindsHas] | rw [y_isKind _ _ _ (by omega)] | rw [y_valHas] | rw [y_isProp _ _ _ (by omega)] | rw [y_thgHas] | rw [y_isThing _ _ _ (by omega)] | rw [y_inRange] | rw [y_in] | rw [s_X11_faulted] | rw [s_X12_faulty] | rw [s_X11_against] | rw [s_X12_against] | simp (disch := omega) only [w32_i, Int.add_sub_cancel, mc64, mc24, mc6, mc8, mc5] | rw [y_placeOf _ V (by omega) (by omega)]))
          · (repeat (first | rw [ci_r] | rw [cl_r] | rw [cv_r] | rw [ite_b2] | rw [ite_b21] | rw [if_pos (by omega)] | rw [if_neg (by omega)] | rw [y_kindsHas] | rw [y_isKind _ _ _ (by omega)] | rw [y_valHas] | rw [y_isProp _ _ _ (by omega)] | rw [y_thgHas] | rw [y_isThing _ _ _ (by omega)] | rw [y_inRange] | rw [y_in] | rw [s_X11_faulted] | rw [s_X12_faulty] | rw [s_X11_against] | rw [s_X12_against] | simp (disch := omega) only [w32_i, Int.add_sub_cancel, mc64, mc24, mc6, mc8, mc5] | rw [y_placeOf _ V (by omega) (by omega)]))
        · (repeat (first | rw [ci_r] | rw [cl_r] | rw [cv_r] | rw [ite_b2] | rw [ite_b21] | rw [if_pos (by omega)] | rw [if_neg (by omega)] | rw [y_kindsHas] | rw [y_isKind _ _ _ (by omega)] | rw [y_valHas] | rw [y_isProp _ _ _ (by omega)] | rw [y_thgHas] | rw [y_isThing _ _ _ (by omega)] | rw [y_inRange] | rw [y_in] | rw [s_X11_faulted] | rw [s_X12_faulty] | rw [s_X11_against] | rw [s_X12_against] | simp (disch := omega) only [w32_i, Int.add_sub_cancel, mc64, mc24, mc6, mc8, mc5] | fail))
    · (repeat (first | rw [ci_r] | rw [cl_r] | rw [cv_r] | rw [ite_b2] | rw [ite_b21] | rw [if_pos (by omega)] | rw [if_neg (by omega)] | rw [y_kindsHas] | rw [y_isKind _ _ _ (by omega)] | rw [y_valHas] | rw [y_isProp _ _ _ (by omega)] | rw [y_thgHas] | rw [y_isThing _ _ _ (by omega)] | rw [y_inRange] | rw [y_in] | rw [s_X11_faulted] | rw [s_X12_faulty] | rw [s_X11_against] | rw [s_X12_against] | simp (disch := omega) only [w32_i, Int.add_sub_cancel, mc64, mc24, mc6, mc8, mc5] | fail))
  · rw [if_neg hl, if_neg hl]
theorem Inv.pd {V : XM} (h : Inv V) : PD V := by
  have hh := h.hc
  obtain ⟨⟨ck1, ck2, ck3, cp1, cp2, cp3, ct1, ct2, ct3, cs1, cs2, cs3, cq1, cq2, cq3, cr1, cr2, cr3, cf1, cf2, cf3, cb1, cb2, cb3, cw1, cw2, cw3, clf, clc⟩, hkin, hpro, husu, hgiv, hthg, hhom, hput, hrin, hsen, hbar, hset, hmos, hpai, hrel, hmap, hdoo, hshe, htab, hwor⟩ := h
  refine ⟨by omega, by omega, fun p k1 k2 => ?_⟩
  obtain ⟨y1, y2, y3, y4, y5, y6, y7, y8, y9, y10, y11, _⟩ := hpai.1 p k1 (by omega)
  have a1 := hh _ y8 y9
  have a2 := hh _ y10 y11
  exact ⟨y8, by omega, y10, by omega, y7, by omega, by omega⟩
theorem pairs_eq {V : XM} (h : Inv V) (t w : Int) : cpF V t w = ff (rpB V t w) (V 14 0 22).toNat 0 ∧ (ff (rpB V t w) (V 14 0 22).toNat 0 = -9 ∨ 0 ≤ ff (rpB V t w) (V 14 0 22).toNat 0) := by
  have hh := h.hc
  obtain ⟨⟨ck1, ck2, ck3, cp1, cp2, cp3, ct1, ct2, ct3, cs1, cs2, cs3, cq1, cq2, cq3, cr1, cr2, cr3, cf1, cf2, cf3, cb1, cb2, cb3, cw1, cw2, cw3, clf, clc⟩, hkin, hpro, husu, hgiv, hthg, hhom, hput, hrin, hsen, hbar, hset, hmos, hpai, hrel, hmap, hdoo, hshe, htab, hwor⟩ := h
  constructor
  · have := ff_map (f := rpB V t w) (g := cpB (V 46 0) (V 47 0) (V 48 0) (V 37 0) (V 38 0) t w) (m := fun p => (V 49 0 p).toNat) (N := (V 14 0 22).toNat) (P := (V 14 0 27).toNat) (fun p hp => by
      obtain ⟨y1, y2, y3, y4, y5, y6, y7, y8, y9, y10, y11, _⟩ := hpai.1 p (by omega) (by omega)
      have a1 := hh _ y8 y9
      have a2 := hh _ y10 y11
      rw [Int.toNat_natCast] at y1 y2 y3 y4 y5 y6 y7 y8 y9 y10 y11 a1 a2
      refine ⟨by show (V 49 0 p).toNat < _; omega, ?_⟩
      unfold cpB rpB
      refine decide_eq_decide.mpr ?_
      show _ ↔ ((V 85 0 ((V 49 0 p).toNat)) = 4 ∧ _)
      rw [← y4, ← y5, ← y6]
      omega) (fun p q hpq hq => by
      obtain ⟨y1, y2, y3, y4, y5, y6, y7, y8, y9, y10, y11, y12, y13, y14, y15, y16⟩ := hpai.1 p (by omega) (by omega)
      have := y16 q (by omega) (by omega)
      rw [Int.toNat_natCast] at y1 this
      rw [Int.toNat_natCast] at this
      show (V 49 0 p).toNat < (V 49 0 q).toNat
      omega) (fun s hs hf => by
      unfold rpB at hf
      simp only [decide_eq_true_eq] at hf
      obtain ⟨p, x1, x2, x3⟩ := hpai.2 s (by omega) (by omega) (by rw [Int.toNat_natCast]; exact hf.1)
      refine ⟨p.toNat, by omega, ?_⟩
      show (V 49 0 (p.toNat)).toNat = s
      omega)
    rw [this]
    unfold cpF
    rw [cq3]
    split
    · rfl
    · rename_i hne
      rcases ff_spec (cpB (V 46 0) (V 47 0) (V 48 0) (V 37 0) (V 38 0) t w) (V 14 0 27).toNat 0 with ⟨x1, _⟩ | ⟨s, x1, x2, x3, x4, x5⟩
      · exact absurd x1 hne
      · rw [x1, Int.toNat_natCast]
        obtain ⟨y1, _⟩ := hpai.1 s (by omega) (by omega)
        rw [Int.toNat_natCast] at y1
        show _ = ((V 49 0 s).toNat : Int)
        omega
  · rcases ff_spec (rpB V t w) (V 14 0 22).toNat 0 with ⟨x1, _⟩ | ⟨s, x1, _⟩
    · exact .inl x1
    · exact .inr (by omega)
/-- held by a holder: no backdrops -/
def heB (V : XM) (B : Nat → Int) (w : Int) (t : Nat) : Bool := decide (B t ≠ 3 ∧ 0 < (V 80 0 t) ∧ (V 78 0 (6 * t)) = w)
theorem y_held (d : Nat) (V : XM) {B : Nat → Int} (hb : RB V B) (ho : HO V (V 14 0 9)) {w : Int} (hw : 0 ≤ w) : Yf (d + 4) 217 [xr 14 0, xi w] V = some (xi (cnt (heB V B w) (V 14 0 9).toNat), V) := by
  obtain ⟨hp, ct1, ct2, h6⟩ := id hb
  rw [s_X12_held]
  refine loop_acc (F := fun c l => Xf (d + 3) 217 4 [xr 14 0, xi w, xi c, xi l] [] V) (S := cnt (heB V B w)) (N := (V 14 0 9)) (fun l h0 h1 => ?_) ?_ (V 14 0 9).toNat 0 (by omega) (by omega) ct1
  · show Xf (d + 3) 217 4 [xr 14 0, xi w, xi _, xi l] [] V = Xf (d + 3) 217 4 [xr 14 0, xi w, xi (cnt (heB V B w) l.toNat + if heB V B w l.toNat = true then 1 else 0), xi (l + 1)] [] V
    have hcb := cnt_b (heB V B w) l.toNat
    obtain ⟨z1, z2⟩ := ho.2 l h0 h1
    rw [s_X12_held_4, if_pos h1, y_rBackdrop _ V hb h0 h1, ci_r, ite_b2]
    generalize cnt (heB V B w) l.toNat = c at *
    unfold heB
    simp only [decide_eq_true_eq]
    rw [show 6 * l.toNat = (6 * l).toNat by omega]
    by_cases c1 : B l.toNat = 3
    · (repeat (first | rw [ci_r] | rw [cl_r] | rw [cv_r] | rw [ite_b2] | rw [ite_b21] | rw [if_pos (by omega)] | rw [if_neg (by omega)] | rw [y_kindsHas] | rw [y_isKind _ _ _ (by omega)] | rw [y_valHas] | rw [y_isProp _ _ _ (by omega)] | rw [y_thgHas] | rw [y_isThing _ _ _ (by omega)] | rw [y_inRange] | rw [y_in] | rw [s_X11_faulted] | rw [s_X12_faulty] | rw [s_X11_against] | rw [s_X12_against] | simp (disch := omega) only [w32_i, Int.add_sub_cancel, mc64, mc24, mc6, mc8, mc5] | fail))
    · by_cases c2 : 0 < (V 80 0 (l.toNat))
      · have z3 := z2 c2
        by_cases c3 : (V 78 0 ((6 * l).toNat)) = w
        · (repeat (first | rw [ci_r] | rw [cl_r] | rw [cv_r] | rw [ite_b2] | rw [ite_b21] | rw [if_pos (by omega)] | rw [if_neg (by omega)] | rw [y_kindsHas] | rw [y_isKind _ _ _ (by omega)] | rw [y_valHas] | rw [y_isProp _ _ _ (by omega)] | rw [y_thgHas] | rw [y_isThing _ _ _ (by omega)] | rw [y_inRange] | rw [y_in] | rw [s_X11_faulted] | rw [s_X12_faulty] | rw [s_X11_against] | rw [s_X12_against] | simp (disch := omega) only [w32_i, Int.add_sub_cancel, mc64, mc24, mc6, mc8, mc5] | rw [y_placeOf _ V (by omega) (by omega)]))
        · (repeat (first | rw [ci_r] | rw [cl_r] | rw [cv_r] | rw [ite_b2] | rw [ite_b21] | rw [if_pos (by omega)] | rw [if_neg (by omega)] | rw [y_kindsHas] | rw [y_isKind _ _ _ (by omega)] | rw [y_valHas] | rw [y_isProp _ _ _ (by omega)] | rw [y_thgHas] | rw [y_isThing _ _ _ (by omega)] | rw [y_inRange] | rw [y_in] | rw [s_X11_faulted] | rw [s_X12_faulty] | rw [s_X11_against] | rw [s_X12_against] | simp (disch := omega) only [w32_i, Int.add_sub_cancel, mc64, mc24, mc6, mc8, mc5] | rw [y_placeOf _ V (by omega) (by omega)]))
      · (repeat (first | rw [ci_r] | rw [cl_r] | rw [cv_r] | rw [ite_b2] | rw [ite_b21] | rw [if_pos (by omega)] | rw [if_neg (by omega)] | rw [y_kindsHas] | rw [y_isKind _ _ _ (by omega)] | rw [y_valHas] | rw [y_isProp _ _ _ (by omega)] | rw [y_thgHas] | rw [y_isThing _ _ _ (by omega)] | rw [y_inRange] | rw [y_in] | rw [s_X11_faulted] | rw [s_X12_faulty] | rw [s_X11_against] | rw [s_X12_against] | simp (disch := omega) only [w32_i, Int.add_sub_cancel, mc64, mc24, mc6, mc8, mc5] | rw [y_placeOf _ V (by omega) (by omega)]))
  · show Xf (d + 3) 217 4 [xr 14 0, xi w, xi _, xi (V 14 0 9)] [] V = _
    rw [s_X12_held_4, if_neg (by omega)]
