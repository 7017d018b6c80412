/-! calls: kinds and properties -/
theorem c_kind (d : Nat) (V : XM) (h : Inv V) (a : Int) : Yf (d + 30) 124 [xr 2 0, xi a] V = if ¬ (0 ≤ a ∧ a < (V 14 0 1)) then some (xi (-1), V) else if (V 14 0 1) = 24 then some (xi (-4), V) else
    some (xi (V 14 0 1), xu (xu V 19 0 (V 14 0 1).toNat a) 3 0 1 ((V 14 0 1) + 1)) := by
  obtain ⟨ck1, ck2, ck3, cp1, cp2, cp3, ct1, ct2, ct3, cs1, cs2, cs3, cq1, cq2, cq3, cr1, cr2, cr3, cf1, cf2, cf3, cb1, cb2, cb3, cw1, cw2, cw3, clf, clc⟩ := h.1
  rw [s_X11_kind]
  (repeat' (first | rfl | rw [ci_r] | rw [cl_r] | rw [cv_r] | rw [ite_b2] | rw [ite_b21] | rw [if_pos (by omega)] | rw [if_neg (by omega)] | rw [y_kindsHas] | rw [y_isKind _ _ _ (by omega)] | rw [y_valHas] | rw [y_isProp _ _ _ (by omega)] | rw [y_thgHas] | rw [y_isThing _ _ _ (by omega)] | rw [y_inRange] | rw [y_in] | rw [s_X11_faulted] | rw [s_X12_faulty] | rw [s_X11_against] | rw [s_X12_against] | simp (disch := omega) only [w32_i, Int.add_sub_cancel, mc64, mc24, mc6, mc8, mc5] | rw [s_X0_add]; rw [ck3] | split))
  (all_goals first | rfl | (exfalso; omega))
theorem r_kind (d : Nat) (V : XM) (a : Int) (h1 : 6 ≤ (V 14 0 1)) (h2 : (V 14 0 1) ≤ 24) : Yf (d + 30) 196 [xr 14 0, xi a] V = if ¬ (0 ≤ a ∧ a < (V 14 0 1)) then some (xi (-1), V) else if (V 14 0 1) = 24 then some (xi (-4), V) else
    some (xi (V 14 0 1), xu (xu V 67 0 (V 14 0 1).toNat a) 14 0 1 ((V 14 0 1) + 1)) := by
  rw [s_X12_kind]
  (repeat' (first | rfl | rw [ci_r] | rw [cl_r] | rw [cv_r] | rw [ite_b2] | rw [ite_b21] | rw [if_pos (by omega)] | rw [if_neg (by omega)] | rw [y_kindsHas] | rw [y_isKind _ _ _ (by omega)] | rw [y_valHas] | rw [y_isProp _ _ _ (by omega)] | rw [y_thgHas] | rw [y_isThing _ _ _ (by omega)] | rw [y_inRange] | rw [y_in] | rw [s_X11_faulted] | rw [s_X12_faulty] | rw [s_X11_against] | rw [s_X12_against] | simp (disch := omega) only [w32_i, Int.add_sub_cancel, mc64, mc24, mc6, mc8, mc5] | fail | split))
  (all_goals first | rfl | (exfalso; omega))
theorem KD.zup {p : Nat → Int} {n a : Int} (hp : KD p n) (h0 : 0 ≤ n) (hn : n < 24) (ha : 0 ≤ a ∧ a < n) : KD (zup p n.toNat a) (n + 1) := by
  refine ⟨by omega, fun k h1 h2 => ?_⟩
  rw [zup_e]
  by_cases hk : k = n.toNat
  · rw [if_pos hk]; omega
  · rw [if_neg hk]
    exact hp.2 k h1 (by omega)
theorem kbase_zup {p : Nat → Int} {n a : Int} (hp : KD p n) (h0 : 0 ≤ n) (hn : n < 24) (ha : 0 ≤ a ∧ a < n) : ∀ (m : Nat) (k : Int), k.toNat ≤ m → 0 ≤ k → k < n → kbase (zup p n.toNat a) k = kbase p k := by
  intro m
  induction m with
  | zero =>
    intro k hm h1 h2
    rw [kbase_eq (hp.zup h0 hn ha) k h1 (by omega), kbase_eq hp k h1 h2, if_neg (by omega), if_neg (by omega)]
  | succ m ih =>
    intro k hm h1 h2
    rw [kbase_eq (hp.zup h0 hn ha) k h1 (by omega), kbase_eq hp k h1 h2]
    by_cases h5 : 5 < k
    · rw [if_pos h5, if_pos h5, zup_ne (by omega)]
      have := hp.at (k := k) (by omega) h2
      exact ih _ (by omega) (by omega) (by omega)
    · rw [if_neg h5, if_neg h5]
theorem g_kind (d : Nat) (V : XM) (h : Inv V) (a : Int) : AG d 124 196 [xi a] V := by
  have h' := h
  obtain ⟨⟨ck1, ck2, ck3, cp1, cp2, cp3, ct1, ct2, ct3, cs1, cs2, cs3, cq1, cq2, cq3, cr1, cr2, cr3, cf1, cf2, cf3, cb1, cb2, cb3, cw1, cw2, cw3, clf, clc⟩, hkin, hpro, husu, hgiv, hthg, hhom, hput, hrin, hsen, hbar, hset, hmos, hpai, hrel, hmap, hdoo, hshe, htab, hwor⟩ := h'
  by_cases ha : ¬ (0 ≤ a ∧ a < (V 14 0 1))
  · exact AG.no h ((c_kind d V h a).trans (if_pos ha)) ((r_kind d V a ck1 ck2).trans (if_pos ha))
  by_cases hb : (V 14 0 1) = 24
  · exact AG.no h ((c_kind d V h a).trans ((if_neg ha).trans (if_pos hb))) ((r_kind d V a ck1 ck2).trans ((if_neg ha).trans (if_pos hb)))
  refine AG.mk ((c_kind d V h a).trans ((if_neg ha).trans (if_neg hb))) ((r_kind d _ a ?_ ?_).trans ((if_neg ?_).trans (if_neg ?_))) ?_ rfl
  · exact ck1
  · exact ck2
  · exact ha
  · exact hb
  refine ⟨⟨by show (6 : Int) ≤ (V 14 0 1) + 1; omega, by show (V 14 0 1) + 1 ≤ 24; omega, rfl, cp1, cp2, cp3, ct1, ct2, ct3, cs1, cs2, cs3, cq1, cq2, cq3, cr1, cr2, cr3, cf1, cf2, cf3, cb1, cb2, cb3, cw1, cw2, cw3, clf, clc⟩, ?_, ?_, husu, hgiv, ?_, hhom, hput, hrin, hsen, hbar, hset, hmos, hpai, hrel, hmap, hdoo, hshe, htab, hwor⟩
  · refine ⟨?_, ?_, ?_⟩
    · have e := xu_rw V 67 0 (V 14 0 1).toNat a
      have := hkin.1.zup (a := a) (by omega) (by omega) (by omega)
      rw [← e] at this
      exact this
    · intro k h1 h2
      have h3 : (k : Int) < (V 14 0 1) + 1 := h2
      show (xu V 19 0 (V 14 0 1).toNat a) 19 0 k = (xu V 67 0 (V 14 0 1).toNat a) 67 0 k
      rw [xu_rw, xu_rw, zup_e, zup_e]
      by_cases hk : k = (V 14 0 1).toNat
      · rw [if_pos hk, if_pos hk]
      · rw [if_neg hk, if_neg hk]; exact hkin.2.1 k h1 (by omega)
    · show (xu V 19 0 (V 14 0 1).toNat a) 19 0 0 = -9
      rw [xu_rw, zup_ne (by omega)]; exact hkin.2.2
  · intro q h1 h2
    obtain ⟨a1, a2, a3, a4⟩ := hpro q h1 h2
    exact ⟨a1, a2, by show (V 68 0 (q.toNat)) < (V 14 0 1) + 1; omega, a4⟩
  · intro t h1 h2
    obtain ⟨a1, a2, a3, a4, a5⟩ := hthg t h1 h2
    refine ⟨a1, a2, by show (V 73 0 (t.toNat)) < (V 14 0 1) + 1; omega, ?_, a5⟩
    show kbase ((xu V 67 0 (V 14 0 1).toNat a) 67 0) (V 73 0 (t.toNat)) = _
    rw [xu_rw, kbase_zup hkin.1 (by omega) (by omega) (by omega) _ _ (Nat.le_refl _) a2 a3]
    exact a4
theorem c_is (d : Nat) (V : XM) (h : Inv V) (a b : Int) : Yf (d + 30) 125 [xr 2 0, xi a, xi b] V = if ¬ (0 ≤ a ∧ a < (V 14 0 1)) ∨ ¬ (0 ≤ b ∧ b < (V 14 0 1)) then some (xi (-1), V) else some (xi (b2 (kfit (V 67 0) a b = true)), V) := by
  obtain ⟨⟨ck1, ck2, ck3, cp1, cp2, cp3, ct1, ct2, ct3, cs1, cs2, cs3, cq1, cq2, cq3, cr1, cr2, cr3, cf1, cf2, cf3, cb1, cb2, cb3, cw1, cw2, cw3, clf, clc⟩, hkin, hpro, husu, hgiv, hthg, hhom, hput, hrin, hsen, hbar, hset, hmos, hpai, hrel, hmap, hdoo, hshe, htab, hwor⟩ := h
  rw [s_X11_is]
  (repeat' (first | rfl | rw [ci_r] | rw [cl_r] | rw [cv_r] | rw [ite_b2] | rw [ite_b21] | rw [if_pos (by omega)] | rw [if_neg (by omega)] | rw [y_kindsHas] | rw [y_isKind _ _ _ (by omega)] | rw [y_valHas] | rw [y_isProp _ _ _ (by omega)] | rw [y_thgHas] | rw [y_isThing _ _ _ (by omega)] | rw [y_inRange] | rw [y_in] | rw [s_X11_faulted] | rw [s_X12_faulty] | rw [s_X11_against] | rw [s_X12_against] | simp (disch := omega) only [w32_i, Int.add_sub_cancel, mc64, mc24, mc6, mc8, mc5] | rw [y_fits _ V _ hkin.1 hkin.2.1 _ _ (by omega) (by omega) (by omega), ci_r, ite_b2, some_b2] | split))
  (all_goals first | rfl | (exfalso; omega))
theorem r_is (d : Nat) (V : XM) (h : Inv V) (a b : Int) : Yf (d + 30) 197 [xr 14 0, xi a, xi b] V = if ¬ (0 ≤ a ∧ a < (V 14 0 1)) ∨ ¬ (0 ≤ b ∧ b < (V 14 0 1)) then some (xi (-1), V) else some (xi (b2 (kfit (V 67 0) a b = true)), V) := by
  obtain ⟨⟨ck1, ck2, ck3, cp1, cp2, cp3, ct1, ct2, ct3, cs1, cs2, cs3, cq1, cq2, cq3, cr1, cr2, cr3, cf1, cf2, cf3, cb1, cb2, cb3, cw1, cw2, cw3, clf, clc⟩, hkin, hpro, husu, hgiv, hthg, hhom, hput, hrin, hsen, hbar, hset, hmos, hpai, hrel, hmap, hdoo, hshe, htab, hwor⟩ := h
  rw [s_X12_is]
  (repeat' (first | rfl | rw [ci_r] | rw [cl_r] | rw [cv_r] | rw [ite_b2] | rw [ite_b21] | rw [if_pos (by omega)] | rw [if_neg (by omega)] | rw [y_kindsHas] | rw [y_isKind _ _ _ (by omega)] | rw [y_valHas] | rw [y_isProp _ _ _ (by omega)] | rw [y_thgHas] | rw [y_isThing _ _ _ (by omega)] | rw [y_inRange] | rw [y_in] | rw [s_X11_faulted] | rw [s_X12_faulty] | rw [s_X11_against] | rw [s_X12_against] | simp (disch := omega) only [w32_i, Int.add_sub_cancel, mc64, mc24, mc6, mc8, mc5] | rw [y_comesTo _ V hkin.1 _ _ (by omega) (by omega), ci_r, ite_b2, some_b2] | split))
  (all_goals first | rfl | (exfalso; omega))
theorem AG.eq {d m1 m2 : Nat} {as : List XS} {V : XM} {c : Prop} [Decidable c] {x y : XS} (h : Inv V) (hc : Yf (d + 30) m1 (xr 2 0 :: as) V = if c then some (x, V) else some (y, V)) (hr : Yf (d + 30) m2 (xr 14 0 :: as) V = if c then some (x, V) else some (y, V)) : AG d m1 m2 as V := by
  by_cases hh : c
  · exact AG.no h (hc.trans (if_pos hh)) (hr.trans (if_pos hh))
  · exact AG.no h (hc.trans (if_neg hh)) (hr.trans (if_neg hh))
theorem g_is (d : Nat) (V : XM) (h : Inv V) (a b : Int) : AG d 125 197 [xi a, xi b] V := AG.eq h (c_is d V h a b) (r_is d V h a b)
