/-! property -/
theorem xfl_xu {V : XM} {g i : Nat} {lo hi x : Int} {g' i' n : Nat} {y : Int} (h : g ≠ g') : xfl (xu V g' i' n y) g i lo hi x = xu (xfl V g i lo hi x) g' i' n y := by
  funext a b c; unfold xfl xu
  by_cases h1 : a = g ∧ b = i ∧ (lo ≤ (c : Int) ∧ (c : Int) < hi) <;> by_cases h2 : a = g' ∧ b = i' ∧ c = n
  · exfalso; omega
  · simp only [if_pos h1, if_neg h2]
  · simp only [if_neg h1, if_pos h2]
  · simp only [if_neg h1, if_neg h2]
theorem w32_add (x l : Int) : w32 (w32 x + l) = w32 (x + l) := by unfold w32; omega
theorem fil_in {f : Nat → Int} {lo hi x : Int} {j : Nat} (h : lo ≤ (j : Int) ∧ (j : Int) < hi) : fil f lo hi x j = x := by unfold fil; rw [if_pos h]
theorem fil_out {f : Nat → Int} {lo hi x : Int} {j : Nat} (h : ¬ (lo ≤ (j : Int) ∧ (j : Int) < hi)) : fil f lo hi x j = f j := by unfold fil; rw [if_neg h]
theorem x_add65 (d : Nat) : ∀ (m : Nat) (V : XM) (l q : Int), (64 - l).toNat ≤ m → 0 ≤ l → l ≤ 64 → (V 5 0 9) = q → 0 ≤ q → q < 12 → Xf (d + 1) 104 65 [xr 5 0, xr 0 0, xr 0 0, xr 0 0, xi l] [] V =
    some (xi q, xu (xfl (xfl V 31 0 (64 * q + l) (64 * q + 64) (if (V 27 0 (q.toNat)) = 8 then -9 else 0)) 32 0 (64 * q + l) (64 * q + 64) (-9)) 5 0 9 (q + 1)) := by
  intro m
  induction m with
  | zero =>
    intro V l q hm h0 h1 hq h2 h3
    have hl : l = 64 := by omega
    subst hl
    rw [s_X9_add_65, if_neg (by omega), xfl_0, xfl_0, hq, w32_i (by omega) (by omega)]
  | succ m ih =>
    intro V l q hm h0 h1 hq h2 h3
    by_cases hl : l < 64
    · have e : w32 (w32 (q * 64) + l) = 64 * q + l := by rw [w32_add, w32_i (by omega) (by omega)]; omega
      rw [s_X9_add_65, if_pos hl, hq, y_empty _ _ h2 h3, cl_r, hq, e, if_pos (by omega), if_pos (by omega), w32_i (by omega) (by omega)]
      have := ih (xu (xu V 31 0 (64 * q + l).toNat (if (V 27 0 (q.toNat)) = 8 then -9 else 0)) 32 0 (64 * q + l).toNat (-9)) (l + 1) q (by omega) (by omega) (by omega) hq h2 h3
      rw [this]
      show some (xi q, xu (xfl (xfl (xu (xu V 31 0 (64 * q + l).toNat (if (V 27 0 (q.toNat)) = 8 then -9 else 0)) 32 0 (64 * q + l).toNat (-9)) 31 0 (64 * q + (l + 1)) (64 * q + 64) (if (V 27 0 (q.toNat)) = 8 then -9 else 0)) 32 0 (64 * q + (l + 1)) (64 * q + 64) (-9)) 5 0 9 (q + 1)) = _
      rw [xfl_xu (g := 31) (g' := 32) (by decide), show 64 * q + (l + 1) = (64 * q + l) + 1 by omega, xfl_s _ 31 0 _ _ _ (by omega) (by omega), xfl_s _ 32 0 _ _ _ (by omega) (by omega)]
    · have hl : l = 64 := by omega
      subst hl
      rw [s_X9_add_65, if_neg (by omega), xfl_0, xfl_0, hq, w32_i (by omega) (by omega)]
theorem x_add33 (d : Nat) : ∀ (m : Nat) (V : XM) (l q : Int), (24 - l).toNat ≤ m → 0 ≤ l → l ≤ 24 → (V 5 0 9) = q → 0 ≤ q → q < 12 → Xf d 104 33 [xr 5 0, xr 0 0, xr 0 0, xr 0 0, xi l] [] V =
    Xf d 104 65 [xr 5 0, xr 0 0, xr 0 0, xr 0 0, xi 0] [] (xfl V 30 0 (24 * q + l) (24 * q + 24) 0) := by
  intro m
  induction m with
  | zero =>
    intro V l q hm h0 h1 hq h2 h3
    have hl : l = 24 := by omega
    subst hl
    rw [s_X9_add_33, if_neg (by omega), xfl_0]
  | succ m ih =>
    intro V l q hm h0 h1 hq h2 h3
    by_cases hl : l < 24
    · have e : w32 (w32 (q * 24) + l) = 24 * q + l := by rw [w32_add, w32_i (by omega) (by omega)]; omega
      rw [s_X9_add_33, if_pos hl, hq, e, if_pos (by omega), w32_i (by omega) (by omega)]
      have := ih (xu V 30 0 (24 * q + l).toNat 0) (l + 1) q (by omega) (by omega) (by omega) hq h2 h3
      rw [this, show 24 * q + (l + 1) = (24 * q + l) + 1 by omega, xfl_s _ 30 0 _ _ _ (by omega) (by omega)]
    · have hl : l = 24 := by omega
      subst hl
      rw [s_X9_add_33, if_neg (by omega), xfl_0]
def cAdd (V : XM) (q a b c : Int) : XM := xu (xfl (xfl (xfl (xu (xu (xu V 26 0 q.toNat a) 27 0 q.toNat b) 28 0 q.toNat c) 30 0 (24 * q) (24 * q + 24) 0) 31 0 (64 * q) (64 * q + 64) (if b = 8 then -9 else 0)) 32 0 (64 * q) (64 * q + 64) (-9)) 5 0 9 (q + 1)
theorem y_vadd (d : Nat) (V : XM) (q a b c : Int) (hq : (V 5 0 9) = q) (h2 : 0 ≤ q) (h3 : q < 12) : Yf (d + 2) 104 [xr 5 0, xi a, xi b, xi c] V = some (xi q, cAdd V q a b c) := by
  rw [s_X9_add, hq, if_pos (by omega), if_pos (by omega), if_pos (by omega), x_add33 _ 24 _ 0 q (by omega) (by omega) (by omega) (by exact hq) h2 h3, x_add65 _ 64 _ 0 q (by omega) (by omega) (by omega) (by exact hq) h2 h3]
  unfold cAdd
  rw [show 64 * q + 0 = 64 * q by omega, show 24 * q + 0 = 24 * q by omega]
  have e : (xfl (xu (xu (xu V 26 0 q.toNat a) 27 0 q.toNat b) 28 0 q.toNat c) 30 0 (24 * q) (24 * q + 24) 0) 27 0 q.toNat = b := by
    show (xu V 27 0 q.toNat b) 27 0 q.toNat = b
    rw [xu_rw, zup_eq]
  rw [e]
theorem x_prop98 (d : Nat) : ∀ (m : Nat) (V : XM) (l q : Int), (64 - l).toNat ≤ m → 0 ≤ l → l ≤ 64 → (V 14 0 3) = q → 0 ≤ q → q < 12 → Xf d 198 98 [xr 14 0, xr 0 0, xr 0 0, xr 0 0, xi l] [] V =
    some (xi q, xu (xfl V 83 0 (64 * q + l) (64 * q + 64) (-9)) 14 0 3 (q + 1)) := by
  intro m
  induction m with
  | zero =>
    intro V l q hm h0 h1 hq h2 h3
    have hl : l = 64 := by omega
    subst hl
    rw [s_X12_property_98, if_neg (by omega), xfl_0, hq]
    simp (disch := omega) only [w32_i, Int.add_sub_cancel]
  | succ m ih =>
    intro V l q hm h0 h1 hq h2 h3
    by_cases hl : l < 64
    · have e : w32 (w32 (64 * q) + l) = 64 * q + l := by rw [w32_add, w32_i (by omega) (by omega)]
      rw [s_X12_property_98, if_pos hl, hq, e, if_pos (by omega), w32_i (by omega) (by omega)]
      have := ih (xu V 83 0 (64 * q + l).toNat (-9)) (l + 1) q (by omega) (by omega) (by omega) hq h2 h3
      rw [this, show 64 * q + (l + 1) = (64 * q + l) + 1 by omega, xfl_s _ 83 0 _ _ _ (by omega) (by omega)]
    · have hl : l = 64 := by omega
      subst hl
      rw [s_X12_property_98, if_neg (by omega), xfl_0, hq]
      simp (disch := omega) only [w32_i, Int.add_sub_cancel]
def rAdd (V : XM) (q a b c : Int) : XM := xu (xfl (xu (xu (xu V 68 0 q.toNat a) 69 0 q.toNat b) 70 0 q.toNat c) 83 0 (64 * q) (64 * q + 64) (-9)) 14 0 3 (q + 1)
theorem y_radd (d : Nat) (V : XM) (q a b c : Int) (hq : (V 14 0 3) = q) (h2 : 0 ≤ q) (h3 : q < 12) : Xf d 198 98 [xr 14 0, xr 0 0, xr 0 0, xr 0 0, xi 0] [] (xu (xu (xu V 68 0 q.toNat a) 69 0 q.toNat b) 70 0 q.toNat c) = some (xi q, rAdd V q a b c) := by
  rw [x_prop98 _ 64 _ 0 q (by omega) (by omega) (by omega) (by exact hq) h2 h3, show 64 * q + 0 = 64 * q by omega]
  rfl
theorem c_property (d : Nat) (V : XM) (h : Inv V) (a b c : Int) : Yf (d + 30) 126 [xr 2 0, xi a, xi b, xi c] V =
    if ¬ (0 ≤ a ∧ a < (V 14 0 1)) ∨ b = 8 ∧ ¬ (0 ≤ c ∧ c < (V 14 0 1)) then some (xi (-1), V) else if ¬ (0 ≤ b ∧ b ≤ 8) then some (xi (-2), V) else if (V 14 0 3) = 12 then some (xi (-4), V) else
    some (xi (V 14 0 3), cAdd V (V 14 0 3) a b (if b = 8 then kbase (V 67 0) c else -9)) := by
  obtain ⟨⟨ck1, ck2, ck3, cp1, cp2, cp3, ct1, ct2, ct3, cs1, cs2, cs3, cq1, cq2, cq3, cr1, cr2, cr3, cf1, cf2, cf3, cb1, cb2, cb3, cw1, cw2, cw3, clf, clc⟩, hkin, hpro, husu, hgiv, hthg, hhom, hput, hrin, hsen, hbar, hset, hmos, hpai, hrel, hmap, hdoo, hshe, htab, hwor⟩ := h
  rw [s_X11_property]
  (repeat' (first | rfl | rw [ci_r] | rw [cl_r] | rw [cv_r] | rw [ite_b2] | rw [ite_b21] | rw [if_pos (by omega)] | rw [if_neg (by omega)] | rw [y_kindsHas] | rw [y_isKind _ _ _ (by omega)] | rw [y_valHas] | rw [y_isProp _ _ _ (by omega)] | rw [y_thgHas] | rw [y_isThing _ _ _ (by omega)] | rw [y_inRange] | rw [y_in] | rw [s_X11_faulted] | rw [s_X12_faulty] | rw [s_X11_against] | rw [s_X12_against] | simp (disch := omega) only [w32_i, Int.add_sub_cancel, mc64, mc24, mc6, mc8, mc5] | rw [y_baseOf _ V _ hkin.1 hkin.2.1 _ (by omega) (by omega)] | rw [y_vadd _ _ _ _ _ _ (by exact cp3) (by omega) (by omega)] | split))
  (all_goals first | rfl | (exfalso; omega))
theorem r_property (d : Nat) (V : XM) (a b c : Int) (hp : KD (V 67 0) (V 14 0 1)) (h1 : 6 ≤ (V 14 0 1)) (h2 : (V 14 0 1) ≤ 24) (h3 : 0 ≤ (V 14 0 3)) (h4 : (V 14 0 3) ≤ 12) : Yf (d + 30) 198 [xr 14 0, xi a, xi b, xi c] V =
    if ¬ (0 ≤ a ∧ a < (V 14 0 1)) ∨ b = 8 ∧ ¬ (0 ≤ c ∧ c < (V 14 0 1)) then some (xi (-1), V) else if ¬ (0 ≤ b ∧ b ≤ 8) then some (xi (-2), V) else if (V 14 0 3) = 12 then some (xi (-4), V) else
    some (xi (V 14 0 3), rAdd V (V 14 0 3) a b (if b = 8 then kbase (V 67 0) c else 0)) := by
  rw [s_X12_property]
  have e : ∀ x y : Int, 0 ≤ c → c < (V 14 0 1) → Yf (d + 29) 195 [xr 14 0, xi c] (xu (xu V 68 0 (V 14 0 3).toNat x) 69 0 (V 14 0 3).toNat y) = some (xi (kbase (V 67 0) c), (xu (xu V 68 0 (V 14 0 3).toNat x) 69 0 (V 14 0 3).toNat y)) := by
    intro x y h5 h6
    exact y_rbaseOf _ _ (by exact hp) c h5 h6
  (repeat' (first | rfl | rw [ci_r] | rw [cl_r] | rw [cv_r] | rw [ite_b2] | rw [ite_b21] | rw [if_pos (by omega)] | rw [if_neg (by omega)] | rw [y_kindsHas] | rw [y_isKind _ _ _ (by omega)] | rw [y_valHas] | rw [y_isProp _ _ _ (by omega)] | rw [y_thgHas] | rw [y_isThing _ _ _ (by omega)] | rw [y_inRange] | rw [y_in] | rw [s_X11_faulted] | rw [s_X12_faulty] | rw [s_X11_against] | rw [s_X12_against] | simp (disch := omega) only [w32_i, Int.add_sub_cancel, mc64, mc24, mc6, mc8, mc5] | rw [e _ _ (by omega) (by omega)] | rw [y_radd _ _ _ _ _ _ (by rfl) (by omega) (by omega)] | split))
  (all_goals first | rfl | (exfalso; omega))
theorem g_property (d : Nat) (V : XM) (h : Inv V) (a b c : Int) : AG d 126 198 [xi a, xi b, xi c] V := by
  have h' := h
  obtain ⟨⟨ck1, ck2, ck3, cp1, cp2, cp3, ct1, ct2, ct3, cs1, cs2, cs3, cq1, cq2, cq3, cr1, cr2, cr3, cf1, cf2, cf3, cb1, cb2, cb3, cw1, cw2, cw3, clf, clc⟩, hkin, hpro, husu, hgiv, hthg, hhom, hput, hrin, hsen, hbar, hset, hmos, hpai, hrel, hmap, hdoo, hshe, htab, hwor⟩ := h'
  have hC := c_property d V h a b c
  have hR := fun V1 k1 k2 k3 k4 k5 => r_property d V1 a b c k1 k2 k3 k4 k5
  by_cases i1 : ¬ (0 ≤ a ∧ a < (V 14 0 1)) ∨ b = 8 ∧ ¬ (0 ≤ c ∧ c < (V 14 0 1))
  · exact AG.no h (hC.trans (if_pos i1)) ((hR V hkin.1 ck1 ck2 cp1 cp2).trans (if_pos i1))
  rw [if_neg i1] at hC
  by_cases i2 : ¬ (0 ≤ b ∧ b ≤ 8)
  · exact AG.no h (hC.trans (if_pos i2)) ((hR V hkin.1 ck1 ck2 cp1 cp2).trans ((if_neg i1).trans (if_pos i2)))
  rw [if_neg i2] at hC
  by_cases i3 : (V 14 0 3) = 12
  · exact AG.no h (hC.trans (if_pos i3)) ((hR V hkin.1 ck1 ck2 cp1 cp2).trans ((if_neg i1).trans ((if_neg i2).trans (if_pos i3))))
  rw [if_neg i3] at hC
  refine AG.mk hC ((hR _ (by exact hkin.1) (by exact ck1) (by exact ck2) (by exact cp1) (by exact cp2)).trans ((if_neg (by exact i1)).trans ((if_neg (by exact i2)).trans (if_neg (by exact i3))))) ?_ rfl
  show Inv (rAdd (cAdd V (V 14 0 3) a b (if b = 8 then kbase (V 67 0) c else -9)) (V 14 0 3) a b (if b = 8 then kbase (V 67 0) c else 0))
  have hb8 : b = 8 → 0 ≤ kbase (V 67 0) c ∧ kbase (V 67 0) c ≤ 5 := fun e => by
    have := kbase_in hkin.1 c.toNat c (Nat.le_refl _) (by omega) (by omega)
    omega
  generalize hc1 : (if b = 8 then kbase (V 67 0) c else -9) = c1
  generalize hc2 : (if b = 8 then kbase (V 67 0) c else 0) = c2
  have hc12 : b = 8 → c1 = c2 ∧ 0 ≤ c2 ∧ c2 ≤ 5 := fun e => by
    rw [if_pos e] at hc1 hc2
    have := hb8 e
    omega
  generalize hq : (V 14 0 3) = q at *
  have e26 : (rAdd (cAdd V q a b c1) q a b c2) 26 0 = zup (V 26 0) q.toNat a := xu_rw V 26 0 q.toNat a
  have e27 : (rAdd (cAdd V q a b c1) q a b c2) 27 0 = zup (V 27 0) q.toNat b := xu_rw V 27 0 q.toNat b
  have e28 : (rAdd (cAdd V q a b c1) q a b c2) 28 0 = zup (V 28 0) q.toNat c1 := xu_rw V 28 0 q.toNat c1
  have e30 : (rAdd (cAdd V q a b c1) q a b c2) 30 0 = fil (V 30 0) (24 * q) (24 * q + 24) 0 := xfl_rw V 30 0 (24 * q) (24 * q + 24) 0
  have e31 : (rAdd (cAdd V q a b c1) q a b c2) 31 0 = fil (V 31 0) (64 * q) (64 * q + 64) (if b = 8 then -9 else 0) := xfl_rw V 31 0 (64 * q) (64 * q + 64) (if b = 8 then -9 else 0)
  have e32 : (rAdd (cAdd V q a b c1) q a b c2) 32 0 = fil (V 32 0) (64 * q) (64 * q + 64) (-9) := xfl_rw V 32 0 (64 * q) (64 * q + 64) (-9)
  have e68 : (rAdd (cAdd V q a b c1) q a b c2) 68 0 = zup (V 68 0) q.toNat a := xu_rw V 68 0 q.toNat a
  have e69 : (rAdd (cAdd V q a b c1) q a b c2) 69 0 = zup (V 69 0) q.toNat b := xu_rw V 69 0 q.toNat b
  have e70 : (rAdd (cAdd V q a b c1) q a b c2) 70 0 = zup (V 70 0) q.toNat c2 := xu_rw V 70 0 q.toNat c2
  have e83 : (rAdd (cAdd V q a b c1) q a b c2) 83 0 = fil (V 83 0) (64 * q) (64 * q + 64) (-9) := xfl_rw V 83 0 (64 * q) (64 * q + 64) (-9)
  have en : (rAdd (cAdd V q a b c1) q a b c2) 14 0 3 = q + 1 := rfl
  have ek : (rAdd (cAdd V q a b c1) q a b c2) 14 0 1 = V 14 0 1 := rfl
  have et : (rAdd (cAdd V q a b c1) q a b c2) 14 0 9 = V 14 0 9 := rfl
  have e71 : (rAdd (cAdd V q a b c1) q a b c2) 71 0 = V 71 0 := rfl
  have e72 : (rAdd (cAdd V q a b c1) q a b c2) 72 0 = V 72 0 := rfl
  have e29 : (rAdd (cAdd V q a b c1) q a b c2) 29 0 = V 29 0 := rfl
  have e84 : (rAdd (cAdd V q a b c1) q a b c2) 84 0 = V 84 0 := rfl
  refine ⟨⟨ck1, ck2, ck3, by show 0 ≤ q + 1; omega, by show q + 1 ≤ 12; omega, rfl, ct1, ct2, ct3, cs1, cs2, cs3, cq1, cq2, cq3, cr1, cr2, cr3, cf1, cf2, cf3, cb1, cb2, cb3, cw1, cw2, cw3, clf, clc⟩, hkin, ?_, ?_, ?_, hthg, hhom, hput, hrin, hsen, hbar, hset, hmos, hpai, hrel, hmap, hdoo, hshe, htab, hwor⟩
  · intro q' h1 h2
    rw [en] at h2
    rw [e26, e27, e28, e68, e69, e70, ek]
    by_cases hh : q' = q
    · subst hh
      rw [zup_eq, zup_eq, zup_eq, zup_eq, zup_eq, zup_eq]
      exact ⟨rfl, by omega, by omega, rfl, by omega, by omega, hc12⟩
    · rw [zup_ne (by omega), zup_ne (by omega), zup_ne (by omega), zup_ne (by omega), zup_ne (by omega), zup_ne (by omega)]
      exact hpro q' h1 (by omega)
  · refine ⟨?_, ?_⟩
    · intro q' k h1 h2 h3 h4
      rw [en] at h2
      rw [e30, e71, e72, e29, e69, et]
      by_cases hh : q' = q
      · subst hh
        have e0 := husu.2 q' k (by omega) (by omega) h3 h4
        rw [fil_in (by omega), e0]
        exact ⟨rfl, fun h => absurd rfl h⟩
      · rw [fil_out (by omega), zup_ne (by omega)]
        exact husu.1 q' k h1 (by omega) h3 h4
    · intro q' k h1 h2 h3 h4
      rw [en] at h1
      exact husu.2 q' k (by omega) h2 h3 h4
  · intro q' t h1 h2 h3 h4
    rw [en] at h2
    rw [e31, e32, e83, e69, e84, et]
    by_cases hh : q' = q
    · subst hh
      rw [fil_in (by omega), fil_in (by omega), fil_in (by omega), zup_eq]
      exact ⟨rfl, .inl rfl, fun _ => rfl, fun h => absurd rfl h⟩
    · rw [fil_out (by omega), fil_out (by omega), fil_out (by omega), zup_ne (by omega)]
      exact hgiv q' t h1 (by omega) h3 h4
