/-! shelves -/
theorem y_cTakes (d : Nat) (V : XM) {N : Int} (p : Nat) {t : Int} (hk : KD (V 67 0) N) (hc : ∀ j : Nat, 0 < j → (j : Int) < N → (V 19 0 j) = (V 67 0 j)) (hN : 6 ≤ N) (ht : t ≠ -9 → 0 ≤ t ∧ t < 64 ∧ 0 ≤ (V 21 0 (t.toNat)) ∧ (V 21 0 (t.toNat)) ≤ 5) (hb : 0 ≤ (V 12 p 1)) : Yf (d + 2) 163 [xr 2 0, xr 12 p, xi t] V = some (xi (b2 (t = -9 ∨ kfit (V 67 0) (V 21 0 (t.toNat)) (V 12 p 1) = true)), V) := by
  rw [s_X11_shelfTakes]
  by_cases h9 : t = -9
  · rw [if_pos h9]
    exact congrArg some (congrArg (fun x => (xi x, V)) (b2_1.mpr (.inl h9)).symm)
  · obtain ⟨a1, a2, a3, a4⟩ := ht h9
    rw [if_neg h9, if_pos (by omega), y_fits _ V _ hk hc _ _ hb a3 (by omega), ci_r, ite_b2, some_b2]
    exact someb ⟨fun h => .inr h, fun h => h.resolve_left h9⟩
theorem y_rTakes (d : Nat) (V : XM) {B : Nat → Int} (hb : RB V B) {s t : Int} (hN : 6 ≤ (V 14 0 1)) (hs : 0 ≤ s ∧ s < 10) (ht : t ≠ -9 → 0 ≤ t ∧ t < (V 14 0 9)) : Yf (d + 3) 279 [xr 14 0, xi s, xi t] V = some (xi (b2 (t = -9 ∨ kfit (V 67 0) (B t.toNat) (V 99 0 (s.toNat)) = true)), V) := by
  rw [s_X12_takes]
  by_cases h9 : t = -9
  · rw [if_pos h9]
    exact congrArg some (congrArg (fun x => (xi x, V)) (b2_1.mpr (.inl h9)).symm)
  · obtain ⟨a1, a2⟩ := ht h9
    obtain ⟨c1, c2, c3, c4, c5⟩ := hb.2.2.2 t a1 a2
    rw [if_neg h9, y_base _ V hb a1 a2, ci_r, if_pos hs, y_comesTo _ V hb.1 _ _ c4 (by omega), ci_r, ite_b2, some_b2]
    exact someb ⟨fun h => .inr h, fun h => h.resolve_left h9⟩
theorem x_sbegin (d : Nat) : ∀ (m : Nat) (V : XM) (p : Nat) (l : Int), (16 - l).toNat ≤ m → 0 ≤ l → l ≤ 16 → Xf d 73 12 [xr 12 p, xr 0 0, xr 0 0, xi l] [] V = some (xi 0, xfl V 62 p l 16 (-9)) := by
  intro m
  induction m with
  | zero =>
    intro V p l hm h0 h1
    rw [s_X6_begin_12, if_neg (by omega), show l = 16 by omega, xfl_0]
  | succ m ih =>
    intro V p l hm h0 h1
    by_cases hl : l < 16
    · rw [s_X6_begin_12, if_pos hl, if_pos (by omega), w32_i (by omega) (by omega), ih _ _ _ (by omega) (by omega) (by omega), xfl_s _ _ _ _ _ _ h0 hl]
    · rw [s_X6_begin_12, if_neg (by omega), show l = 16 by omega, xfl_0]
theorem x_rshelf (d : Nat) : ∀ (m : Nat) (V : XM) (l q : Int), (16 - l).toNat ≤ m → 0 ≤ l → l ≤ 16 → (V 14 0 39) = q → 0 ≤ q → q < 10 → Xf d 280 68 [xr 14 0, xr 0 0, xr 0 0, xi l] [] V = some (xi q, xu (xfl V 101 0 (16 * q + l) (16 * q + 16) (-9)) 14 0 39 (q + 1)) := by
  intro m
  induction m with
  | zero =>
    intro V l q hm h0 h1 hq h2 h3
    have hl : l = 16 := by omega
    subst hl
    rw [s_X12_shelf_68, if_neg (by omega), xfl_0, hq]
    simp (disch := omega) only [w32_i, Int.add_sub_cancel]
  | succ m ih =>
    intro V l q hm h0 h1 hq h2 h3
    by_cases hl : l < 16
    · have e : w32 (w32 (16 * q) + l) = 16 * q + l := by rw [w32_add, w32_i (by omega) (by omega)]
      rw [s_X12_shelf_68, if_pos hl, hq, e, if_pos (by omega), w32_i (by omega) (by omega), ih _ (l + 1) q (by omega) (by omega) (by omega) (by exact hq) h2 h3, show 16 * q + (l + 1) = (16 * q + l) + 1 by omega, xfl_s _ 101 0 _ _ _ (by omega) (by omega)]
    · have hl : l = 16 := by omega
      subst hl
      rw [s_X12_shelf_68, if_neg (by omega), xfl_0, hq]
      simp (disch := omega) only [w32_i, Int.add_sub_cancel]
def cShelf (V : XM) (q x b : Int) : XM := xu (xfl (xu (xu V 12 q.toNat 1 x) 12 q.toNat 2 b) 62 q.toNat 0 16 (-9)) 2 0 12 (q + 1)
def rShelf (V : XM) (q x b : Int) : XM := xu (xfl (xu (xu V 99 0 q.toNat x) 100 0 q.toNat b) 101 0 (16 * q) (16 * q + 16) (-9)) 14 0 39 (q + 1)
theorem xu_e (V : XM) (g i n a b c : Nat) (x : Int) : xu V g i n x a b c = if a = g ∧ b = i ∧ c = n then x else V a b c := rfl
theorem xfl_e (V : XM) (g i : Nat) (lo hi x : Int) (a b c : Nat) : xfl V g i lo hi x a b c = if a = g ∧ b = i ∧ (lo ≤ (c : Int) ∧ (c : Int) < hi) then x else V a b c := rfl
theorem Inv.shelf {V : XM} (h : Inv V) {x b q : Int} (hq : (V 14 0 39) = q) (h1 : q < 10) (hx : 0 ≤ x ∧ x ≤ 5) (hb : 0 ≤ b ∧ b ≤ 16) : Inv (rShelf (cShelf V q x b) q x b) := by
  obtain ⟨⟨ck1, ck2, ck3, cp1, cp2, cp3, ct1, ct2, ct3, cs1, cs2, cs3, cq1, cq2, cq3, cr1, cr2, cr3, cf1, cf2, cf3, cb1, cb2, cb3, cw1, cw2, cw3, clf, clc⟩, hkin, hpro, husu, hgiv, hthg, hhom, hput, hrin, hsen, hbar, hset, hmos, hpai, hrel, hmap, hdoo, hshe, htab, hwor⟩ := h
  have en : (rShelf (cShelf V q x b) q x b) 14 0 39 = q + 1 := rfl
  refine ⟨⟨ck1, ck2, ck3, cp1, cp2, cp3, ct1, ct2, ct3, cs1, cs2, cs3, cq1, cq2, cq3, cr1, cr2, cr3, by show 0 ≤ q + 1; omega, by show q + 1 ≤ 10; omega, rfl, cb1, cb2, cb3, cw1, cw2, cw3, clf, clc⟩, hkin, hpro, husu, hgiv, hthg, hhom, hput, hrin, hsen, hbar, hset, hmos, hpai, hrel, hmap, hdoo, ?_, htab, hwor⟩
  intro s g1 g2
  rw [en] at g2
  have e99 : (rShelf (cShelf V q x b) q x b) 99 0 = zup (V 99 0) q.toNat x := xu_rw V 99 0 q.toNat x
  have e100 : (rShelf (cShelf V q x b) q x b) 100 0 = zup (V 100 0) q.toNat b := xu_rw V 100 0 q.toNat b
  have e101 : (rShelf (cShelf V q x b) q x b) 101 0 = fil (V 101 0) (16 * q) (16 * q + 16) (-9) := xfl_rw V 101 0 (16 * q) (16 * q + 16) (-9)
  have et : (rShelf (cShelf V q x b) q x b) 14 0 9 = V 14 0 9 := rfl
  have e12 : ∀ p j : Nat, (rShelf (cShelf V q x b) q x b) 12 p j = (xu (xu V 12 q.toNat 1 x) 12 q.toNat 2 b) 12 p j := fun p j => rfl
  have e62 : ∀ p j : Nat, (rShelf (cShelf V q x b) q x b) 62 p j = (xfl V 62 q.toNat 0 16 (-9)) 62 p j := fun p j => rfl
  rw [e99, e100, e12, e12, et]
  by_cases hs : s = q
  · subst hs
    rw [zup_eq, zup_eq, xu_e, xu_e, xu_e, if_neg (by omega), if_pos (by omega), if_pos (by omega)]
    refine ⟨rfl, hx.1, hx.2, rfl, hb.1, hb.2, fun i k1 k2 => ?_⟩
    rw [e101, e62, xfl_e, if_pos (by omega), fil_in (by omega)]
    exact ⟨rfl, .inl rfl⟩
  · rw [zup_ne (by omega), zup_ne (by omega), xu_e, xu_e, xu_e, xu_e, if_neg (by omega), if_neg (by omega), if_neg (by omega), if_neg (by omega)]
    obtain ⟨s1, s2, s3, s4, s5, s6, s7⟩ := hshe s g1 (by omega)
    refine ⟨s1, s2, s3, s4, s5, s6, fun i k1 k2 => ?_⟩
    rw [e101, e62, xfl_e, if_neg (by omega), fil_out (by omega)]
    exact s7 i k1 k2
theorem c_shelf (d : Nat) (V : XM) (h : Inv V) (a b : Int) : Yf (d + 30) 161 [xr 2 0, xi a, xi b] V = if ¬ (0 ≤ a ∧ a < (V 14 0 1)) then some (xi (-1), V) else if 16 < b then some (xi (-2), V) else if (V 14 0 39) = 10 then some (xi (-4), V) else if b < 0 then some (xi (-15), xu V 2 0 15 5) else some (xi (V 14 0 39), cShelf V (V 14 0 39) (kbase (V 67 0) a) b) := by
  have h' := h
  obtain ⟨⟨ck1, ck2, ck3, cp1, cp2, cp3, ct1, ct2, ct3, cs1, cs2, cs3, cq1, cq2, cq3, cr1, cr2, cr3, cf1, cf2, cf3, cb1, cb2, cb3, cw1, cw2, cw3, clf, clc⟩, hkin, hpro, husu, hgiv, hthg, hhom, hput, hrin, hsen, hbar, hset, hmos, hpai, hrel, hmap, hdoo, hshe, htab, hwor⟩ := h'
  rw [s_X11_shelf]
  (repeat' (first | rfl | rw [ci_r] | rw [cl_r] | rw [cv_r] | rw [ite_b2] | rw [ite_b21] | rw [if_pos (by omega)] | rw [if_neg (by omega)] | rw [y_kindsHas] | rw [y_isKind _ _ _ (by omega)] | rw [y_valHas] | rw [y_isProp _ _ _ (by omega)] | rw [y_thgHas] | rw [y_isThing _ _ _ (by omega)] | rw [y_inRange] | rw [y_in] | rw [s_X11_faulted] | rw [s_X12_faulty] | rw [s_X11_against] | rw [s_X12_against] | simp (disch := omega) only [w32_i, Int.add_sub_cancel, mc64, mc24, mc6, mc8, mc5] | rw [y_baseOf _ V _ hkin.1 hkin.2.1 _ (by omega) (by omega)] | rw [s_X6_begin, x_sbegin _ 16 _ _ 0 (by omega) (by omega) (by omega), cv_r, cf3] | split))
  show some (xi (V 2 0 12), xu _ 2 0 12 (w32 ((V 2 0 12) + 1))) = _
  rw [cf3, w32_i (by omega) (by omega)]
  rfl
theorem r_shelf (d : Nat) (V : XM) (a b : Int) (hp : KD (V 67 0) (V 14 0 1)) (ck1 : 6 ≤ (V 14 0 1)) (ck2 : (V 14 0 1) ≤ 24) (cf1 : 0 ≤ (V 14 0 39)) (cf2 : (V 14 0 39) ≤ 10) : Yf (d + 30) 280 [xr 14 0, xi a, xi b] V = if ¬ (0 ≤ a ∧ a < (V 14 0 1)) then some (xi (-1), V) else if 16 < b then some (xi (-2), V) else if (V 14 0 39) = 10 then some (xi (-4), V) else if b < 0 then some (xi (-15), xu V 14 0 0 5) else some (xi (V 14 0 39), rShelf V (V 14 0 39) (kbase (V 67 0) a) b) := by
  rw [s_X12_shelf]
  (repeat' (first | rfl | rw [ci_r] | rw [cl_r] | rw [cv_r] | rw [ite_b2] | rw [ite_b21] | rw [if_pos (by omega)] | rw [if_neg (by omega)] | rw [y_kindsHas] | rw [y_isKind _ _ _ (by omega)] | rw [y_valHas] | rw [y_isProp _ _ _ (by omega)] | rw [y_thgHas] | rw [y_isThing _ _ _ (by omega)] | rw [y_inRange] | rw [y_in] | rw [s_X11_faulted] | rw [s_X12_faulty] | rw [s_X11_against] | rw [s_X12_against] | simp (disch := omega) only [w32_i, Int.add_sub_cancel, mc64, mc24, mc6, mc8, mc5] | rw [y_rbaseOf _ V hp _ (by omega) (by omega)] | rw [x_rshelf _ 16 _ 0 (V 14 0 39) (by omega) (by omega) (by omega) (by rfl) (by omega) (by omega), show 16 * (V 14 0 39) + 0 = 16 * (V 14 0 39) by omega] | split))
theorem g_shelf (d : Nat) (V : XM) (h : Inv V) (a b : Int) : AG d 161 280 [xi a, xi b] V := by
  have h' := h
  obtain ⟨⟨ck1, ck2, ck3, cp1, cp2, cp3, ct1, ct2, ct3, cs1, cs2, cs3, cq1, cq2, cq3, cr1, cr2, cr3, cf1, cf2, cf3, cb1, cb2, cb3, cw1, cw2, cw3, clf, clc⟩, hkin, hpro, husu, hgiv, hthg, hhom, hput, hrin, hsen, hbar, hset, hmos, hpai, hrel, hmap, hdoo, hshe, htab, hwor⟩ := h'
  have hC := c_shelf d V h a b
  by_cases i1 : ¬ (0 ≤ a ∧ a < (V 14 0 1))
  · exact AG.no h (hC.trans (if_pos i1)) ((r_shelf d _ a b (by exact hkin.1) (by exact ck1) (by exact ck2) (by exact cf1) (by exact cf2)).trans (if_pos (by exact i1)))
  rw [if_neg i1] at hC
  by_cases i2 : 16 < b
  · exact AG.no h (hC.trans (if_pos i2)) ((r_shelf d _ a b (by exact hkin.1) (by exact ck1) (by exact ck2) (by exact cf1) (by exact cf2)).trans ((if_neg (by exact i1)).trans (if_pos (by exact i2))))
  rw [if_neg i2] at hC
  by_cases i3 : (V 14 0 39) = 10
  · exact AG.no h (hC.trans (if_pos i3)) ((r_shelf d _ a b (by exact hkin.1) (by exact ck1) (by exact ck2) (by exact cf1) (by exact cf2)).trans ((if_neg (by exact i1)).trans ((if_neg (by exact i2)).trans (if_pos (by exact i3)))))
  rw [if_neg i3] at hC
  by_cases i4 : b < 0
  · exact AG.flt h (hC.trans (if_pos i4)) ((r_shelf d _ a b (by exact hkin.1) (by exact ck1) (by exact ck2) (by exact cf1) (by exact cf2)).trans ((if_neg (by exact i1)).trans ((if_neg (by exact i2)).trans ((if_neg (by exact i3)).trans (if_pos (by exact i4))))))
  rw [if_neg i4] at hC
  refine AG.mk hC ((r_shelf d _ a b (by exact hkin.1) (by exact ck1) (by exact ck2) (by exact cf1) (by exact cf2)).trans ((if_neg (by exact i1)).trans ((if_neg (by exact i2)).trans ((if_neg (by exact i3)).trans (if_neg (by exact i4)))))) ?_ rfl
  have := kbase_in hkin.1 a.toNat a (Nat.le_refl _) (by omega) (by omega)
  exact Inv.shelf h rfl (by omega) (by omega) (by omega)

theorem Inv.stand {V : XM} (h : Inv V) {a b c : Int} (h1 : 0 ≤ a) (h2 : a < (V 14 0 39)) (h3 : 0 ≤ b) (h4 : b < 16) (hc : c = -9 ∨ (0 ≤ c ∧ c < (V 14 0 9))) : Inv (xu (xu V 62 a.toNat b.toNat c) 101 0 (16 * a + b).toNat c) := by
  obtain ⟨⟨ck1, ck2, ck3, cp1, cp2, cp3, ct1, ct2, ct3, cs1, cs2, cs3, cq1, cq2, cq3, cr1, cr2, cr3, cf1, cf2, cf3, cb1, cb2, cb3, cw1, cw2, cw3, clf, clc⟩, hkin, hpro, husu, hgiv, hthg, hhom, hput, hrin, hsen, hbar, hset, hmos, hpai, hrel, hmap, hdoo, hshe, htab, hwor⟩ := h
  refine ⟨⟨ck1, ck2, ck3, cp1, cp2, cp3, ct1, ct2, ct3, cs1, cs2, cs3, cq1, cq2, cq3, cr1, cr2, cr3, cf1, cf2, cf3, cb1, cb2, cb3, cw1, cw2, cw3, clf, clc⟩, hkin, hpro, husu, hgiv, hthg, hhom, hput, hrin, hsen, hbar, hset, hmos, hpai, hrel, hmap, hdoo, ?_, htab, hwor⟩
  intro s g1 g2
  have g2' : s < (V 14 0 39) := g2
  obtain ⟨s1, s2, s3, s4, s5, s6, s7⟩ := hshe s g1 g2
  refine ⟨s1, s2, s3, s4, s5, s6, fun i k1 k2 => ?_⟩
  show (xu V 62 a.toNat b.toNat c) 62 s.toNat i.toNat = (xu V 101 0 (16 * a + b).toNat c) 101 0 (16 * s + i).toNat ∧ ((xu V 101 0 (16 * a + b).toNat c) 101 0 (16 * s + i).toNat = -9 ∨ (0 ≤ (xu V 101 0 (16 * a + b).toNat c) 101 0 (16 * s + i).toNat ∧ (xu V 101 0 (16 * a + b).toNat c) 101 0 (16 * s + i).toNat < (V 14 0 9)))
  rw [xu_e, xu_e]
  by_cases hh : s = a ∧ i = b
  · rw [if_pos (by omega), if_pos (by omega)]
    exact ⟨rfl, hc⟩
  · rw [if_neg (by omega), if_neg (by omega)]
    exact s7 i k1 k2
theorem c_stand (d : Nat) (V : XM) (h : Inv V) (a b c : Int) : Yf (d + 30) 162 [xr 2 0, xi a, xi b, xi c] V = if ¬ (0 ≤ a ∧ a < (V 14 0 39)) ∨ ¬ (c = -9 ∨ (0 ≤ c ∧ c < (V 14 0 9))) then some (xi (-1), V) else if ¬ (0 ≤ b ∧ b < (V 100 0 (a.toNat))) then some (xi (-12), xu V 2 0 15 2) else if ¬ (c = -9 ∨ kfit (V 67 0) (V 21 0 (c.toNat)) (V 99 0 (a.toNat)) = true) then some (xi (-14), xu V 2 0 15 4) else some (xi 1, xu V 62 a.toNat b.toNat c) := by
  have h' := h
  obtain ⟨⟨ck1, ck2, ck3, cp1, cp2, cp3, ct1, ct2, ct3, cs1, cs2, cs3, cq1, cq2, cq3, cr1, cr2, cr3, cf1, cf2, cf3, cb1, cb2, cb3, cw1, cw2, cw3, clf, clc⟩, hkin, hpro, husu, hgiv, hthg, hhom, hput, hrin, hsen, hbar, hset, hmos, hpai, hrel, hmap, hdoo, hshe, htab, hwor⟩ := h'
  rw [s_X11_stand]
  by_cases i1 : ¬ (0 ≤ a ∧ a < (V 14 0 39)) ∨ ¬ (c = -9 ∨ (0 ≤ c ∧ c < (V 14 0 9)))
  · (repeat' (first | rfl | rw [ci_r] | rw [cl_r] | rw [cv_r] | rw [ite_b2] | rw [ite_b21] | rw [if_pos (by omega)] | rw [if_neg (by omega)] | rw [y_kindsHas] | rw [y_isKind _ _ _ (by omega)] | rw [y_valHas] | rw [y_isProp _ _ _ (by omega)] | rw [y_thgHas] | rw [y_isThing _ _ _ (by omega)] | rw [y_inRange] | rw [y_in] | rw [s_X11_faulted] | rw [s_X12_faulty] | rw [s_X11_against] | rw [s_X12_against] | simp (disch := omega) only [w32_i, Int.add_sub_cancel, mc64, mc24, mc6, mc8, mc5] | fail | split))
  obtain ⟨s1, s2, s3, s4, s5, s6, s7⟩ := hshe a (by omega) (by omega)
  have e := y_cTakes (d + 27) V a.toNat (t := c) hkin.1 hkin.2.1 ck1 (fun k => ⟨by omega, by omega, (hthg c (by omega) (by omega)).2.2.2.2.1, (hthg c (by omega) (by omega)).2.2.2.2.2.1⟩) (by omega)
  rw [s1] at e
  by_cases h9 : c = -9
  (repeat' (first | rfl | rw [ci_r] | rw [cl_r] | rw [cv_r] | rw [ite_b2] | rw [ite_b21] | rw [if_pos (by omega)] | rw [if_neg (by omega)] | rw [y_kindsHas] | rw [y_isKind _ _ _ (by omega)] | rw [y_valHas] | rw [y_isProp _ _ _ (by omega)] | rw [y_thgHas] | rw [y_isThing _ _ _ (by omega)] | rw [y_inRange] | rw [y_in] | rw [s_X11_faulted] | rw [s_X12_faulty] | rw [s_X11_against] | rw [s_X12_against] | simp (disch := omega) only [w32_i, Int.add_sub_cancel, mc64, mc24, mc6, mc8, mc5] | rw [e] | rw [s4] | split))
theorem r_stand (d : Nat) (V : XM) (a b c : Int) {B : Nat → Int} (hb : RB V B) (ck1 : 6 ≤ (V 14 0 1)) (cf1 : 0 ≤ (V 14 0 39)) (cf2 : (V 14 0 39) ≤ 10) (w3 : 0 ≤ a → a < (V 14 0 39) → 0 ≤ (V 100 0 (a.toNat)) ∧ (V 100 0 (a.toNat)) ≤ 16) : Yf (d + 30) 281 [xr 14 0, xi a, xi b, xi c] V = if ¬ (0 ≤ a ∧ a < (V 14 0 39)) ∨ ¬ (c = -9 ∨ (0 ≤ c ∧ c < (V 14 0 9))) then some (xi (-1), V) else if ¬ (0 ≤ b ∧ b < (V 100 0 (a.toNat))) then some (xi (-12), xu V 14 0 0 2) else if ¬ (c = -9 ∨ kfit (V 67 0) (B (c.toNat)) (V 99 0 (a.toNat)) = true) then some (xi (-14), xu V 14 0 0 4) else some (xi 1, xu V 101 0 (16 * a + b).toNat c) := by
  rw [s_X12_stand]
  obtain ⟨hp, ct1, ct2, h6⟩ := id hb
  by_cases i1 : ¬ (0 ≤ a ∧ a < (V 14 0 39)) ∨ ¬ (c = -9 ∨ (0 ≤ c ∧ c < (V 14 0 9)))
  · (repeat' (first | rfl | rw [ci_r] | rw [cl_r] | rw [cv_r] | rw [ite_b2] | rw [ite_b21] | rw [if_pos (by omega)] | rw [if_neg (by omega)] | rw [y_kindsHas] | rw [y_isKind _ _ _ (by omega)] | rw [y_valHas] | rw [y_isProp _ _ _ (by omega)] | rw [y_thgHas] | rw [y_isThing _ _ _ (by omega)] | rw [y_inRange] | rw [y_in] | rw [s_X11_faulted] | rw [s_X12_faulty] | rw [s_X11_against] | rw [s_X12_against] | simp (disch := omega) only [w32_i, Int.add_sub_cancel, mc64, mc24, mc6, mc8, mc5] | rw [y_isShelf _ V _ (by omega)] | split))
  have w3 := w3 (by omega) (by omega)
  have e := y_rTakes (d + 26) V hb (s := a) (t := c) ck1 (by omega) (fun k => by omega)
  by_cases h9 : c = -9
  (repeat' (first | rfl | rw [ci_r] | rw [cl_r] | rw [cv_r] | rw [ite_b2] | rw [ite_b21] | rw [if_pos (by omega)] | rw [if_neg (by omega)] | rw [y_kindsHas] | rw [y_isKind _ _ _ (by omega)] | rw [y_valHas] | rw [y_isProp _ _ _ (by omega)] | rw [y_thgHas] | rw [y_isThing _ _ _ (by omega)] | rw [y_inRange] | rw [y_in] | rw [s_X11_faulted] | rw [s_X12_faulty] | rw [s_X11_against] | rw [s_X12_against] | simp (disch := omega) only [w32_i, Int.add_sub_cancel, mc64, mc24, mc6, mc8, mc5] | rw [y_isShelf _ V _ (by omega)] | rw [e] | split))
theorem g_stand (d : Nat) (V : XM) (h : Inv V) (a b c : Int) : AG d 162 281 [xi a, xi b, xi c] V := by
  have h' := h
  obtain ⟨⟨ck1, ck2, ck3, cp1, cp2, cp3, ct1, ct2, ct3, cs1, cs2, cs3, cq1, cq2, cq3, cr1, cr2, cr3, cf1, cf2, cf3, cb1, cb2, cb3, cw1, cw2, cw3, clf, clc⟩, hkin, hpro, husu, hgiv, hthg, hhom, hput, hrin, hsen, hbar, hset, hmos, hpai, hrel, hmap, hdoo, hshe, htab, hwor⟩ := h'
  have hC := c_stand d V h a b c
  by_cases i1 : ¬ (0 ≤ a ∧ a < (V 14 0 39)) ∨ ¬ (c = -9 ∨ (0 ≤ c ∧ c < (V 14 0 9)))
  · exact AG.no h (hC.trans (if_pos i1)) ((r_stand d _ a b c (by exact h.rb) (by exact ck1) (by exact cf1) (by exact cf2) (by exact (fun k1 k2 => ⟨(hshe a k1 k2).2.2.2.2.1, (hshe a k1 k2).2.2.2.2.2.1⟩))).trans (if_pos (by exact i1)))
  rw [if_neg i1] at hC
  by_cases i2 : ¬ (0 ≤ b ∧ b < (V 100 0 (a.toNat)))
  · exact AG.flt h (hC.trans (if_pos i2)) ((r_stand d _ a b c (by exact h.rb) (by exact ck1) (by exact cf1) (by exact cf2) (by exact (fun k1 k2 => ⟨(hshe a k1 k2).2.2.2.2.1, (hshe a k1 k2).2.2.2.2.2.1⟩))).trans ((if_neg (by exact i1)).trans (if_pos (by exact i2))))
  rw [if_neg i2] at hC
  by_cases i3 : ¬ (c = -9 ∨ kfit (V 67 0) (V 21 0 (c.toNat)) (V 99 0 (a.toNat)) = true)
  · exact AG.flt h (hC.trans (if_pos i3)) ((r_stand d _ a b c (by exact h.rb) (by exact ck1) (by exact cf1) (by exact cf2) (by exact (fun k1 k2 => ⟨(hshe a k1 k2).2.2.2.2.1, (hshe a k1 k2).2.2.2.2.2.1⟩))).trans ((if_neg (by exact i1)).trans ((if_neg (by exact i2)).trans (if_pos (by exact i3)))))
  rw [if_neg i3] at hC
  refine AG.mk hC ((r_stand d _ a b c (by exact h.rb) (by exact ck1) (by exact cf1) (by exact cf2) (by exact (fun k1 k2 => ⟨(hshe a k1 k2).2.2.2.2.1, (hshe a k1 k2).2.2.2.2.2.1⟩))).trans ((if_neg (by exact i1)).trans ((if_neg (by exact i2)).trans (if_neg (by exact i3))))) ?_ rfl
  obtain ⟨s1, s2, s3, s4, s5, s6, s7⟩ := hshe a (by omega) (by omega)
  exact Inv.stand h (by omega) (by omega) (by omega) (by omega) (by omega)

