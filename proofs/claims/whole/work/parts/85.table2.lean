/-! table -/
theorem Inv.table {V : XM} (h : Inv V) {a b x q : Int} (hq : (V 14 0 45) = q) (h6 : q < 6) (ha : 1 ≤ a ∧ a ≤ 16) (hb : 1 ≤ b ∧ b ≤ 5) (hx : 0 ≤ x) (hl : lnB b.toNat x = true) : Inv (rTab (cTab V q a b x) q a b x) := by
  obtain ⟨⟨ck1, ck2, ck3, cp1, cp2, cp3, ct1, ct2, ct3, cs1, cs2, cs3, cq1, cq2, cq3, cr1, cr2, cr3, cf1, cf2, cf3, cb1, cb2, cb3, cw1, cw2, cw3, clf, clc⟩, hkin, hpro, husu, hgiv, hthg, hhom, hput, hrin, hsen, hbar, hset, hmos, hpai, hrel, hmap, hdoo, hshe, htab, hwor⟩ := h
  have en : (rTab (cTab V q a b x) q a b x) 14 0 45 = q + 1 := rfl
  refine ⟨⟨ck1, ck2, ck3, cp1, cp2, cp3, ct1, ct2, ct3, cs1, cs2, cs3, cq1, cq2, cq3, cr1, cr2, cr3, cf1, cf2, cf3, by show 0 ≤ q + 1; omega, by show q + 1 ≤ 6; omega, rfl, cw1, cw2, cw3, clf, clc⟩, hkin, hpro, husu, hgiv, hthg, hhom, hput, hrin, hsen, hbar, hset, hmos, hpai, hrel, hmap, hdoo, hshe, ?_, hwor⟩
  clear ck1 ck2 ck3 cp1 cp2 cp3 cq1 cq2 cq3 cr1 cr2 cr3 cf1 cf2 cf3 cw1 cw2 cw3 clf clc cs1 cs2 cs3 ct1 ct2 ct3
  have e103 : (rTab (cTab V q a b x) q a b x) 103 0 = zup (V 103 0) q.toNat a := xu_rw V 103 0 _ _
  have e104 : (rTab (cTab V q a b x) q a b x) 104 0 = zup (V 104 0) q.toNat b := xu_rw V 104 0 _ _
  have e105 : (rTab (cTab V q a b x) q a b x) 105 0 = fif (V 105 0) (5 * q) (5 * q + b) (fun j => dgs x (j - (5 * q).toNat) % 10) := xff_rw V 105 0 _ _ _
  have e106 : (rTab (cTab V q a b x) q a b x) 106 0 = fil (V 106 0) (80 * q) (80 * q + 80) 1 := xfl_rw V 106 0 _ _ _
  have e107 : (rTab (cTab V q a b x) q a b x) 107 0 = V 107 0 := rfl
  have e108 : (rTab (cTab V q a b x) q a b x) 108 0 = V 108 0 := rfl
  have e13 : ∀ p j : Nat, (rTab (cTab V q a b x) q a b x) 13 p j = (xu (xu V 13 q.toNat 4 a) 13 q.toNat 5 b) 13 p j := fun p j => rfl
  have e65 : ∀ p j : Nat, (rTab (cTab V q a b x) q a b x) 65 p j = (xff V 65 q.toNat 0 b (fun j => dgs x j % 10)) 65 p j := fun p j => rfl
  have e64 : ∀ p j : Nat, (rTab (cTab V q a b x) q a b x) 64 p j = (xfl V 64 q.toNat 0 80 0) 64 p j := fun p j => rfl
  have e63 : ∀ p j : Nat, (rTab (cTab V q a b x) q a b x) 63 p j = V 63 p j := fun p j => rfl
  intro t g1 g2
  rw [en] at g2
  rw [e103, e104, e105, e106, e107, e108, e13, e13]
  by_cases ht : t = q
  · subst ht
    rw [zup_eq, zup_eq, xu_e, xu_e, xu_e, if_neg (by omega), if_pos (by omega), if_pos (by omega)]
    refine ⟨rfl, ha.1, ha.2, rfl, hb.1, hb.2, fun c k1 k2 => ?_⟩
    have hd := lnB_d b.toNat 0 hl c.toNat (by omega) (by omega)
    have hd0 := (dgs_0 hx c.toNat).1
    rw [e65, xff_e, if_pos (by omega), fif_in (by omega)]
    show dgs x c.toNat % 10 = dgs x ((5 * t + c).toNat - (5 * t).toNat) % 10 ∧ 0 ≤ dgs x ((5 * t + c).toNat - (5 * t).toNat) % 10 ∧ dgs x ((5 * t + c).toNat - (5 * t).toNat) % 10 ≤ 7 ∧ _
    rw [show (5 * t + c).toNat - (5 * t).toNat = c.toNat by omega]
    refine ⟨rfl, by omega, by omega, fun r k3 k4 => ?_⟩
    rw [e64, xfl_e, if_pos (by omega), fil_in (by omega)]
    exact ⟨.inr rfl, rfl, fun k => by omega⟩
  · have hne : t.toNat ≠ q.toNat := by omega
    rw [zup_ne hne, zup_ne hne, xu_e, xu_e, xu_e, xu_e, if_neg (by omega), if_neg (by omega), if_neg (by omega), if_neg (by omega)]
    obtain ⟨u1, u2, u3, u4, u5, u6, u7⟩ := htab t g1 (by omega)
    refine ⟨u1, u2, u3, u4, u5, u6, fun c k1 k2 => ?_⟩
    obtain ⟨w1, w2, w3, w4⟩ := u7 c k1 k2
    rw [e65, xff_e, if_neg (by omega), fif_out (by omega)]
    refine ⟨w1, w2, w3, fun r k3 k4 => ?_⟩
    rw [e64, xfl_e, if_neg (by omega), fil_out (by omega), e63]
    exact w4 r k3 k4
theorem g_table (d : Nat) (V : XM) (h : Inv V) (a b x : Int) (hx2 : x < 2147483648) : AG d 167 286 [xi a, xi b, xi x] V := by
  have h' := h
  obtain ⟨⟨ck1, ck2, ck3, cp1, cp2, cp3, ct1, ct2, ct3, cs1, cs2, cs3, cq1, cq2, cq3, cr1, cr2, cr3, cf1, cf2, cf3, cb1, cb2, cb3, cw1, cw2, cw3, clf, clc⟩, hkin, hpro, husu, hgiv, hthg, hhom, hput, hrin, hsen, hbar, hset, hmos, hpai, hrel, hmap, hdoo, hshe, htab, hwor⟩ := h'
  clear ck1 ck2 ck3 cp1 cp2 cp3 cq1 cq2 cq3 cr1 cr2 cr3 cf1 cf2 cf3 cw1 cw2 cw3 clf clc cs1 cs2 cs3 ct1 ct2 ct3
  have neg : ∀ e W y l, Xf e 286 41 [xr 14 0, xi a, xi b, xi x, xi 0, xi y, xi l] [] W = some (xi (-2), W) := by
    intro e W y l
    rw [s_X12_table_41]
    by_cases hl : l < b
    · rw [if_pos hl, if_pos rfl, if_pos rfl]
    · rw [if_neg hl, if_pos rfl]
  by_cases ia : 1 ≤ a ∧ a ≤ 16
  · by_cases ib : 1 ≤ b ∧ b ≤ 5
    · by_cases ix : 0 ≤ x
      · have L := x_lanes (d + 28) V b b.toNat 0 x (by omega) (by omega) (by omega) ib.2 ix hx2
        have R : ∀ W : XM, (W 14 0 45) = (V 14 0 45) → Yf (d + 30) 286 [xr 14 0, xi a, xi b, xi x] W = if lnB b.toNat x = true then (if (W 14 0 45) = 6 then some (xi (-4), W) else some (xi (W 14 0 45), rTab W (W 14 0 45) a b x)) else some (xi (-2), W) := by
          intro W hW
          rw [s_X12_table, y_in, ci_r, ite_b2, if_pos ia, y_in, ci_r, ite_b2, if_pos ib, if_neg (by omega)]
          exact x_r41 _ W a b x ia ib ⟨ix, hx2⟩ (by omega) (by omega) b.toNat 0 x (by omega) (by omega) (by omega) ix hx2
        have C : Yf (d + 30) 167 [xr 2 0, xi a, xi b, xi x] V = if lnB b.toNat x = true then (if (V 14 0 45) = 6 then some (xi (-4), V) else some (xi (V 14 0 45), cTab V (V 14 0 45) a b x)) else some (xi (-2), V) := by
          rw [s_X11_table, if_neg (by omega), if_neg (by omega), if_neg (by omega), if_neg (by omega), s_X11_areLanes, L, ci_r, ite_b2]
          by_cases il : lnB b.toNat x = true
          · rw [if_pos il, if_pos il]
            by_cases i6 : (V 14 0 45) = 6
            · rw [if_neg (by omega), if_pos i6]
            · have := x_t16 (d + 28) x b ⟨ix, hx2⟩ ib.2 5 (xu (xu V 13 (V 14 0 45).toNat 4 a) 13 (V 14 0 45).toNat 5 b) (V 14 0 45).toNat 0 (by omega) (by omega) (by omega)
              rw [if_pos (by omega), if_neg i6, if_pos (by omega), s_X7_begin, cb3]
              have e0 : dgs x (0 : Int).toNat = x := rfl
              rw [e0] at this
              rw [this, cv_r]
              have e13 : (xfl (xff (xu (xu V 13 (V 14 0 45).toNat 4 a) 13 (V 14 0 45).toNat 5 b) 65 (V 14 0 45).toNat 0 b (fun j => dgs x j % 10)) 64 (V 14 0 45).toNat 0 80 0) 2 0 13 = (V 14 0 45) := cb3
              rw [e13, w32_i (by omega) (by omega)]
              rfl
          · rw [if_neg il, if_neg il]
        by_cases il : lnB b.toNat x = true
        · rw [if_pos il] at C
          by_cases i6 : (V 14 0 45) = 6
          · exact AG.no h (C.trans (if_pos i6)) ((R V rfl).trans ((if_pos il).trans (if_pos i6)))
          · rw [if_neg i6] at C
            exact AG.mk C ((R _ (by rfl)).trans ((if_pos il).trans (if_neg (by exact i6)))) (Inv.table h rfl (by omega) ia ib ix il) rfl
        · exact AG.no h (C.trans (if_neg il)) ((R V rfl).trans (if_neg il))
      · have L : ∀ e, Yf (e + 1) 168 [xi x, xi b] V = some (xi 0, V) := by
          intro e
          rw [s_X11_areLanes, s_X11_areLanes_4, if_pos (by omega), if_pos (by omega)]
        exact AG.no (x := xi (-2)) h (by rw [s_X11_table, if_neg (by omega), if_neg (by omega), if_neg (by omega), if_neg (by omega), L, ci_r, if_pos rfl]) (by rw [s_X12_table, y_in, ci_r, ite_b2, if_pos ia, y_in, ci_r, ite_b2, if_pos ib, if_pos (by omega), neg])
    · have C : Yf (d + 30) 167 [xr 2 0, xi a, xi b, xi x] V = some (xi (-2), V) := by
        rw [s_X11_table, if_neg (by omega), if_neg (by omega)]
        by_cases i : b < 1
        · rw [if_pos i]
        · rw [if_neg i, if_pos (by omega)]
      exact AG.no h C (by rw [s_X12_table, y_in, ci_r, ite_b2, if_pos ia, y_in, ci_r, ite_b2, if_neg ib, neg])
  · have C : Yf (d + 30) 167 [xr 2 0, xi a, xi b, xi x] V = some (xi (-2), V) := by
      rw [s_X11_table]
      by_cases i : a < 1
      · rw [if_pos i]
      · rw [if_neg i, if_pos (by omega)]
    exact AG.no h C (by rw [s_X12_table, y_in, ci_r, ite_b2, if_neg ia, neg])
