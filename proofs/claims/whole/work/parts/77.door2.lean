/-! door -/
theorem y_cDoorF (d : Nat) (V : XM) (h : Inv V) {a b c e : Int} (ia : 0 ≤ a ∧ a < (V 14 0 9)) (ib : 0 ≤ b ∧ b < (V 14 0 9)) (ie : 0 ≤ e ∧ e < (V 14 0 9)) (ic : 0 ≤ c ∧ c < 8) : Yf (d + 2) 58 [xr 11 0, xi a, xi b, xi c, xi e] V = some (xi (dgF V a b c e), V) := by
  have hd := door_ff h ia.1 ia.2
  obtain ⟨⟨ck1, ck2, ck3, cp1, cp2, cp3, ct1, ct2, ct3, cs1, cs2, cs3, cq1, cq2, cq3, cr1, cr2, cr3, cf1, cf2, cf3, cb1, cb2, cb3, cw1, cw2, cw3, clf, clc⟩, hkin, hpro, husu, hgiv, hthg, hhom, hput, hrin, hsen, hbar, hset, hmos, hpai, hrel, hmap, hdoo, hshe, htab, hwor⟩ := h
  obtain ⟨p1, p2, p3⟩ := opp ic.1 ic.2
  have h1 := (hmap (8 * b + c) (by omega) (by omega)).2 (by omega)
  have h2 := (hmap (8 * e + iXor c 1) (by omega) (by omega)).2 (by omega)
  have A1 := y_toldIn d V (a := b) (b := c) (by omega) ic
  have A2 := y_toldIn d V (a := e) (b := iXor c 1) (by omega) ⟨p1, p2⟩
  have hdn : (V 61 0 (a.toNat)) = -9 ∨ 0 ≤ (V 61 0 (a.toNat)) := by
    rcases hdoo a ia.1 ia.2 with x | x
    · exact .inl x.1
    · exact .inr x.1
  rw [h1.2.2.1] at A1
  rw [h2.2.2.1] at A2
  have k1 := h1.2.2.2.2.2.2.1
  have k2 := h2.2.2.2.2.2.2.1
  rw [s_X3_againstDoor]
  unfold dgF
  rw [hd]
  clear h1 h2 hd ck1 ck2 ck3 cp1 cp2 cp3 cq1 cq2 cq3 cr1 cr2 cr3 cf1 cf2 cf3 cb1 cb2 cb3 cw1 cw2 cw3 clf clc
  by_cases c1 : (V 61 0 (a.toNat)) = -9
  · rw [if_pos (by omega), if_pos (by omega), if_neg (c := (V 61 0 (a.toNat)) ≠ -9) (fun k => k c1), A1, ci_r]
    by_cases c2 : 2 ≤ (V 95 0 ((8 * b + c).toNat))
    · rw [if_neg (by omega), if_pos c2]
    · rw [if_pos (by omega), if_neg c2, s_X3_opposite, ci_r, A2, ci_r]
      by_cases c3 : 2 ≤ (V 95 0 ((8 * e + iXor c 1).toNat))
      · rw [if_pos c3]
      · rw [if_neg c3, show (V 97 0 ((8 * e + iXor c 1).toNat)) = -9 by omega]
  · rw [if_pos (by omega), if_neg (by omega), if_pos (by omega), if_pos c1]
theorem y_cDoorT (d : Nat) (V : XM) {a b c e : Int} (n : Int) (ia : 0 ≤ a ∧ a < 64) (ib : 0 ≤ b ∧ b < 64) (ie : 0 ≤ e ∧ e < 64) (ic : 0 ≤ c ∧ c < 8) : Yf (d + 2) 59 [xr 11 0, xi a, xi b, xi c, xi e, xi n] V = some (xi 0, cEx (cEx (xu V 61 0 a.toNat n) (8 * b + c) 3 e a n) (8 * e + iXor c 1) 3 b a n) := by
  obtain ⟨p1, p2, p3⟩ := opp ic.1 ic.2
  have w1 : w32 (w32 (b * 8) + c) = 8 * b + c := by rw [w32_add, w32_i (by omega) (by omega)]; omega
  have w2 : w32 (w32 (e * 8) + iXor c 1) = 8 * e + iXor c 1 := by rw [w32_add, w32_i (by omega) (by omega)]; omega
  rw [s_X3_tellDoor, if_pos ia, w1, y_cWrite _ _ _ _ _ _ (by omega) (by omega), cv_r, s_X3_opposite, ci_r, w2, y_cWrite _ _ _ _ _ _ (by omega) (by omega), cv_r]
theorem g_door (d : Nat) (V : XM) (h : Inv V) (a b c e : Int) : AG d 156 271 [xi a, xi b, xi c, xi e] V := by
  have h' := h
  obtain ⟨⟨ck1, ck2, ck3, cp1, cp2, cp3, ct1, ct2, ct3, cs1, cs2, cs3, cq1, cq2, cq3, cr1, cr2, cr3, cf1, cf2, cf3, cb1, cb2, cb3, cw1, cw2, cw3, clf, clc⟩, hkin, hpro, husu, hgiv, hthg, hhom, hput, hrin, hsen, hbar, hset, hmos, hpai, hrel, hmap, hdoo, hshe, htab, hwor⟩ := h'
  have hb := h.rb
  clear ck1 ck2 ck3 cp1 cp2 cp3 cq1 cq2 cq3 cr1 cr2 cr3 cf1 cf2 cf3 cb1 cb2 cb3 cw1 cw2 cw3 clf clc
  have A1 := fun k => y_cRoom k V b (by omega)
  have A2 := fun k => y_cRoom k V e (by omega)
  have B1 := fun k => y_rRoom k V hb b
  have B2 := fun k => y_rRoom k V hb e
  have hT := fun k => y_thgHas k V a
  have hS := fun k => y_isThing k V a ⟨ct1, ct2⟩
  rw [ct3] at A1 A2 hT
  by_cases ia : 0 ≤ a ∧ a < (V 14 0 9)
  · by_cases ib : 0 ≤ b ∧ b < (V 14 0 9) ∧ (V 21 0 (b.toNat)) = 1
    · by_cases ie : 0 ≤ e ∧ e < (V 14 0 9) ∧ (V 21 0 (e.toNat)) = 1
      · by_cases ic : 0 ≤ c ∧ c < 8
        · have B3 := fun k => y_base k V hb ia.1 ia.2
          by_cases i1 : (V 21 0 (a.toNat)) = 2
          · by_cases i2 : b = e
            · exact AG.no (x := xi (-3)) h (by rw [s_X11_door, hT, ci_r, ite_b2, if_pos ia, A1, ci_r, ite_b2, if_pos ib, A2, ci_r, ite_b2, if_pos ie, y_inRange, ci_r, ite_b2, if_pos ic, if_pos (by omega), if_pos i1, if_pos i2]) (by rw [s_X12_door, hS, ci_r, ite_b2, if_pos ia, B1, ci_r, ite_b2, if_pos ib, B2, ci_r, ite_b2, if_pos ie, y_in, ci_r, ite_b2, if_pos (by omega), B3, ci_r, if_pos i1, if_pos i2])
            by_cases i3 : (V 14 0 22) = 300
            · exact AG.no (x := xi (-4)) h (by rw [s_X11_door, hT, ci_r, ite_b2, if_pos ia, A1, ci_r, ite_b2, if_pos ib, A2, ci_r, ite_b2, if_pos ie, y_inRange, ci_r, ite_b2, if_pos ic, if_pos (by omega), if_pos i1, if_neg i2, y_full, ci_r, ite_b2, if_pos (by omega)]) (by rw [s_X12_door, hS, ci_r, ite_b2, if_pos ia, B1, ci_r, ite_b2, if_pos ib, B2, ci_r, ite_b2, if_pos ie, y_in, ci_r, ite_b2, if_pos (by omega), B3, ci_r, if_pos i1, if_neg i2, if_pos i3])
            obtain ⟨p1, p2, p3⟩ := opp ic.1 ic.2
            have m1 := (hmap (8 * b + c) (by omega) (by omega)).2 (by omega)
            have m2 := (hmap (8 * e + iXor c 1) (by omega) (by omega)).2 (by omega)
            have k1 : 2 ≤ (V 95 0 ((8 * b + c).toNat)) → 0 ≤ (V 97 0 ((8 * b + c).toNat)) := fun k => by have := m1.2.2.2.2.2.2.1; omega
            have k2 : 2 ≤ (V 95 0 ((8 * e + iXor c 1).toNat)) → 0 ≤ (V 97 0 ((8 * e + iXor c 1).toNat)) := fun k => by have := m2.2.2.2.2.2.2.1; omega
            have hF := fun k => y_cDoorF k V h ia ⟨ib.1, ib.2.1⟩ ⟨ie.1, ie.2.1⟩ ic
            have hd := door_ff h ia.1 ia.2
            clear m1 m2
            have hdg : dgF V a b c e = -9 ∨ 0 ≤ dgF V a b c e := by
              unfold dgF
              split
              · rcases ff_spec (doB V a) (V 14 0 22).toNat 0 with ⟨x1, _⟩ | ⟨s, x1, _⟩
                · exact .inl x1
                · exact .inr (by omega)
              · split
                · rename_i k; exact .inr (k1 k)
                · split
                  · rename_i k; exact .inr (k2 k)
                  · exact .inl rfl
            have hR : ∀ W : XM, RB W (V 21 0) → (W 14 0 9) = (V 14 0 9) → (W 14 0 22) = (V 14 0 22) → (2 ≤ (W 95 0 ((8 * b + c).toNat)) → 0 ≤ (W 97 0 ((8 * b + c).toNat))) → (2 ≤ (W 95 0 ((8 * e + iXor c 1).toNat)) → 0 ≤ (W 97 0 ((8 * e + iXor c 1).toNat))) → Yf (d + 30) 271 [xr 14 0, xi a, xi b, xi c, xi e] W = if dgF W a b c e ≠ -9 then some (xi (w32 (-100 - dgF W a b c e)), W) else some (xi (W 14 0 22), rDoor W (W 14 0 22) a b c e (8 * e + iXor c 1)) := by
              intro W hb q1 q2 q3 q4
              have B1 := fun k => y_rRoom k W hb b
              have B2 := fun k => y_rRoom k W hb e
              have B3 := fun k => y_base k W hb ia.1 (by omega)
              have hS := fun k => y_isThing k W a (by omega)
              rw [q1] at B1 B2 hS
              have hD := x_rDoor (d + 27) W (a := a) (b := b) (c := c) (e := e) (by omega) (by omega) ic (by omega) (by omega) q3 q4
              rw [s_X12_door, hS, ci_r, ite_b2, if_pos ia, B1, ci_r, ite_b2, if_pos ib, B2, ci_r, ite_b2, if_pos ie, y_in, ci_r, ite_b2, if_pos (by omega), B3, ci_r, if_pos i1, if_neg i2, if_neg (by omega)]
              exact hD
            by_cases i4 : dgF V a b c e = -9
            · refine AG.mk (x := xi (V 14 0 22)) (V1 := cDoor V (V 14 0 22) a b c e (8 * e + iXor c 1)) ?_ ((hR _ (by exact h.rb) (by rfl) (by rfl) (by exact k1) (by exact k2)).trans (if_neg (by exact fun k => k i4))) ?_ rfl
              · rw [s_X11_door, hT, ci_r, ite_b2, if_pos ia, A1, ci_r, ite_b2, if_pos ib, A2, ci_r, ite_b2, if_pos ie, y_inRange, ci_r, ite_b2, if_pos ic, if_pos (by omega), if_pos i1, if_neg i2, y_full, ci_r, ite_b2, if_neg (by omega), hF, ci_r, if_pos (by omega), y_sadd _ V _ _ _ _ cs3 cs1 (by omega), ci_r, y_cDoorT _ _ _ (by omega) (by omega) (by omega) ic, cv_r]
                rfl
              · refine Inv.door h ia ib ie ic (by omega) (by omega) ?_
                rw [← hd]
                unfold dgF at i4
                by_cases j : ff (doB V a) (V 14 0 22).toNat 0 = -9
                · rw [j]; omega
                · rw [if_pos j] at i4; exact absurd i4 j
            · exact AG.no (x := xi (w32 (-100 - dgF V a b c e))) h (by rw [s_X11_door, hT, ci_r, ite_b2, if_pos ia, A1, ci_r, ite_b2, if_pos ib, A2, ci_r, ite_b2, if_pos ie, y_inRange, ci_r, ite_b2, if_pos ic, if_pos (by omega), if_pos i1, if_neg i2, y_full, ci_r, ite_b2, if_neg (by omega), hF, ci_r, if_neg (by omega), s_X11_against, ci_r]) ((hR V h.rb rfl rfl k1 k2).trans (if_pos i4))
          · exact AG.no (x := xi (-3)) h (by rw [s_X11_door, hT, ci_r, ite_b2, if_pos ia, A1, ci_r, ite_b2, if_pos ib, A2, ci_r, ite_b2, if_pos ie, y_inRange, ci_r, ite_b2, if_pos ic, if_pos (by omega), if_neg i1]) (by rw [s_X12_door, hS, ci_r, ite_b2, if_pos ia, B1, ci_r, ite_b2, if_pos ib, B2, ci_r, ite_b2, if_pos ie, y_in, ci_r, ite_b2, if_pos (by omega), B3, ci_r, if_neg i1])
        · exact AG.no (x := xi (-2)) h (by rw [s_X11_door, hT, ci_r, ite_b2, if_pos ia, A1, ci_r, ite_b2, if_pos ib, A2, ci_r, ite_b2, if_pos ie, y_inRange, ci_r, ite_b2, if_neg ic]) (by rw [s_X12_door, hS, ci_r, ite_b2, if_pos ia, B1, ci_r, ite_b2, if_pos ib, B2, ci_r, ite_b2, if_pos ie, y_in, ci_r, ite_b2, if_neg (by omega)])
      · exact AG.no (x := xi (-1)) h (by rw [s_X11_door, hT, ci_r, ite_b2, if_pos ia, A1, ci_r, ite_b2, if_pos ib, A2, ci_r, ite_b2, if_neg ie]) (by rw [s_X12_door, hS, ci_r, ite_b2, if_pos ia, B1, ci_r, ite_b2, if_pos ib, B2, ci_r, ite_b2, if_neg ie])
    · exact AG.no (x := xi (-1)) h (by rw [s_X11_door, hT, ci_r, ite_b2, if_pos ia, A1, ci_r, ite_b2, if_neg ib]) (by rw [s_X12_door, hS, ci_r, ite_b2, if_pos ia, B1, ci_r, ite_b2, if_neg ib])
  · exact AG.no (x := xi (-1)) h (by rw [s_X11_door, hT, ci_r, ite_b2, if_neg ia]) (by rw [s_X12_door, hS, ci_r, ite_b2, if_neg ia])
