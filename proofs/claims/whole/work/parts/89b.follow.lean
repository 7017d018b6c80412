/-! follow -/
theorem vuN_congr {isU us p : Nat → Int} (q e : Int) (n : Nat) (k : Int) {isU' us' p' : Nat → Int} (h1 : isU' = isU) (h2 : us' = us) (h3 : p' = p) : vuN isU' us' p' q e n k = vuN isU us p q e n k := by rw [h1, h2, h3]
theorem g_follow (d : Nat) (V : XM) (h : Inv V) (a b c : Int) : AG d 139 235 [xi a, xi b, xi c] V := by
  have h' := h
  obtain ⟨⟨ck1, ck2, ck3, cp1, cp2, cp3, ct1, ct2, ct3, cs1, cs2, cs3, cq1, cq2, cq3, cr1, cr2, cr3, cf1, cf2, cf3, cb1, cb2, cb3, cw1, cw2, cw3, clf, clc⟩, hkin, hpro, husu, hgiv, hthg, hhom, hput, hrin, hsen, hbar, hset, hmos, hpai, hrel, hmap, hdoo, hshe, htab, hwor⟩ := h'
  have hrb := h.rb
  by_cases ia : 0 ≤ a ∧ a < (V 14 0 9)
  · by_cases ib : 0 ≤ b ∧ b < (V 14 0 3)
    · by_cases ic : 0 ≤ c ∧ c ≤ 4
      · obtain ⟨t1, t2, t3, _⟩ := hthg a ia.1 ia.2
        obtain ⟨p1, p2, p3, p4, _⟩ := hpro b ib.1 ib.2
        have hfor := fun e => y_isFor e V hkin ia.1 (show a < 64 by omega) ib.1 (show b < 12 by omega) (by omega) (by omega) (by omega)
        rw [t1, p1] at hfor
        have hval := fun e => y_cval e V h ia.1 ia.2 ib.1 ib.2
        have h8 := valueF_8 h ia.1 ia.2 ib.1 ib.2
        -- the class
        have C : Yf (d + 30) 139 [xr 2 0, xi a, xi b, xi c] V = if ¬ (kfit (V 67 0) (V 73 0 (a.toNat)) (V 68 0 (b.toNat)) = true) then some (xi (-3), V) else if (V 69 0 (b.toNat)) ≠ 8 then some (xi (-13), xu V 2 0 15 3) else if valueF V a b = -9 then some (xi (-11), xu V 2 0 15 1) else if syE V (V 21 0) (valueF V a b) c = 0 then some (xi (syF V (V 21 0) (valueF V a b) c), V) else some (xi (-10 - syE V (V 21 0) (valueF V a b) c), xu V 2 0 15 (syE V (V 21 0) (valueF V a b) c)) := by
          rw [s_X11_follow, y_thgHas, ci_r, ite_b2, if_pos (by omega), y_valHas, ci_r, ite_b2, if_pos (by omega), if_neg (by omega), if_neg (by omega), hfor, ci_r, ite_b2]
          by_cases i1 : kfit (V 67 0) (V 73 0 (a.toNat)) (V 68 0 (b.toNat)) = true
          · rw [if_pos i1, if_neg (c := ¬ (kfit (V 67 0) (V 73 0 (a.toNat)) (V 68 0 (b.toNat)) = true)) (fun k => k i1), if_pos (by omega), p4]
            by_cases i2 : (V 69 0 (b.toNat)) = 8
            · have h8 := h8 i2
              rw [if_pos i2, if_neg (c := (V 69 0 (b.toNat)) ≠ 8) (fun k => k i2), hval, cl_r, y_thgHas, ci_r, ite_b2]
              generalize valueF V a b = v at *
              by_cases i3 : v = -9
              · rw [if_neg (by omega), if_pos i3, s_X11_faulted, ci_r]; rfl
              · rw [if_pos (by omega), if_neg i3, w32_i (by omega) (by omega), y_saying _ V h (by omega) ic]
                split <;> rfl
            · rw [if_neg i2, if_pos (c := (V 69 0 (b.toNat)) ≠ 8) i2, s_X11_faulted, ci_r]; rfl
          · rw [if_neg i1, if_pos i1]
        -- the reference
        have R : ∀ W : XM, LD W (V 21 0) → (W 14 0 9) = (V 14 0 9) → (W 14 0 3) = (V 14 0 3) → W 67 = V 67 → W 73 = V 73 → W 68 = V 68 → W 69 = V 69 → W 76 = V 76 → W 77 = V 77 → (W 14 0 1) = (V 14 0 1) → valueF W a b = valueF V a b → Yf (d + 30) 235 [xr 14 0, xi a, xi b, xi c] W = if ¬ (kfit (V 67 0) (V 73 0 (a.toNat)) (V 68 0 (b.toNat)) = true) then some (xi (-3), W) else if (V 69 0 (b.toNat)) ≠ 8 then some (xi (-13), xu W 14 0 0 3) else if valueF V a b = -9 then some (xi (-11), xu W 14 0 0 1) else if syE W (V 21 0) (valueF V a b) c = 0 then some (xi (syF W (V 21 0) (valueF V a b) c), W) else some (xi (-10 - syE W (V 21 0) (valueF V a b) c), xu W 14 0 0 (syE W (V 21 0) (valueF V a b) c)) := by
          intro W hl wt wp w67 w73 w68 w69 w76 w77 wk wv
          have hcm := y_comesTo (d + 28) W (N := (V 14 0 1)) (by rw [w67]; exact hkin.1) (V 73 0 (a.toNat)) (V 68 0 (b.toNat)) t2 t3
          have hvl := fun e => y_rval e W hl.1 ia.1 (show a < (W 14 0 9) by omega) ib.1 (show b < 12 by omega)
          rw [w67] at hcm
          rw [s_X12_follow, y_isThing _ W _ (by omega), ci_r, ite_b2, if_pos (by omega), y_isProp _ W _ (by omega), ci_r, ite_b2, if_pos (by omega), y_in, ci_r, ite_b2, if_pos ic, if_pos (by omega), if_pos (by omega), w73, w68, hcm, ci_r, ite_b2]
          by_cases i1 : kfit (V 67 0) (V 73 0 (a.toNat)) (V 68 0 (b.toNat)) = true
          · rw [if_pos i1, if_neg (c := ¬ (kfit (V 67 0) (V 73 0 (a.toNat)) (V 68 0 (b.toNat)) = true)) (fun k => k i1), if_pos (by omega), w69]
            by_cases i2 : (V 69 0 (b.toNat)) = 8
            · have h8 := h8 i2
              rw [if_pos i2, if_neg (c := (V 69 0 (b.toNat)) ≠ 8) (fun k => k i2), hvl, cl_r, wv]
              simp only [cmp3_eq]
              generalize valueF V a b = v at *
              by_cases i3 : v = -9
              · rw [if_pos i3, if_pos i3, s_X12_faulty, ci_r]; rfl
              · obtain ⟨u1, u2, u3, u4, u5, u6, u7, u8, u9, u10, u11, u12, u13, u14, u15⟩ := hthg v (by omega) (by omega)
                rw [if_neg i3, if_neg i3, w32_i (by omega) (by omega), y_said _ W hl (by omega) ic (by rw [w76]; exact u12) (by rw [w76]; exact u13) (by rw [w77]; exact u15)]
                split <;> rfl
            · rw [if_neg i2, if_pos (c := (V 69 0 (b.toNat)) ≠ 8) i2, s_X12_faulty, ci_r]; rfl
          · rw [if_neg i1, if_pos i1]
        have R0 := R V h.ld rfl rfl rfl rfl rfl rfl rfl rfl rfl rfl
        have RF : ∀ f : Int, Yf (d + 30) 235 [xr 14 0, xi a, xi b, xi c] (xu V 2 0 15 f) = _ := fun f => R (xu V 2 0 15 f) h.ld rfl rfl rfl rfl rfl rfl rfl rfl rfl rfl
        by_cases i1 : ¬ (kfit (V 67 0) (V 73 0 (a.toNat)) (V 68 0 (b.toNat)) = true)
        · exact AG.no h (C.trans (if_pos i1)) (R0.trans (if_pos i1))
        rw [if_neg i1] at C R0
        by_cases i2 : (V 69 0 (b.toNat)) ≠ 8
        · exact AG.flt h (C.trans (if_pos i2)) ((RF 3).trans ((if_neg i1).trans (if_pos i2)))
        rw [if_neg i2] at C R0
        by_cases i3 : valueF V a b = -9
        · exact AG.flt h (C.trans (if_pos i3)) ((RF 1).trans ((if_neg i1).trans ((if_neg i2).trans (if_pos i3))))
        rw [if_neg i3] at C R0
        by_cases i4 : syE V (V 21 0) (valueF V a b) c = 0
        · exact AG.no h (C.trans (if_pos i4)) (R0.trans (if_pos i4))
        · have hc := sy_congr (V := V) (W := xu V 2 0 15 (syE V (V 21 0) (valueF V a b) c)) (B := (V 21 0)) rfl rfl rfl rfl rfl rfl (valueF V a b) c
          have hr := (RF (syE V (V 21 0) (valueF V a b) c)).trans ((if_neg i1).trans ((if_neg i2).trans (if_neg i3)))
          rw [hc.1, if_neg i4] at hr
          exact AG.flt h (C.trans (if_neg i4)) hr
      · have C : Yf (d + 30) 139 [xr 2 0, xi a, xi b, xi c] V = some (xi (-2), V) := by
          rw [s_X11_follow, y_thgHas, ci_r, ite_b2, if_pos (by omega), y_valHas, ci_r, ite_b2, if_pos (by omega)]
          by_cases i : c < 0
          · rw [if_pos i]
          · rw [if_neg i, if_pos (by omega)]
        exact AG.no h C (by rw [s_X12_follow, y_isThing _ V _ ⟨ct1, ct2⟩, ci_r, ite_b2, if_pos ia, y_isProp _ V _ ⟨cp1, cp2⟩, ci_r, ite_b2, if_pos ib, y_in, ci_r, ite_b2, if_neg ic])
    · exact AG.no (x := xi (-1)) h (by rw [s_X11_follow, y_thgHas, ci_r, ite_b2, if_pos (by omega), y_valHas, ci_r, ite_b2, if_neg (by omega)]) (by rw [s_X12_follow, y_isThing _ V _ ⟨ct1, ct2⟩, ci_r, ite_b2, if_pos ia, y_isProp _ V _ ⟨cp1, cp2⟩, ci_r, ite_b2, if_neg ib])
  · exact AG.no (x := xi (-1)) h (by rw [s_X11_follow, y_thgHas, ci_r, ite_b2, if_neg (by omega)]) (by rw [s_X12_follow, y_isThing _ V _ ⟨ct1, ct2⟩, ci_r, ite_b2, if_neg ia])
