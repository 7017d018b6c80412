/-! put -/
def cLay (V : XM) (t w n : Int) : XM := xu (xu (xu V 37 0 (6 * t + (V 38 0 (t.toNat))).toNat w) 38 0 t.toNat ((V 38 0 (t.toNat)) + 1)) 39 0 t.toNat n
theorem y_lay3 (d : Nat) (V : XM) {t : Int} (w n : Int) (h0 : 0 ≤ t) (h1 : t < 64) (hc : 0 ≤ (V 38 0 (t.toNat)) ∧ (V 38 0 (t.toNat)) < 6) (hb : (V 21 0 (t.toNat)) = 3) : Yf (d + 1) 13 [xr 7 0, xi t, xi w, xi n] V = some (xi 0, cLay V t w n) := by
  have e : w32 (w32 (t * 6) + (V 38 0 (t.toNat))) = 6 * t + (V 38 0 (t.toNat)) := by rw [w32_add, w32_i (by omega) (by omega)]; omega
  rw [s_X1_lay, e]
  (repeat (first | rw [ci_r] | rw [cl_r] | rw [cv_r] | rw [ite_b2] | rw [ite_b21] | rw [if_pos (by omega)] | rw [if_neg (by omega)] | rw [y_kindsHas] | rw [y_isKind _ _ _ (by omega)] | rw [y_valHas] | rw [y_isProp _ _ _ (by omega)] | rw [y_thgHas] | rw [y_isThing _ _ _ (by omega)] | rw [y_inRange] | rw [y_in] | rw [s_X11_faulted] | rw [s_X12_faulty] | rw [s_X11_against] | rw [s_X12_against] | simp (disch := omega) only [w32_i, Int.add_sub_cancel, mc64, mc24, mc6, mc8, mc5] | fail))
  rfl
theorem y_lay (d : Nat) (V : XM) {t w : Int} (n : Int) (h0 : 0 ≤ t) (h1 : t < 64) (h2 : 0 ≤ w) (h3 : w < 64) (hc : 0 ≤ (V 38 0 (t.toNat)) ∧ (V 38 0 (t.toNat)) < 6) (hb : (V 21 0 (t.toNat)) ≠ 3) (hi : 0 ≤ (V 43 0 (w.toNat)) ∧ (V 43 0 (w.toNat)) ≤ 64) : Yf (d + 1) 13 [xr 7 0, xi t, xi w, xi n] V = some (xi 0, xu (cLay V t w n) 43 0 w.toNat ((V 43 0 (w.toNat)) + 1)) := by
  have e : w32 (w32 (t * 6) + (V 38 0 (t.toNat))) = 6 * t + (V 38 0 (t.toNat)) := by rw [w32_add, w32_i (by omega) (by omega)]; omega
  rw [s_X1_lay, e]
  (repeat (first | rw [ci_r] | rw [cl_r] | rw [cv_r] | rw [ite_b2] | rw [ite_b21] | rw [if_pos (by omega)] | rw [if_neg (by omega)] | rw [y_kindsHas] | rw [y_isKind _ _ _ (by omega)] | rw [y_valHas] | rw [y_isProp _ _ _ (by omega)] | rw [y_thgHas] | rw [y_isThing _ _ _ (by omega)] | rw [y_inRange] | rw [y_in] | rw [s_X11_faulted] | rw [s_X12_faulty] | rw [s_X11_against] | rw [s_X12_against] | simp (disch := omega) only [w32_i, Int.add_sub_cancel, mc64, mc24, mc6, mc8, mc5] | fail))
  rfl
def rLay (V : XM) (t w n : Int) : XM := xu (xu (xu (rTell V n 0 t w 0) 78 0 (6 * t + (V 80 0 (t.toNat))).toNat w) 79 0 (6 * t + (V 80 0 (t.toNat))).toNat n) 80 0 t.toNat ((V 80 0 (t.toNat)) + 1)
theorem y_rLies (d : Nat) (V : XM) {t n : Int} (w : Int) (h0 : 0 ≤ t) (h1 : t < 64) (hc : 0 ≤ (V 80 0 (t.toNat)) ∧ (V 80 0 (t.toNat)) < 6) (hn : (V 14 0 22) = n) (hn0 : 0 ≤ n) (hn1 : n < 300) : Yf (d + 2) 220 [xr 14 0, xi t, xi w] V = some (xi n, rLay V t w n) := by
  have e : w32 (w32 (6 * t) + (V 80 0 (t.toNat))) = 6 * t + (V 80 0 (t.toNat)) := by rw [w32_add, w32_i (by omega) (by omega)]
  rw [s_X12_lies, y_tell _ V 0 t w 0 hn hn0 hn1, ci_r]
  have e80 : (rTell V n 0 t w 0) 80 0 t.toNat = V 80 0 t.toNat := rfl
  rw [e80, e]
  (repeat (first | rw [ci_r] | rw [cl_r] | rw [cv_r] | rw [ite_b2] | rw [ite_b21] | rw [if_pos (by omega)] | rw [if_neg (by omega)] | rw [y_kindsHas] | rw [y_isKind _ _ _ (by omega)] | rw [y_valHas] | rw [y_isProp _ _ _ (by omega)] | rw [y_thgHas] | rw [y_isThing _ _ _ (by omega)] | rw [y_inRange] | rw [y_in] | rw [s_X11_faulted] | rw [s_X12_faulty] | rw [s_X11_against] | rw [s_X12_against] | simp (disch := omega) only [w32_i, Int.add_sub_cancel, mc64, mc24, mc6, mc8, mc5] | rw [e80]))
  rfl
def pokB (V : XM) (B : Nat → Int) (t w : Int) : Bool := decide (¬ (B t.toNat = 1 ∨ B t.toNat = 2) ∧ ((B t.toNat = 3 ∧ B w.toNat = 1) ∨ (B t.toNat ≠ 3 ∧ isH (B w.toNat))) ∧ wiN (V 78 0) (V 80 0) t 64 w = false ∧ ff (nthB V t w) (V 80 0 (t.toNat)).toNat 0 = -9)
theorem c_put3 (d : Nat) (V : XM) (h : Inv V) (a b : Int) (ia : 0 ≤ a ∧ a < (V 14 0 9)) (ib : 0 ≤ b ∧ b < (V 14 0 9)) : Yf (d + 30) 129 [xr 2 0, xi a, xi b] V =
    if ¬ (pokB V (V 21 0) a b = true) then some (xi (-3), V) else if (V 14 0 22) = 300 ∨ ((V 21 0 (a.toNat)) = 3 ∧ (V 80 0 (a.toNat)) = 6) then some (xi (-4), V) else
    if putF V (V 21 0) a b ≠ -9 then some (xi (w32 (-100 - putF V (V 21 0) a b)), V) else
    if (V 21 0 (a.toNat)) = 3 then some (xi (V 14 0 22), cLay (cTell V (V 14 0 22) 0 a b (-9)) a b (V 14 0 22)) else some (xi (V 14 0 22), xu (cLay (cTell V (V 14 0 22) 0 a b (-9)) a b (V 14 0 22)) 43 0 b.toNat ((V 43 0 (b.toNat)) + 1)) := by
  have ho := h.ho
  have hc := h.hc
  have hp0 := putF_0 h ia.1 ia.2 ib.1 ib.2
  have hag := fun k => y_cAgainst (d + 24) V h ia.1 ia.2 ib.1 ib.2 k
  have hli := y_liesIn (d + 28) V h b ia.1 ia.2
  have hen := fun k => ends64 h ib.1 ib.2 k
  have hwi := fun k => y_cWithin (d + 26) V ho hc a ib.1 ib.2 (hen k)
  have hcb := cnt_b (fun t => decide ((V 21 0 t) ≠ 3 ∧ 0 < (V 80 0 t) ∧ (V 78 0 (6 * t)) = b)) (V 14 0 9).toNat
  obtain ⟨⟨ck1, ck2, ck3, cp1, cp2, cp3, ct1, ct2, ct3, cs1, cs2, cs3, cq1, cq2, cq3, cr1, cr2, cr3, cf1, cf2, cf3, cb1, cb2, cb3, cw1, cw2, cw3, clf, clc⟩, hkin, hpro, husu, hgiv, hthg, hhom, hput, hrin, hsen, hbar, hset, hmos, hpai, hrel, hmap, hdoo, hshe, htab, hwor⟩ := h
  have hin := (hmos b ib.1 ib.2).1
  obtain ⟨o1, o2, o3, o4, o5, o6⟩ := hhom a ia.1 ia.2
  have hmay := y_cMay (d + 26) V ia.1 (show a < 64 by omega) ib.1 (show b < (V 4 0 7) by omega) (by omega)
  have hall : Yf (d + 29) 11 [xr 7 0, xi a] V = some (xi (b2 ((V 21 0 (a.toNat)) = 3 ∧ (V 80 0 (a.toNat)) = 6)), V) := by
    rw [s_X1_hasAllHomes, o1]
    ((try unfold b2); (repeat' split) <;> first | rfl | (exfalso; omega))
  clear ck1 ck2 ck3 cp1 cp2 cp3 cq1 cq2 cq3 cr1 cr2 cr3 cf1 cf2 cf3 cb1 cb2 cb3 cw1 cw2 cw3 clf clc
  rw [s_X11_put]
  by_cases i1 : pokB V (V 21 0) a b = true
  · rw [if_neg (fun k => k i1)]
    unfold pokB at i1
    simp only [decide_eq_true_eq] at i1
    obtain ⟨j1, j2, j3, j4⟩ := i1
    have hb3 : (V 21 0 (b.toNat)) ≠ 3 := by rcases j2 with ⟨_, e⟩ | ⟨_, e | e | e⟩ <;> omega
    have hwi := hwi hb3
    have hag := hag j1
    rw [j3] at hwi
    rw [j4] at hli
    by_cases i2 : (V 14 0 22) = 300 ∨ ((V 21 0 (a.toNat)) = 3 ∧ (V 80 0 (a.toNat)) = 6)
    · rw [if_pos i2]
      by_cases i3 : (V 14 0 22) = 300
      · rw [y_thgHas, ci_r, ite_b2, if_pos (by omega), y_thgHas, ci_r, ite_b2, if_pos (by omega), hmay, ci_r, ite_b2, if_pos ⟨j1, j2⟩, hwi, ci_r, ite_b2, if_neg (by simp), hli, ci_r, ite_b2, if_neg (by simp), y_full, ci_r, ite_b2, if_pos (by omega)]
      · rw [y_thgHas, ci_r, ite_b2, if_pos (by omega), y_thgHas, ci_r, ite_b2, if_pos (by omega), hmay, ci_r, ite_b2, if_pos ⟨j1, j2⟩, hwi, ci_r, ite_b2, if_neg (by simp), hli, ci_r, ite_b2, if_neg (by simp), y_full, ci_r, ite_b2, if_neg (by omega), hall, ci_r, ite_b2, if_pos (by omega)]
    · rw [if_neg i2, y_thgHas, ci_r, ite_b2, if_pos (by omega), y_thgHas, ci_r, ite_b2, if_pos (by omega), hmay, ci_r, ite_b2, if_pos ⟨j1, j2⟩, hwi, ci_r, ite_b2, if_neg (by simp), hli, ci_r, ite_b2, if_neg (by simp), y_full, ci_r, ite_b2, if_neg (by omega), hall, ci_r, ite_b2, if_neg (by omega), hag, ci_r]
      by_cases i4 : putF V (V 21 0) a b = -9
      · rw [if_pos (by omega), if_neg (fun k => k i4), y_sadd _ V _ _ _ _ cs3 (by omega) (by omega), ci_r]
        by_cases i5 : (V 21 0 (a.toNat)) = 3
        · rw [if_pos i5, y_lay3 _ _ _ _ ia.1 (by omega) (by show 0 ≤ (V 38 0 (a.toNat)) ∧ (V 38 0 (a.toNat)) < 6; omega) (by exact i5), cv_r]
        · have i6 : ¬ (0 < (V 80 0 (a.toNat))) := fun k => by
            unfold putF at i4
            rw [if_pos ⟨i5, k⟩] at i4
            have := ((hput.1 a ia.1 ia.2).2 0 (by omega) k).1
            rw [show 6 * a + 0 = 6 * a by omega] at this
            omega
          rw [if_neg i5, y_lay _ _ _ ia.1 (by omega) ib.1 (by omega) (by show 0 ≤ (V 38 0 (a.toNat)) ∧ (V 38 0 (a.toNat)) < 6; omega) (by exact i5) (by show 0 ≤ (V 43 0 (b.toNat)) ∧ (V 43 0 (b.toNat)) ≤ 64; omega), cv_r]
          rfl
      · rw [if_neg (by omega), if_pos i4, s_X11_against, ci_r]
  · rw [if_pos i1, y_thgHas, ci_r, ite_b2, if_pos (by omega), y_thgHas, ci_r, ite_b2, if_pos (by omega), hmay, ci_r, ite_b2]
    unfold pokB at i1
    simp only [decide_eq_true_eq] at i1
    by_cases i2 : ¬ ((V 21 0 (a.toNat)) = 1 ∨ (V 21 0 (a.toNat)) = 2) ∧ (((V 21 0 (a.toNat)) = 3 ∧ (V 21 0 (b.toNat)) = 1) ∨ ((V 21 0 (a.toNat)) ≠ 3 ∧ isH (V 21 0 (b.toNat))))
    · have hb3 : (V 21 0 (b.toNat)) ≠ 3 := by rcases i2.2 with ⟨_, e⟩ | ⟨_, e | e | e⟩ <;> omega
      rw [if_pos i2, hwi hb3, ci_r, ite_b2]
      by_cases i3 : wiN (V 78 0) (V 80 0) a 64 b = true
      · rw [if_pos i3]
      · rw [if_neg i3, hli, ci_r, ite_b2, if_pos]
        intro e
        exact i1 ⟨i2.1, i2.2, by simpa using i3, e⟩
    · rw [if_neg i2]
