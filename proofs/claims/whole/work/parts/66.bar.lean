/-! bar -/
def hbF (V : XM) (t w : Int) : Int := (V 79 0 ((6 * t + ff (nthB V t w) (V 80 0 (t.toNat)).toNat 0).toNat))
theorem nth_spec {V : XM} (h : Inv V) {t w : Int} (h0 : 0 ≤ t) (h1 : t < (V 14 0 9)) (hk : ff (nthB V t w) (V 80 0 (t.toNat)).toNat 0 ≠ -9) : 0 ≤ ff (nthB V t w) (V 80 0 (t.toNat)).toNat 0 ∧ ff (nthB V t w) (V 80 0 (t.toNat)).toNat 0 < (V 80 0 (t.toNat)) ∧ (V 78 0 ((6 * t + ff (nthB V t w) (V 80 0 (t.toNat)).toNat 0).toNat)) = w := by
  rcases ff_spec (nthB V t w) (V 80 0 (t.toNat)).toNat 0 with ⟨x1, x2⟩ | ⟨s, x1, x2, x3, x4, x5⟩
  · exact absurd x1 hk
  · rw [x1]
    refine ⟨by omega, by omega, ?_⟩
    unfold nthB at x4
    exact of_decide_eq_true x4
theorem put_first {V : XM} (h : Inv V) {t w : Int} (h0 : 0 ≤ t) (h1 : t < (V 14 0 9)) (hk : ff (nthB V t w) (V 80 0 (t.toNat)).toNat 0 ≠ -9) : ff (senB V 0 t w) (V 14 0 22).toNat 0 = hbF V t w ∧ 0 ≤ hbF V t w := by
  obtain ⟨n1, n2, n3⟩ := nth_spec h h0 h1 hk
  obtain ⟨⟨ck1, ck2, ck3, cp1, cp2, cp3, ct1, ct2, ct3, cs1, cs2, cs3, cq1, cq2, cq3, cr1, cr2, cr3, cf1, cf2, cf3, cb1, cb2, cb3, cw1, cw2, cw3, clf, clc⟩, hkin, hpro, husu, hgiv, hthg, hhom, hput, hrin, hsen, hbar, hset, hmos, hpai, hrel, hmap, hdoo, hshe, htab, hwor⟩ := h
  obtain ⟨o1, o2, o3, o4, o5, o6⟩ := hhom t h0 h1
  obtain ⟨q1, q2⟩ := hput.1 t h0 h1
  unfold hbF
  generalize ff (nthB V t w) (V 80 0 (t.toNat)).toNat 0 = k at *
  obtain ⟨y1, y2, y3, y4, y5⟩ := q2 k n1 n2
  refine ⟨?_, y1⟩
  rw [ff_some (s := (V 79 0 ((6 * t + k).toNat)).toNat) (by omega)]
  · omega
  · unfold senB
    simp only [decide_eq_true_eq]
    exact ⟨y3, y4, by rw [y5, n3]⟩
  · intro s hs hf
    unfold senB at hf
    simp only [decide_eq_true_eq] at hf
    obtain ⟨f1, f2, f3⟩ := hf
    obtain ⟨z1, z2, l, z3, z4, z5⟩ := hput.2 s (by omega) (by omega) (by rw [Int.toNat_natCast]; exact f1)
    rw [Int.toNat_natCast, f2] at z4 z5
    obtain ⟨_, _, _, _, v5⟩ := q2 l z3 z4
    rw [z5, Int.toNat_natCast, f3] at v5
    have := (o6 k n1 n2).2.2.2.2 l z3 z4 (by rw [n3]; exact v5)
    rw [this, z5]
    omega
def barF (V : XM) (t w : Int) : Int := if ff (nthB V t w) (V 80 0 (t.toNat)).toNat 0 ≠ -9 then hbF V t w else if (V 81 0 (t.toNat)) ≠ 0 ∧ lAnd (V 81 0 (t.toNat)) (lXor (lShl 1 w) (-1)) = 0 then la (fun k => decide ((V 85 0 k) = 3 ∧ (V 86 0 k) = t)) (V 14 0 22).toNat else -9
theorem barF_0 {V : XM} (h : Inv V) {t w : Int} (h0 : 0 ≤ t) (h1 : t < (V 14 0 9)) : barF V t w = -9 ∨ 0 ≤ barF V t w := by
  have h' := h
  obtain ⟨⟨ck1, ck2, ck3, cp1, cp2, cp3, ct1, ct2, ct3, cs1, cs2, cs3, cq1, cq2, cq3, cr1, cr2, cr3, cf1, cf2, cf3, cb1, cb2, cb3, cw1, cw2, cw3, clf, clc⟩, hkin, hpro, husu, hgiv, hthg, hhom, hput, hrin, hsen, hbar, hset, hmos, hpai, hrel, hmap, hdoo, hshe, htab, hwor⟩ := h'
  unfold barF
  by_cases i1 : ff (nthB V t w) (V 80 0 (t.toNat)).toNat 0 ≠ -9
  · rw [if_pos i1]; exact .inr (put_first h h0 h1 i1).2
  · rw [if_neg i1]
    by_cases i2 : (V 81 0 (t.toNat)) ≠ 0 ∧ lAnd (V 81 0 (t.toNat)) (lXor (lShl 1 w) (-1)) = 0
    · rw [if_pos i2, among_la h h0 h1 i2.1]
      obtain ⟨x1, x2, x3, x4, x5⟩ := hset t h0 h1
      omega
    · rw [if_neg i2]; exact .inl rfl
theorem y_againstBar (d : Nat) (V : XM) (h : Inv V) {t w : Int} (h0 : 0 ≤ t) (h1 : t < (V 14 0 9)) : Yf (d + 3) 19 [xr 7 0, xi t, xi w] V = some (xi (barF V t w), V) := by
  have h' := h
  obtain ⟨⟨ck1, ck2, ck3, cp1, cp2, cp3, ct1, ct2, ct3, cs1, cs2, cs3, cq1, cq2, cq3, cr1, cr2, cr3, cf1, cf2, cf3, cb1, cb2, cb3, cw1, cw2, cw3, clf, clc⟩, hkin, hpro, husu, hgiv, hthg, hhom, hput, hrin, hsen, hbar, hset, hmos, hpai, hrel, hmap, hdoo, hshe, htab, hwor⟩ := h'
  obtain ⟨x1, x2, x3, x4, x5⟩ := hset t h0 h1
  rw [s_X1_againstBar, y_liesIn _ V h w h0 h1, ci_r, ite_b2]
  unfold barF
  simp only [cmp3_eq]
  by_cases i1 : ff (nthB V t w) (V 80 0 (t.toNat)).toNat 0 ≠ -9
  · rw [if_pos i1, if_pos i1, y_cFirst _ V h 0 t w (by omega), ci_r, (put_first h h0 h1 i1).1]
  · rw [if_neg i1, if_neg i1, if_pos (by omega)]
    by_cases i2 : (V 81 0 (t.toNat)) = 0
    · rw [if_pos (by omega), if_neg (fun k => k.1 i2)]
    · rw [if_neg (by omega), if_pos (by omega), s_X11_bit, cl_r, x1]
      by_cases i3 : lAnd (V 81 0 (t.toNat)) (lXor (lShl 1 w) (-1)) = 0
      · rw [if_pos i3, if_pos (by omega), if_pos ⟨i2, i3⟩, among_la h h0 h1 i2]
      · rw [if_neg i3, if_neg (fun k => i3 k.2)]
def cBar (V : XM) (n a b : Int) : XM := cTell (xu (xu V 40 0 a.toNat (lOr (V 40 0 (a.toNat)) (lShl 1 b))) 41 0 a.toNat (lAnd (V 41 0 (a.toNat)) (lXor (lShl 1 b) (-1)))) n 1 a b (-9)
def rBar (V : XM) (n a b : Int) : XM := rTell (xu V 81 0 a.toNat (lAnd (V 81 0 (a.toNat)) (lXor (lShl 1 b) (-1)))) n 1 a b 0
theorem Inv.bar {V : XM} (h : Inv V) {a b : Int} (h0 : 0 ≤ a) (h1 : a < (V 14 0 9)) (h2 : 0 ≤ b) (h3 : b < (V 14 0 9)) (hn : (V 14 0 22) < 300) (hs : ¬ ((V 81 0 (a.toNat)) ≠ 0 ∧ lAnd (V 81 0 (a.toNat)) (lXor (lShl 1 b) (-1)) = 0)) : Inv (rBar (cBar V (V 14 0 22) a b) (V 14 0 22) a b) := by
  obtain ⟨⟨ck1, ck2, ck3, cp1, cp2, cp3, ct1, ct2, ct3, cs1, cs2, cs3, cq1, cq2, cq3, cr1, cr2, cr3, cf1, cf2, cf3, cb1, cb2, cb3, cw1, cw2, cw3, clf, clc⟩, hkin, hpro, husu, hgiv, hthg, hhom, hput, hrin, hsen, hbar, hset, hmos, hpai, hrel, hmap, hdoo, hshe, htab, hwor⟩ := h
  have T : Told V (rBar (cBar V (V 14 0 22) a b) (V 14 0 22) a b) 1 (a) (b) (-9) (0) := ⟨xu_rw V 33 0 _ _, xu_rw V 34 0 _ _, xu_rw V 35 0 _ _, xu_rw V 36 0 _ _, xu_rw V 85 0 _ _, xu_rw V 86 0 _ _, xu_rw V 87 0 _ _, xu_rw V 88 0 _ _, rfl⟩
  refine ⟨⟨ck1, ck2, ck3, cp1, cp2, cp3, ct1, ct2, ct3, by show 0 ≤ (V 14 0 22) + 1; omega, by show (V 14 0 22) + 1 ≤ 300; omega, rfl, cq1, cq2, cq3, cr1, cr2, cr3, cf1, cf2, cf3, cb1, cb2, cb3, cw1, cw2, cw3, clf, clc⟩, hkin, hpro, husu, hgiv, hthg, hhom, (I_put.tell hput T cs1 (by omega) rfl rfl rfl rfl rfl rfl), hrin, (I_sen.tell hsen T cs1 (by omega) (by omega) (by omega) (by omega) rfl), ?_, ?_, (I_mos.tell hmos T cs1 (by omega) rfl rfl rfl rfl rfl rfl rfl rfl), (I_pai.tell hpai T cs1 (by omega) rfl rfl rfl rfl rfl rfl rfl rfl rfl), (I_rel.tell hrel T cs1 (by omega) (by omega) rfl rfl rfl rfl rfl), hmap, (I_doo.tell hdoo T cs1 (by omega) rfl rfl), hshe, htab, hwor⟩
  · obtain ⟨_, _, _, _, T5, T6, T7, _, T9⟩ := T
    have e40 : (rBar (cBar V (V 14 0 22) a b) (V 14 0 22) a b) 40 0 = zup (V 40 0) a.toNat (lOr (V 40 0 (a.toNat)) (lShl 1 b)) := xu_rw V 40 0 _ _
    have et : (rBar (cBar V (V 14 0 22) a b) (V 14 0 22) a b) 14 0 9 = V 14 0 9 := rfl
    unfold I_bar
    rw [e40, et, T5, T6, T7, T9]
    refine ⟨fun u k1 k2 k3 => ?_, fun t w k1 k2 k3 k4 => ?_⟩
    · by_cases hu : u = (V 14 0 22)
      · subst hu; rw [zup_eq, zup_eq]; omega
      · rw [zup_ne (by omega)] at k3
        rw [zup_ne (by omega), zup_ne (by omega)]
        exact hbar.1 u k1 (by omega) k3
    · have old := hbar.2 t w k1 k2 k3 k4
      constructor
      · intro hb
        by_cases hh : t = a ∧ w = b
        · obtain ⟨rfl, rfl⟩ := hh
          exact ⟨(V 14 0 22), cs1, by omega, zup_eq _ _ _, zup_eq _ _ _, zup_eq _ _ _⟩
        · have : bt (V 40 0 (t.toNat)) w.toNat = true := by
            by_cases ht : t = a
            · subst ht
              rw [zup_eq, bt_or, bt_bit h2 (by omega)] at hb
              have : ¬ w.toNat = b.toNat := by omega
              simpa [this] using hb
            · rw [zup_ne (by omega)] at hb; exact hb
          obtain ⟨u, x1, x2, x3, x4, x5⟩ := old.mp this
          refine ⟨u, x1, by omega, ?_⟩
          rw [zup_ne (by omega), zup_ne (by omega), zup_ne (by omega)]
          exact ⟨x3, x4, x5⟩
      · rintro ⟨u, x1, x2, x3, x4, x5⟩
        by_cases hu : u = (V 14 0 22)
        · subst hu
          rw [zup_eq] at x4 x5
          subst x4 x5
          rw [zup_eq, bt_or, bt_bit h2 (by omega)]
          simp
        · rw [zup_ne (by omega)] at x3 x4 x5
          have := old.mpr ⟨u, x1, by omega, x3, x4, x5⟩
          by_cases ht : t = a
          · subst ht
            rw [zup_eq, bt_or, this]; rfl
          · rw [zup_ne (by omega)]; exact this
  · obtain ⟨_, _, _, _, T5, T6, T7, _, T9⟩ := T
    have e40 : (rBar (cBar V (V 14 0 22) a b) (V 14 0 22) a b) 40 0 = zup (V 40 0) a.toNat (lOr (V 40 0 (a.toNat)) (lShl 1 b)) := xu_rw V 40 0 _ _
    have e41 : (rBar (cBar V (V 14 0 22) a b) (V 14 0 22) a b) 41 0 = zup (V 41 0) a.toNat (lAnd (V 41 0 (a.toNat)) (lXor (lShl 1 b) (-1))) := xu_rw V 41 0 _ _
    have e81 : (rBar (cBar V (V 14 0 22) a b) (V 14 0 22) a b) 81 0 = zup (V 81 0) a.toNat (lAnd (V 81 0 (a.toNat)) (lXor (lShl 1 b) (-1))) := xu_rw V 81 0 _ _
    have et : (rBar (cBar V (V 14 0 22) a b) (V 14 0 22) a b) 14 0 9 = V 14 0 9 := rfl
    have e42 : (rBar (cBar V (V 14 0 22) a b) (V 14 0 22) a b) 42 0 = V 42 0 := rfl
    have e21 : (rBar (cBar V (V 14 0 22) a b) (V 14 0 22) a b) 21 0 = V 21 0 := rfl
    unfold I_set
    rw [e40, e41, e81, et, e42, e21, T5, T6, T9]
    intro t k1 k2
    obtain ⟨x1, x2, x3, x4, x5⟩ := hset t k1 k2
    have hlater : ∀ u : Int, (V 42 0 (t.toNat)) < u → 0 ≤ u → u < (V 14 0 22) + 1 → zup (V 85 0) (V 14 0 22).toNat 1 u.toNat = 3 → zup (V 86 0) (V 14 0 22).toNat a u.toNat ≠ t := by
      intro u g1 g2 g3 g4
      by_cases hu : u = (V 14 0 22)
      · subst hu; rw [zup_eq] at g4; omega
      · rw [zup_ne (by omega)] at g4
        rw [zup_ne (by omega)]
        exact x4 u g1 g2 (by omega) g4
    have hmid : (0 ≤ (V 42 0 (t.toNat)) ∧ (V 42 0 (t.toNat)) < (V 14 0 22) ∧ (V 85 0 ((V 42 0 (t.toNat)).toNat)) = 3 ∧ (V 86 0 ((V 42 0 (t.toNat)).toNat)) = t ∧ isO (V 21 0 (t.toNat))) → (0 ≤ (V 42 0 (t.toNat)) ∧ (V 42 0 (t.toNat)) < (V 14 0 22) + 1 ∧ zup (V 85 0) (V 14 0 22).toNat 1 (V 42 0 (t.toNat)).toNat = 3 ∧ zup (V 86 0) (V 14 0 22).toNat a (V 42 0 (t.toNat)).toNat = t ∧ isO (V 21 0 (t.toNat))) := by
      rintro ⟨y2, y3, y4, y5, y6⟩
      rw [zup_ne (by omega), zup_ne (by omega)]
      exact ⟨y2, by omega, y4, y5, y6⟩
    by_cases ht : t = a
    · subst ht
      rw [zup_eq, zup_eq, zup_eq, x1]
      refine ⟨rfl, lAnd_c _ _, ?_, hlater, ?_⟩
      · rcases x3 with ⟨y1, y2⟩ | ⟨y1, y2⟩
        · refine .inl ⟨?_, y2⟩
          rw [y1]
          refine (bt_eq0 (lAnd_c _ _)).mpr (fun i hi => ?_)
          rw [bt_and, bt_0]; rfl
        · exact .inr ⟨fun k => hs ⟨y1, k⟩, hmid y2⟩
      · intro w g1 g2 g3
        rw [bt_and, bt_not _ (by omega), bt_bit h2 (by omega)] at g3
        simp only [Bool.and_eq_true] at g3
        obtain ⟨z1, z2, z3, z4⟩ := x5 w g1 g2 g3.1
        refine ⟨z1, z2, z3, ?_⟩
        have : ¬ w.toNat = b.toNat := by
          intro e
          rw [e] at g3
          simp at g3
        rw [bt_or, z4, bt_bit h2 (by omega)]
        simp [this]
    · have hne : t.toNat ≠ a.toNat := by omega
      rw [zup_ne hne, zup_ne hne, zup_ne hne]
      refine ⟨x1, x2, ?_, hlater, x5⟩
      rcases x3 with x3 | ⟨y1, y2⟩
      · exact .inl x3
      · exact .inr ⟨y1, hmid y2⟩
theorem c_bar (d : Nat) (V : XM) (h : Inv V) (a b : Int) (i1 : (0 ≤ a ∧ a < (V 14 0 9)) ∧ (0 ≤ b ∧ b < (V 14 0 9))) : Yf (d + 30) 130 [xr 2 0, xi a, xi b] V =
    if ((V 21 0 (a.toNat)) = 1 ∨ (V 21 0 (a.toNat)) = 2) ∨ ¬ isH (V 21 0 (b.toNat)) then some (xi (-3), V) else if (V 14 0 22) = 300 then some (xi (-4), V) else
    if barF V a b ≠ -9 then some (xi (w32 (-100 - barF V a b)), V) else some (xi (V 14 0 22), cBar V (V 14 0 22) a b) := by
  have h' := h
  obtain ⟨⟨ck1, ck2, ck3, cp1, cp2, cp3, ct1, ct2, ct3, cs1, cs2, cs3, cq1, cq2, cq3, cr1, cr2, cr3, cf1, cf2, cf3, cb1, cb2, cb3, cw1, cw2, cw3, clf, clc⟩, hkin, hpro, husu, hgiv, hthg, hhom, hput, hrin, hsen, hbar, hset, hmos, hpai, hrel, hmap, hdoo, hshe, htab, hwor⟩ := h'
  have hb0 := barF_0 h (t := a) (w := b) (by omega) (by omega)
  rw [s_X11_bar]
  by_cases i2 : ((V 21 0 (a.toNat)) = 1 ∨ (V 21 0 (a.toNat)) = 2)
  · (repeat (first | rw [ci_r] | rw [cl_r] | rw [cv_r] | rw [ite_b2] | rw [ite_b21] | rw [if_pos (by omega)] | rw [if_neg (by omega)] | rw [y_kindsHas] | rw [y_isKind _ _ _ (by omega)] | rw [y_valHas] | rw [y_isProp _ _ _ (by omega)] | rw [y_thgHas] | rw [y_isThing _ _ _ (by omega)] | rw [y_inRange] | rw [y_in] | rw [s_X11_faulted] | rw [s_X12_faulty] | rw [s_X11_against] | rw [s_X12_against] | simp (disch := omega) only [w32_i, Int.add_sub_cancel, mc64, mc24, mc6, mc8, mc5] | rw [y_cFixed _ V (by omega) (by omega)]))
  by_cases i3 : isH (V 21 0 (b.toNat))
  · by_cases i4 : (V 14 0 22) = 300
    · (repeat (first | rw [ci_r] | rw [cl_r] | rw [cv_r] | rw [ite_b2] | rw [ite_b21] | rw [if_pos (by omega)] | rw [if_neg (by omega)] | rw [y_kindsHas] | rw [y_isKind _ _ _ (by omega)] | rw [y_valHas] | rw [y_isProp _ _ _ (by omega)] | rw [y_thgHas] | rw [y_isThing _ _ _ (by omega)] | rw [y_inRange] | rw [y_in] | rw [s_X11_faulted] | rw [s_X12_faulty] | rw [s_X11_against] | rw [s_X12_against] | simp (disch := omega) only [w32_i, Int.add_sub_cancel, mc64, mc24, mc6, mc8, mc5] | rw [y_cFixed _ V (by omega) (by omega)] | rw [y_cHolder _ V (by omega) (by omega)] | rw [y_full]))
    · by_cases i5 : barF V a b = -9
      · (repeat (first | rw [ci_r] | rw [cl_r] | rw [cv_r] | rw [ite_b2] | rw [ite_b21] | rw [if_pos (by omega)] | rw [if_neg (by omega)] | rw [y_kindsHas] | rw [y_isKind _ _ _ (by omega)] | rw [y_valHas] | rw [y_isProp _ _ _ (by omega)] | rw [y_thgHas] | rw [y_isThing _ _ _ (by omega)] | rw [y_inRange] | rw [y_in] | rw [s_X11_faulted] | rw [s_X12_faulty] | rw [s_X11_against] | rw [s_X12_against] | simp (disch := omega) only [w32_i, Int.add_sub_cancel, mc64, mc24, mc6, mc8, mc5] | rw [y_cFixed _ V (by omega) (by omega)] | rw [y_cHolder _ V (by omega) (by omega)] | rw [y_full] | rw [y_againstBar _ V h (by omega) (by omega)] | rw [s_X1_shut] | rw [s_X11_bit]))
        rw [y_sadd _ _ _ _ _ _ (by exact cs3) (by omega) (by omega), ci_r]
        rfl
      · (repeat (first | rw [ci_r] | rw [cl_r] | rw [cv_r] | rw [ite_b2] | rw [ite_b21] | rw [if_pos (by omega)] | rw [if_neg (by omega)] | rw [y_kindsHas] | rw [y_isKind _ _ _ (by omega)] | rw [y_valHas] | rw [y_isProp _ _ _ (by omega)] | rw [y_thgHas] | rw [y_isThing _ _ _ (by omega)] | rw [y_inRange] | rw [y_in] | rw [s_X11_faulted] | rw [s_X12_faulty] | rw [s_X11_against] | rw [s_X12_against] | simp (disch := omega) only [w32_i, Int.add_sub_cancel, mc64, mc24, mc6, mc8, mc5] | rw [y_cFixed _ V (by omega) (by omega)] | rw [y_cHolder _ V (by omega) (by omega)] | rw [y_full] | rw [y_againstBar _ V h (by omega) (by omega)]))
  · (repeat (first | rw [ci_r] | rw [cl_r] | rw [cv_r] | rw [ite_b2] | rw [ite_b21] | rw [if_pos (by omega)] | rw [if_neg (by omega)] | rw [y_kindsHas] | rw [y_isKind _ _ _ (by omega)] | rw [y_valHas] | rw [y_isProp _ _ _ (by omega)] | rw [y_thgHas] | rw [y_isThing _ _ _ (by omega)] | rw [y_inRange] | rw [y_in] | rw [s_X11_faulted] | rw [s_X12_faulty] | rw [s_X11_against] | rw [s_X12_against] | simp (disch := omega) only [w32_i, Int.add_sub_cancel, mc64, mc24, mc6, mc8, mc5] | rw [y_cFixed _ V (by omega) (by omega)] | rw [y_cHolder _ V (by omega) (by omega)]))
theorem r_bar (d : Nat) (V : XM) (a b : Int) {B : Nat → Int} (hb : RB V B) (cs1 : 0 ≤ (V 14 0 22)) (cs2 : (V 14 0 22) ≤ 300) (hh : 0 ≤ (V 80 0 (a.toNat)) ∧ (V 80 0 (a.toNat)) ≤ 6) (i1 : (0 ≤ a ∧ a < (V 14 0 9)) ∧ (0 ≤ b ∧ b < (V 14 0 9))) (hf : ff (nthB V a b) (V 80 0 (a.toNat)).toNat 0 ≠ -9 → 0 ≤ ff (nthB V a b) (V 80 0 (a.toNat)).toNat 0 ∧ ff (nthB V a b) (V 80 0 (a.toNat)).toNat 0 < 6 ∧ 0 ≤ hbF V a b) (hl : (V 81 0 (a.toNat)) ≠ 0 → 0 ≤ la (fun k => decide ((V 85 0 k) = 3 ∧ (V 86 0 k) = a)) (V 14 0 22).toNat) : Yf (d + 30) 222 [xr 14 0, xi a, xi b] V =
    if (B a.toNat = 1 ∨ B a.toNat = 2) ∨ ¬ isH (B b.toNat) then some (xi (-3), V) else if (V 14 0 22) = 300 then some (xi (-4), V) else
    if barF V a b ≠ -9 then some (xi (w32 (-100 - barF V a b)), V) else some (xi (V 14 0 22), rBar V (V 14 0 22) a b) := by
  obtain ⟨hp, ct1, ct2, h6⟩ := id hb
  rw [s_X12_bar]
  simp only [cmp3_eq]
  have ew : ∀ d, Yf (d + 1) 210 [xr 14 0, xi 1, xi a, xi b, xi 0] (xu V 81 0 a.toNat (lAnd (V 81 0 (a.toNat)) (lXor (lShl 1 b) (-1)))) = if (V 14 0 22) < 300 then some (xi (V 14 0 22), rBar V (V 14 0 22) a b) else Yf (d + 1) 210 [xr 14 0, xi 1, xi a, xi b, xi 0] (xu V 81 0 a.toNat (lAnd (V 81 0 (a.toNat)) (lXor (lShl 1 b) (-1)))) := fun d => by
    split
    · exact y_tell d _ 1 a b 0 rfl cs1 (by assumption)
    · rfl
  by_cases i2 : (B a.toNat = 1 ∨ B a.toNat = 2)
  · (repeat (first | rw [ci_r] | rw [cl_r] | rw [cv_r] | rw [ite_b2] | rw [ite_b21] | rw [if_pos (by omega)] | rw [if_neg (by omega)] | rw [y_kindsHas] | rw [y_isKind _ _ _ (by omega)] | rw [y_valHas] | rw [y_isProp _ _ _ (by omega)] | rw [y_thgHas] | rw [y_isThing _ _ _ (by omega)] | rw [y_inRange] | rw [y_in] | rw [s_X11_faulted] | rw [s_X12_faulty] | rw [s_X11_against] | rw [s_X12_against] | simp (disch := omega) only [w32_i, Int.add_sub_cancel, mc64, mc24, mc6, mc8, mc5] | rw [y_rFixed _ V hb (by omega) (by omega)]))
  by_cases i3 : isH (B b.toNat)
  · by_cases i4 : (V 14 0 22) = 300
    · (repeat (first | rw [ci_r] | rw [cl_r] | rw [cv_r] | rw [ite_b2] | rw [ite_b21] | rw [if_pos (by omega)] | rw [if_neg (by omega)] | rw [y_kindsHas] | rw [y_isKind _ _ _ (by omega)] | rw [y_valHas] | rw [y_isProp _ _ _ (by omega)] | rw [y_thgHas] | rw [y_isThing _ _ _ (by omega)] | rw [y_inRange] | rw [y_in] | rw [s_X11_faulted] | rw [s_X12_faulty] | rw [s_X11_against] | rw [s_X12_against] | simp (disch := omega) only [w32_i, Int.add_sub_cancel, mc64, mc24, mc6, mc8, mc5] | rw [y_rFixed _ V hb (by omega) (by omega)] | rw [y_rHolder _ V hb (by omega) (by omega)]))
    · unfold barF
      by_cases i5 : ff (nthB V a b) (V 80 0 (a.toNat)).toNat 0 = -9
      · by_cases i6 : (V 81 0 (a.toNat)) = 0
        · rw [if_neg (c := (V 81 0 (a.toNat)) ≠ 0 ∧ lAnd (V 81 0 (a.toNat)) (lXor (lShl 1 b) (-1)) = 0) (fun k => k.1 i6)]
          (repeat (first | rw [ci_r] | rw [cl_r] | rw [cv_r] | rw [ite_b2] | rw [ite_b21] | rw [if_pos (by omega)] | rw [if_neg (by omega)] | rw [y_kindsHas] | rw [y_isKind _ _ _ (by omega)] | rw [y_valHas] | rw [y_isProp _ _ _ (by omega)] | rw [y_thgHas] | rw [y_isThing _ _ _ (by omega)] | rw [y_inRange] | rw [y_in] | rw [s_X11_faulted] | rw [s_X12_faulty] | rw [s_X11_against] | rw [s_X12_against] | simp (disch := omega) only [w32_i, Int.add_sub_cancel, mc64, mc24, mc6, mc8, mc5] | rw [y_rFixed _ V hb (by omega) (by omega)] | rw [y_rHolder _ V hb (by omega) (by omega)] | rw [y_nth _ V _ (by omega) (by omega) hh] | rw [ew]))
        · by_cases i7 : lAnd (V 81 0 (a.toNat)) (lXor (lShl 1 b) (-1)) = 0
          · have hl := hl i6
            rw [if_pos (c := (V 81 0 (a.toNat)) ≠ 0 ∧ lAnd (V 81 0 (a.toNat)) (lXor (lShl 1 b) (-1)) = 0) ⟨i6, i7⟩]
            (repeat (first | rw [ci_r] | rw [cl_r] | rw [cv_r] | rw [ite_b2] | rw [ite_b21] | rw [if_pos (by omega)] | rw [if_neg (by omega)] | rw [y_kindsHas] | rw [y_isKind _ _ _ (by omega)] | rw [y_valHas] | rw [y_isProp _ _ _ (by omega)] | rw [y_thgHas] | rw [y_isThing _ _ _ (by omega)] | rw [y_inRange] | rw [y_in] | rw [s_X11_faulted] | rw [s_X12_faulty] | rw [s_X11_against] | rw [s_X12_against] | simp (disch := omega) only [w32_i, Int.add_sub_cancel, mc64, mc24, mc6, mc8, mc5] | rw [y_rFixed _ V hb (by omega) (by omega)] | rw [y_rHolder _ V hb (by omega) (by omega)] | rw [y_nth _ V _ (by omega) (by omega) hh] | rw [y_rAmong _ V _ cs1 cs2]))
          · rw [if_neg (c := (V 81 0 (a.toNat)) ≠ 0 ∧ lAnd (V 81 0 (a.toNat)) (lXor (lShl 1 b) (-1)) = 0) (fun k => i7 k.2)]
            (repeat (first | rw [ci_r] | rw [cl_r] | rw [cv_r] | rw [ite_b2] | rw [ite_b21] | rw [if_pos (by omega)] | rw [if_neg (by omega)] | rw [y_kindsHas] | rw [y_isKind _ _ _ (by omega)] | rw [y_valHas] | rw [y_isProp _ _ _ (by omega)] | rw [y_thgHas] | rw [y_isThing _ _ _ (by omega)] | rw [y_inRange] | rw [y_in] | rw [s_X11_faulted] | rw [s_X12_faulty] | rw [s_X11_against] | rw [s_X12_against] | simp (disch := omega) only [w32_i, Int.add_sub_cancel, mc64, mc24, mc6, mc8, mc5] | rw [y_rFixed _ V hb (by omega) (by omega)] | rw [y_rHolder _ V hb (by omega) (by omega)] | rw [y_nth _ V _ (by omega) (by omega) hh] | rw [ew]))
      · have hf := hf i5
        (repeat (first | rw [ci_r] | rw [cl_r] | rw [cv_r] | rw [ite_b2] | rw [ite_b21] | rw [if_pos (by omega)] | rw [if_neg (by omega)] | rw [y_kindsHas] | rw [y_isKind _ _ _ (by omega)] | rw [y_valHas] | rw [y_isProp _ _ _ (by omega)] | rw [y_thgHas] | rw [y_isThing _ _ _ (by omega)] | rw [y_inRange] | rw [y_in] | rw [s_X11_faulted] | rw [s_X12_faulty] | rw [s_X11_against] | rw [s_X12_against] | simp (disch := omega) only [w32_i, Int.add_sub_cancel, mc64, mc24, mc6, mc8, mc5] | rw [y_rFixed _ V hb (by omega) (by omega)] | rw [y_rHolder _ V hb (by omega) (by omega)] | rw [y_nth _ V _ (by omega) (by omega) hh]))
        rfl
  · (repeat (first | rw [ci_r] | rw [cl_r] | rw [cv_r] | rw [ite_b2] | rw [ite_b21] | rw [if_pos (by omega)] | rw [if_neg (by omega)] | rw [y_kindsHas] | rw [y_isKind _ _ _ (by omega)] | rw [y_valHas] | rw [y_isProp _ _ _ (by omega)] | rw [y_thgHas] | rw [y_isThing _ _ _ (by omega)] | rw [y_inRange] | rw [y_in] | rw [s_X11_faulted] | rw [s_X12_faulty] | rw [s_X11_against] | rw [s_X12_against] | simp (disch := omega) only [w32_i, Int.add_sub_cancel, mc64, mc24, mc6, mc8, mc5] | rw [y_rFixed _ V hb (by omega) (by omega)] | rw [y_rHolder _ V hb (by omega) (by omega)]))
theorem g_bar (d : Nat) (V : XM) (h : Inv V) (a b : Int) : AG d 130 222 [xi a, xi b] V := by
  have h' := h
  obtain ⟨⟨ck1, ck2, ck3, cp1, cp2, cp3, ct1, ct2, ct3, cs1, cs2, cs3, cq1, cq2, cq3, cr1, cr2, cr3, cf1, cf2, cf3, cb1, cb2, cb3, cw1, cw2, cw3, clf, clc⟩, hkin, hpro, husu, hgiv, hthg, hhom, hput, hrin, hsen, hbar, hset, hmos, hpai, hrel, hmap, hdoo, hshe, htab, hwor⟩ := h'
  by_cases ia : 0 ≤ a ∧ a < (V 14 0 9)
  · by_cases ib : 0 ≤ b ∧ b < (V 14 0 9)
    · have i1 : (0 ≤ a ∧ a < (V 14 0 9)) ∧ (0 ≤ b ∧ b < (V 14 0 9)) := ⟨ia, ib⟩
      obtain ⟨o1, o2, o3, o4, o5, o6⟩ := hhom a ia.1 ia.2
      have hf : ff (nthB V a b) (V 80 0 (a.toNat)).toNat 0 ≠ -9 → 0 ≤ ff (nthB V a b) (V 80 0 (a.toNat)).toNat 0 ∧ ff (nthB V a b) (V 80 0 (a.toNat)).toNat 0 < 6 ∧ 0 ≤ hbF V a b := fun k => ⟨(nth_spec h ia.1 ia.2 k).1, by have := (nth_spec h ia.1 ia.2 k).2.1; omega, (put_first h ia.1 ia.2 k).2⟩
      have hl : (V 81 0 (a.toNat)) ≠ 0 → 0 ≤ la (fun k => decide ((V 85 0 k) = 3 ∧ (V 86 0 k) = a)) (V 14 0 22).toNat := fun k => by
        rw [among_la h ia.1 ia.2 k]
        have := (hset a ia.1 ia.2).2.2.1
        omega
      have hC := c_bar d V h a b i1
      have hR0 := r_bar d V a b h.rb cs1 cs2 ⟨o2, o3⟩ i1 hf hl
      by_cases i2 : ((V 21 0 (a.toNat)) = 1 ∨ (V 21 0 (a.toNat)) = 2) ∨ ¬ isH (V 21 0 (b.toNat))
      · exact AG.no h (hC.trans (if_pos i2)) (hR0.trans (if_pos i2))
      rw [if_neg i2] at hC hR0
      by_cases i3 : (V 14 0 22) = 300
      · exact AG.no h (hC.trans (if_pos i3)) (hR0.trans (if_pos i3))
      rw [if_neg i3] at hC hR0
      by_cases i4 : barF V a b ≠ -9
      · exact AG.no h (hC.trans (if_pos i4)) (hR0.trans (if_pos i4))
      rw [if_neg i4] at hC hR0
      refine AG.mk hC ((r_bar d _ a b (by exact h.rb) (by exact cs1) (by exact cs2) (by exact ⟨o2, o3⟩) (by exact i1) (by exact hf) (by exact hl)).trans ((if_neg (by exact i2)).trans ((if_neg (by exact i3)).trans (if_neg (by exact i4))))) ?_ rfl
      refine Inv.bar h ia.1 ia.2 ib.1 ib.2 (by omega) (fun k => i4 ?_)
      unfold barF
      by_cases i5 : ff (nthB V a b) (V 80 0 (a.toNat)).toNat 0 ≠ -9
      · rw [if_pos i5]; have := (hf i5).2.2; omega
      · rw [if_neg i5, if_pos k]; have := hl k.1; omega
    · exact AG.no (x := xi (-1)) h (by rw [s_X11_bar]; (repeat (first | rw [ci_r] | rw [cl_r] | rw [cv_r] | rw [ite_b2] | rw [ite_b21] | rw [if_pos (by omega)] | rw [if_neg (by omega)] | rw [y_kindsHas] | rw [y_isKind _ _ _ (by omega)] | rw [y_valHas] | rw [y_isProp _ _ _ (by omega)] | rw [y_thgHas] | rw [y_isThing _ _ _ (by omega)] | rw [y_inRange] | rw [y_in] | rw [s_X11_faulted] | rw [s_X12_faulty] | rw [s_X11_against] | rw [s_X12_against] | simp (disch := omega) only [w32_i, Int.add_sub_cancel, mc64, mc24, mc6, mc8, mc5] | fail))) (by rw [s_X12_bar]; (repeat (first | rw [ci_r] | rw [cl_r] | rw [cv_r] | rw [ite_b2] | rw [ite_b21] | rw [if_pos (by omega)] | rw [if_neg (by omega)] | rw [y_kindsHas] | rw [y_isKind _ _ _ (by omega)] | rw [y_valHas] | rw [y_isProp _ _ _ (by omega)] | rw [y_thgHas] | rw [y_isThing _ _ _ (by omega)] | rw [y_inRange] | rw [y_in] | rw [s_X11_faulted] | rw [s_X12_faulty] | rw [s_X11_against] | rw [s_X12_against] | simp (disch := omega) only [w32_i, Int.add_sub_cancel, mc64, mc24, mc6, mc8, mc5] | fail)))
  · exact AG.no (x := xi (-1)) h (by rw [s_X11_bar]; (repeat (first | rw [ci_r] | rw [cl_r] | rw [cv_r] | rw [ite_b2] | rw [ite_b21] | rw [if_pos (by omega)] | rw [if_neg (by omega)] | rw [y_kindsHas] | rw [y_isKind _ _ _ (by omega)] | rw [y_valHas] | rw [y_isProp _ _ _ (by omega)] | rw [y_thgHas] | rw [y_isThing _ _ _ (by omega)] | rw [y_inRange] | rw [y_in] | rw [s_X11_faulted] | rw [s_X12_faulty] | rw [s_X11_against] | rw [s_X12_against] | simp (disch := omega) only [w32_i, Int.add_sub_cancel, mc64, mc24, mc6, mc8, mc5] | fail))) (by rw [s_X12_bar]; (repeat (first | rw [ci_r] | rw [cl_r] | rw [cv_r] | rw [ite_b2] | rw [ite_b21] | rw [if_pos (by omega)] | rw [if_neg (by omega)] | rw [y_kindsHas] | rw [y_isKind _ _ _ (by omega)] | rw [y_valHas] | rw [y_isProp _ _ _ (by omega)] | rw [y_thgHas] | rw [y_isThing _ _ _ (by omega)] | rw [y_inRange] | rw [y_in] | rw [s_X11_faulted] | rw [s_X12_faulty] | rw [s_X11_against] | rw [s_X12_against] | simp (disch := omega) only [w32_i, Int.add_sub_cancel, mc64, mc24, mc6, mc8, mc5] | fail)))
