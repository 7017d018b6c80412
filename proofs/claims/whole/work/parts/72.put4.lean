/-! put, the reference's side -/
theorem r_put3 (d : Nat) (V : XM) (a b : Int) {B : Nat → Int} (hb : RB V B) (hr : RP V) (ia : 0 ≤ a ∧ a < (V 14 0 9)) (ib : 0 ≤ b ∧ b < (V 14 0 9)) (hen : B b.toNat ≠ 3 → endsN (V 78 0) (V 80 0) 64 b)
    (hh : 0 ≤ (V 80 0 (a.toNat)) ∧ (V 80 0 (a.toNat)) ≤ 6) (hl : B a.toNat ≠ 3 → (V 80 0 (a.toNat)) ≤ 1) (hm : (V 82 0 (b.toNat)) = -9 ∨ (0 ≤ (V 82 0 (b.toNat)) ∧ (V 82 0 (b.toNat)) < 300)) (hp0 : putF V B a b = -9 ∨ 0 ≤ putF V B a b) : Yf (d + 30) 221 [xr 14 0, xi a, xi b] V =
    if ¬ (pokB V B a b = true) then some (xi (-3), V) else if (V 14 0 22) = 300 ∨ (B a.toNat = 3 ∧ (V 80 0 (a.toNat)) = 6) then some (xi (-4), V) else
    if putF V B a b ≠ -9 then some (xi (w32 (-100 - putF V B a b)), V) else some (xi (V 14 0 22), rLay V a b (V 14 0 22)) := by
  obtain ⟨hp, ct1, ct2, h6⟩ := id hb
  obtain ⟨cs1, cs2, _, ho, _⟩ := id hr
  have hag := y_rAgainst (d + 24) V hb hr ia.1 ia.2 ib.1 ib.2 hh.1 hm
  have hnt := y_nth (d + 28) V b ia.1 (show a < 64 by omega) hh
  have hwi := fun k => y_rWithin (d + 28) V ho a ib.1 ib.2 (hen k)
  have hba := y_rBackdrop (d + 26) V hb ia.1 ia.2
  have hfa := y_rFixed (d + 26) V hb ia.1 ia.2
  have hbb := y_base (d + 27) V hb ib.1 ib.2
  have hhb := y_rHolder (d + 25) V hb ib.1 ib.2
  have hli := fun k1 k2 => y_rLies (d + 27) V b ia.1 (show a < 64 by omega) k1 rfl cs1 k2
  rw [s_X12_put]
  by_cases i1 : pokB V B a b = true
  · rw [if_neg (c := ¬ (pokB V B a b = true)) (fun k => k i1)]
    unfold pokB at i1
    simp only [decide_eq_true_eq] at i1
    obtain ⟨j1, j2, j3, j4⟩ := i1
    have hb3 : B b.toNat ≠ 3 := by rcases j2 with ⟨_, e⟩ | ⟨_, e | e | e⟩ <;> omega
    have hwi := hwi hb3
    rw [j3] at hwi
    rw [j4] at hnt
    have hwi2 : b2 (false = true) = 0 := b2_0.mpr (by simp)
    rw [hwi2] at hwi
    by_cases i2 : (V 14 0 22) = 300 ∨ (B a.toNat = 3 ∧ (V 80 0 (a.toNat)) = 6)
    · rw [if_pos (c := (V 14 0 22) = 300 ∨ (B a.toNat = 3 ∧ (V 80 0 (a.toNat)) = 6)) i2]
      by_cases i3 : (V 14 0 22) = 300 <;> by_cases i4 : B a.toNat = 3
      · (repeat (first | rw [ci_r] | rw [cl_r] | rw [cv_r] | rw [ite_b2] | rw [ite_b21] | rw [if_pos (by omega)] | rw [if_neg (by omega)] | rw [y_kindsHas] | rw [y_isKind _ _ _ (by omega)] | rw [y_valHas] | rw [y_isProp _ _ _ (by omega)] | rw [y_thgHas] | rw [y_isThing _ _ _ (by omega)] | rw [y_inRange] | rw [y_in] | rw [s_X11_faulted] | rw [s_X12_faulty] | rw [s_X11_against] | rw [s_X12_against] | simp (disch := omega) only [w32_i, Int.add_sub_cancel, mc64, mc24, mc6, mc8, mc5] | rw [hba] | rw [hfa] | rw [hbb] | rw [hhb] | rw [hwi] | rw [hnt]))
      · (repeat (first | rw [ci_r] | rw [cl_r] | rw [cv_r] | rw [ite_b2] | rw [ite_b21] | rw [if_pos (by omega)] | rw [if_neg (by omega)] | rw [y_kindsHas] | rw [y_isKind _ _ _ (by omega)] | rw [y_valHas] | rw [y_isProp _ _ _ (by omega)] | rw [y_thgHas] | rw [y_isThing _ _ _ (by omega)] | rw [y_inRange] | rw [y_in] | rw [s_X11_faulted] | rw [s_X12_faulty] | rw [s_X11_against] | rw [s_X12_against] | simp (disch := omega) only [w32_i, Int.add_sub_cancel, mc64, mc24, mc6, mc8, mc5] | rw [hba] | rw [hfa] | rw [hbb] | rw [hhb] | rw [hwi] | rw [hnt]))
      · (repeat (first | rw [ci_r] | rw [cl_r] | rw [cv_r] | rw [ite_b2] | rw [ite_b21] | rw [if_pos (by omega)] | rw [if_neg (by omega)] | rw [y_kindsHas] | rw [y_isKind _ _ _ (by omega)] | rw [y_valHas] | rw [y_isProp _ _ _ (by omega)] | rw [y_thgHas] | rw [y_isThing _ _ _ (by omega)] | rw [y_inRange] | rw [y_in] | rw [s_X11_faulted] | rw [s_X12_faulty] | rw [s_X11_against] | rw [s_X12_against] | simp (disch := omega) only [w32_i, Int.add_sub_cancel, mc64, mc24, mc6, mc8, mc5] | rw [hba] | rw [hfa] | rw [hbb] | rw [hhb] | rw [hwi] | rw [hnt]))
      · exfalso; omega
    · rw [if_neg (c := (V 14 0 22) = 300 ∨ (B a.toNat = 3 ∧ (V 80 0 (a.toNat)) = 6)) i2]
      by_cases i5 : putF V B a b = -9
      · rw [if_neg (c := putF V B a b ≠ -9) (fun k => k i5)]
        by_cases i4 : B a.toNat = 3
        all_goals
          have hli := hli (by omega) (by omega)
          (repeat (first | rw [ci_r] | rw [cl_r] | rw [cv_r] | rw [ite_b2] | rw [ite_b21] | rw [if_pos (by omega)] | rw [if_neg (by omega)] | rw [y_kindsHas] | rw [y_isKind _ _ _ (by omega)] | rw [y_valHas] | rw [y_isProp _ _ _ (by omega)] | rw [y_thgHas] | rw [y_isThing _ _ _ (by omega)] | rw [y_inRange] | rw [y_in] | rw [s_X11_faulted] | rw [s_X12_faulty] | rw [s_X11_against] | rw [s_X12_against] | simp (disch := omega) only [w32_i, Int.add_sub_cancel, mc64, mc24, mc6, mc8, mc5] | rw [hba] | rw [hfa] | rw [hbb] | rw [hhb] | rw [hwi] | rw [hnt] | rw [hag] | rw [hli]))
      · rw [if_pos (c := putF V B a b ≠ -9) i5]
        by_cases i4 : B a.toNat = 3
        all_goals (repeat (first | rw [ci_r] | rw [cl_r] | rw [cv_r] | rw [ite_b2] | rw [ite_b21] | rw [if_pos (by omega)] | rw [if_neg (by omega)] | rw [y_kindsHas] | rw [y_isKind _ _ _ (by omega)] | rw [y_valHas] | rw [y_isProp _ _ _ (by omega)] | rw [y_thgHas] | rw [y_isThing _ _ _ (by omega)] | rw [y_inRange] | rw [y_in] | rw [s_X11_faulted] | rw [s_X12_faulty] | rw [s_X11_against] | rw [s_X12_against] | simp (disch := omega) only [w32_i, Int.add_sub_cancel, mc64, mc24, mc6, mc8, mc5] | rw [hba] | rw [hfa] | rw [hbb] | rw [hhb] | rw [hwi] | rw [hnt] | rw [hag]))
  · rw [if_pos (c := ¬ (pokB V B a b = true)) i1]
    unfold pokB at i1
    simp only [decide_eq_true_eq] at i1
    by_cases i4 : B a.toNat = 3
    · by_cases i6 : B b.toNat = 1
      · have hwi := hwi (by omega)
        by_cases i7 : wiN (V 78 0) (V 80 0) a 64 b = true
        · have hwi2 : b2 (wiN (V 78 0) (V 80 0) a 64 b = true) = 1 := b2_1.mpr i7
          rw [hwi2] at hwi
          (repeat (first | rw [ci_r] | rw [cl_r] | rw [cv_r] | rw [ite_b2] | rw [ite_b21] | rw [if_pos (by omega)] | rw [if_neg (by omega)] | rw [y_kindsHas] | rw [y_isKind _ _ _ (by omega)] | rw [y_valHas] | rw [y_isProp _ _ _ (by omega)] | rw [y_thgHas] | rw [y_isThing _ _ _ (by omega)] | rw [y_inRange] | rw [y_in] | rw [s_X11_faulted] | rw [s_X12_faulty] | rw [s_X11_against] | rw [s_X12_against] | simp (disch := omega) only [w32_i, Int.add_sub_cancel, mc64, mc24, mc6, mc8, mc5] | rw [hba] | rw [hfa] | rw [hbb] | rw [hhb] | rw [hwi] | rw [hnt]))
        · have hwi2 : b2 (wiN (V 78 0) (V 80 0) a 64 b = true) = 0 := b2_0.mpr i7
          have i8 : ff (nthB V a b) (V 80 0 (a.toNat)).toNat 0 ≠ -9 := fun e => i1 ⟨by omega, .inl ⟨i4, i6⟩, by simpa using i7, e⟩
          rw [hwi2] at hwi
          (repeat (first | rw [ci_r] | rw [cl_r] | rw [cv_r] | rw [ite_b2] | rw [ite_b21] | rw [if_pos (by omega)] | rw [if_neg (by omega)] | rw [y_kindsHas] | rw [y_isKind _ _ _ (by omega)] | rw [y_valHas] | rw [y_isProp _ _ _ (by omega)] | rw [y_thgHas] | rw [y_isThing _ _ _ (by omega)] | rw [y_inRange] | rw [y_in] | rw [s_X11_faulted] | rw [s_X12_faulty] | rw [s_X11_against] | rw [s_X12_against] | simp (disch := omega) only [w32_i, Int.add_sub_cancel, mc64, mc24, mc6, mc8, mc5] | rw [hba] | rw [hfa] | rw [hbb] | rw [hhb] | rw [hwi] | rw [hnt]))
      · (repeat (first | rw [ci_r] | rw [cl_r] | rw [cv_r] | rw [ite_b2] | rw [ite_b21] | rw [if_pos (by omega)] | rw [if_neg (by omega)] | rw [y_kindsHas] | rw [y_isKind _ _ _ (by omega)] | rw [y_valHas] | rw [y_isProp _ _ _ (by omega)] | rw [y_thgHas] | rw [y_isThing _ _ _ (by omega)] | rw [y_inRange] | rw [y_in] | rw [s_X11_faulted] | rw [s_X12_faulty] | rw [s_X11_against] | rw [s_X12_against] | simp (disch := omega) only [w32_i, Int.add_sub_cancel, mc64, mc24, mc6, mc8, mc5] | rw [hba] | rw [hfa] | rw [hbb] | rw [hhb]))
    · by_cases i5 : B a.toNat = 1 ∨ B a.toNat = 2
      · by_cases i6 : isH (B b.toNat)
        all_goals (repeat (first | rw [ci_r] | rw [cl_r] | rw [cv_r] | rw [ite_b2] | rw [ite_b21] | rw [if_pos (by omega)] | rw [if_neg (by omega)] | rw [y_kindsHas] | rw [y_isKind _ _ _ (by omega)] | rw [y_valHas] | rw [y_isProp _ _ _ (by omega)] | rw [y_thgHas] | rw [y_isThing _ _ _ (by omega)] | rw [y_inRange] | rw [y_in] | rw [s_X11_faulted] | rw [s_X12_faulty] | rw [s_X11_against] | rw [s_X12_against] | simp (disch := omega) only [w32_i, Int.add_sub_cancel, mc64, mc24, mc6, mc8, mc5] | rw [hba] | rw [hfa] | rw [hbb] | rw [hhb]))
      · by_cases i6 : isH (B b.toNat)
        · have hwi := hwi (by rcases i6 with e | e | e <;> omega)
          by_cases i7 : wiN (V 78 0) (V 80 0) a 64 b = true
          · have hwi2 : b2 (wiN (V 78 0) (V 80 0) a 64 b = true) = 1 := b2_1.mpr i7
            rw [hwi2] at hwi
            (repeat (first | rw [ci_r] | rw [cl_r] | rw [cv_r] | rw [ite_b2] | rw [ite_b21] | rw [if_pos (by omega)] | rw [if_neg (by omega)] | rw [y_kindsHas] | rw [y_isKind _ _ _ (by omega)] | rw [y_valHas] | rw [y_isProp _ _ _ (by omega)] | rw [y_thgHas] | rw [y_isThing _ _ _ (by omega)] | rw [y_inRange] | rw [y_in] | rw [s_X11_faulted] | rw [s_X12_faulty] | rw [s_X11_against] | rw [s_X12_against] | simp (disch := omega) only [w32_i, Int.add_sub_cancel, mc64, mc24, mc6, mc8, mc5] | rw [hba] | rw [hfa] | rw [hbb] | rw [hhb] | rw [hwi] | rw [hnt]))
          · have hwi2 : b2 (wiN (V 78 0) (V 80 0) a 64 b = true) = 0 := b2_0.mpr i7
            have i8 : ff (nthB V a b) (V 80 0 (a.toNat)).toNat 0 ≠ -9 := fun e => i1 ⟨i5, .inr ⟨i4, i6⟩, by simpa using i7, e⟩
            rw [hwi2] at hwi
            (repeat (first | rw [ci_r] | rw [cl_r] | rw [cv_r] | rw [ite_b2] | rw [ite_b21] | rw [if_pos (by omega)] | rw [if_neg (by omega)] | rw [y_kindsHas] | rw [y_isKind _ _ _ (by omega)] | rw [y_valHas] | rw [y_isProp _ _ _ (by omega)] | rw [y_thgHas] | rw [y_isThing _ _ _ (by omega)] | rw [y_inRange] | rw [y_in] | rw [s_X11_faulted] | rw [s_X12_faulty] | rw [s_X11_against] | rw [s_X12_against] | simp (disch := omega) only [w32_i, Int.add_sub_cancel, mc64, mc24, mc6, mc8, mc5] | rw [hba] | rw [hfa] | rw [hbb] | rw [hhb] | rw [hwi] | rw [hnt]))
        · (repeat (first | rw [ci_r] | rw [cl_r] | rw [cv_r] | rw [ite_b2] | rw [ite_b21] | rw [if_pos (by omega)] | rw [if_neg (by omega)] | rw [y_kindsHas] | rw [y_isKind _ _ _ (by omega)] | rw [y_valHas] | rw [y_isProp _ _ _ (by omega)] | rw [y_thgHas] | rw [y_isThing _ _ _ (by omega)] | rw [y_inRange] | rw [y_in] | rw [s_X11_faulted] | rw [s_X12_faulty] | rw [s_X11_against] | rw [s_X12_against] | simp (disch := omega) only [w32_i, Int.add_sub_cancel, mc64, mc24, mc6, mc8, mc5] | rw [hba] | rw [hfa] | rw [hbb] | rw [hhb]))
theorem putF_no {V : XM} {B : Nat → Int} {t w : Int} (hn : putF V B t w = -9) (hb : 0 < (V 80 0 (t.toNat)) → 0 ≤ (V 79 0 ((6 * t).toNat))) (hla : (V 81 0 (t.toNat)) ≠ 0 → 0 ≤ la (fun k => decide ((V 85 0 k) = 3 ∧ (V 86 0 k) = t)) (V 14 0 22).toNat) : ¬ (B t.toNat ≠ 3 ∧ 0 < (V 80 0 (t.toNat))) ∧ ¬ (B t.toNat ≠ 3 ∧ (V 82 0 (w.toNat)) ≠ -9 ∧ (V 87 0 ((V 82 0 (w.toNat)).toNat)) ≤ cnt (heB V B w) (V 14 0 9).toNat) ∧ ff (rpB V t w) (V 14 0 22).toNat 0 = -9 := by
  unfold putF at hn
  by_cases c1 : B t.toNat ≠ 3 ∧ 0 < (V 80 0 (t.toNat))
  · rw [if_pos c1] at hn; have := hb c1.2; omega
  rw [if_neg c1] at hn
  by_cases c2 : ff (senB V 1 t w) (V 14 0 22).toNat 0 ≠ -9
  · rw [if_pos c2] at hn; exact absurd hn c2
  rw [if_neg c2] at hn
  by_cases c3 : (V 81 0 (t.toNat)) ≠ 0 ∧ bt (V 81 0 (t.toNat)) w.toNat = false
  · rw [if_pos c3] at hn; have := hla c3.1; omega
  rw [if_neg c3] at hn
  by_cases c5 : B t.toNat ≠ 3 ∧ (V 82 0 (w.toNat)) ≠ -9 ∧ (V 87 0 ((V 82 0 (w.toNat)).toNat)) ≤ cnt (heB V B w) (V 14 0 9).toNat
  · rw [if_pos c5] at hn; exact absurd hn c5.2.1
  rw [if_neg c5] at hn
  exact ⟨c1, c5, hn⟩
theorem Inv.put3 {V : XM} (h : Inv V) {t w : Int} (h0 : 0 ≤ t) (h1 : t < (V 14 0 9)) (h2 : 0 ≤ w) (h3 : w < (V 14 0 9)) (hok : pokB V (V 21 0) t w = true) (hn : (V 14 0 22) < 300) (h6 : (V 80 0 (t.toNat)) < 6) (hpf : putF V (V 21 0) t w = -9) :
    ((V 21 0 (t.toNat)) = 3 → Inv (rLay (cLay (cTell V (V 14 0 22) 0 t w (-9)) t w (V 14 0 22)) t w (V 14 0 22))) ∧
    ((V 21 0 (t.toNat)) ≠ 3 → Inv (rLay (xu (cLay (cTell V (V 14 0 22) 0 t w (-9)) t w (V 14 0 22)) 43 0 w.toNat ((V 43 0 (w.toNat)) + 1)) t w (V 14 0 22))) := by
  have h' := h
  obtain ⟨⟨ck1, ck2, ck3, cp1, cp2, cp3, ct1, ct2, ct3, cs1, cs2, cs3, cq1, cq2, cq3, cr1, cr2, cr3, cf1, cf2, cf3, cb1, cb2, cb3, cw1, cw2, cw3, clf, clc⟩, hkin, hpro, husu, hgiv, hthg, hhom, hput, hrin, hsen, hbar, hset, hmos, hpai, hrel, hmap, hdoo, hshe, htab, hwor⟩ := h'
  unfold pokB at hok
  simp only [decide_eq_true_eq] at hok
  obtain ⟨j1, j2, j3, j4⟩ := hok
  obtain ⟨o1, o2, o3, o4, o5, o6⟩ := hhom t h0 h1
  obtain ⟨p1, p2, p3⟩ := putF_no hpf (fun k => by
    have := ((hput.1 t h0 h1).2 0 (by omega) k).1
    rw [show 6 * t + 0 = 6 * t by omega] at this
    exact this) (fun k => by
    rw [among_la h h0 h1 k]
    have := (hset t h0 h1).2.2.1
    omega)
  have hw : isH (V 21 0 (w.toNat)) := by
    rcases j2 with ⟨_, e⟩ | ⟨_, e⟩
    · exact .inl e
    · exact e
  have hl : (V 21 0 (t.toNat)) ≠ 3 → (V 80 0 (t.toNat)) = 0 := fun k => by
    have : ¬ 0 < (V 80 0 (t.toNat)) := fun e => p1 ⟨k, e⟩
    omega
  have hmo : (V 21 0 (t.toNat)) ≠ 3 → (V 82 0 (w.toNat)) ≠ -9 → cnt (heB V (V 21 0) w) (V 14 0 9).toNat < (V 87 0 ((V 82 0 (w.toNat)).toNat)) := fun k1 k2 => by
    have : ¬ (V 87 0 ((V 82 0 (w.toNat)).toNat)) ≤ cnt (heB V (V 21 0) w) (V 14 0 9).toNat := fun e => p2 ⟨k1, k2, e⟩
    omega
  have a37 := xu_rw V 37 0 (6 * t + (V 38 0 (t.toNat))).toNat w
  have a38 := xu_rw V 38 0 t.toNat ((V 38 0 (t.toNat)) + 1)
  constructor
  · intro hb3
    have T : Told V (rLay (cLay (cTell V (V 14 0 22) 0 t w (-9)) t w (V 14 0 22)) t w (V 14 0 22)) 0 t w (-9) 0 := ⟨xu_rw V 33 0 _ _, xu_rw V 34 0 _ _, xu_rw V 35 0 _ _, xu_rw V 36 0 _ _, xu_rw V 85 0 _ _, xu_rw V 86 0 _ _, xu_rw V 87 0 _ _, xu_rw V 88 0 _ _, rfl⟩
    have C1 := put_comps (W := rLay (cLay (cTell V (V 14 0 22) 0 t w (-9)) t w (V 14 0 22)) t w (V 14 0 22)) h h0 h1 h2 h3 j1 hw j3 j4 hl h6 hmo p3 T (by rw [← o1]; exact a37) (by rw [← o1]; exact a38) (xu_rw V 39 0 _ _) (by rw [if_pos hb3]; rfl) (xu_rw V 78 0 _ _) (xu_rw V 79 0 _ _) (xu_rw V 80 0 _ _) rfl rfl rfl rfl rfl
    have C2 := put_pai (W := rLay (cLay (cTell V (V 14 0 22) 0 t w (-9)) t w (V 14 0 22)) t w (V 14 0 22)) h h0 h1 hl o2 h6 p3 T (xu_rw V 78 0 _ _) (xu_rw V 80 0 _ _) rfl rfl rfl rfl rfl rfl rfl
    exact ⟨⟨ck1, ck2, ck3, cp1, cp2, cp3, ct1, ct2, ct3, by show 0 ≤ (V 14 0 22) + 1; omega, by show (V 14 0 22) + 1 ≤ 300; omega, rfl, cq1, cq2, cq3, cr1, cr2, cr3, cf1, cf2, cf3, cb1, cb2, cb3, cw1, cw2, cw3, clf, clc⟩, hkin, hpro, husu, hgiv, hthg, C1.1, C1.2.1, C1.2.2.1, (I_sen.tell hsen T cs1 (by omega) (by omega) (by omega) (by omega) rfl), (I_bar.tell hbar T cs1 (by omega) rfl rfl), (I_set.tell hset T cs1 (by omega) rfl rfl rfl rfl rfl rfl), C1.2.2.2, C2, (I_rel.tell hrel T cs1 (by omega) (by omega) rfl rfl rfl rfl rfl), hmap, (I_doo.tell hdoo T cs1 (by omega) rfl rfl), hshe, htab, hwor⟩
  · intro hb3
    have T : Told V (rLay (xu (cLay (cTell V (V 14 0 22) 0 t w (-9)) t w (V 14 0 22)) 43 0 w.toNat ((V 43 0 (w.toNat)) + 1)) t w (V 14 0 22)) 0 t w (-9) 0 := ⟨xu_rw V 33 0 _ _, xu_rw V 34 0 _ _, xu_rw V 35 0 _ _, xu_rw V 36 0 _ _, xu_rw V 85 0 _ _, xu_rw V 86 0 _ _, xu_rw V 87 0 _ _, xu_rw V 88 0 _ _, rfl⟩
    have C1 := put_comps (W := rLay (xu (cLay (cTell V (V 14 0 22) 0 t w (-9)) t w (V 14 0 22)) 43 0 w.toNat ((V 43 0 (w.toNat)) + 1)) t w (V 14 0 22)) h h0 h1 h2 h3 j1 hw j3 j4 hl h6 hmo p3 T (by rw [← o1]; exact a37) (by rw [← o1]; exact a38) (xu_rw V 39 0 _ _) (by rw [if_neg hb3]; exact xu_rw V 43 0 _ _) (xu_rw V 78 0 _ _) (xu_rw V 79 0 _ _) (xu_rw V 80 0 _ _) rfl rfl rfl rfl rfl
    have C2 := put_pai (W := rLay (xu (cLay (cTell V (V 14 0 22) 0 t w (-9)) t w (V 14 0 22)) 43 0 w.toNat ((V 43 0 (w.toNat)) + 1)) t w (V 14 0 22)) h h0 h1 hl o2 h6 p3 T (xu_rw V 78 0 _ _) (xu_rw V 80 0 _ _) rfl rfl rfl rfl rfl rfl rfl
    exact ⟨⟨ck1, ck2, ck3, cp1, cp2, cp3, ct1, ct2, ct3, by show 0 ≤ (V 14 0 22) + 1; omega, by show (V 14 0 22) + 1 ≤ 300; omega, rfl, cq1, cq2, cq3, cr1, cr2, cr3, cf1, cf2, cf3, cb1, cb2, cb3, cw1, cw2, cw3, clf, clc⟩, hkin, hpro, husu, hgiv, hthg, C1.1, C1.2.1, C1.2.2.1, (I_sen.tell hsen T cs1 (by omega) (by omega) (by omega) (by omega) rfl), (I_bar.tell hbar T cs1 (by omega) rfl rfl), (I_set.tell hset T cs1 (by omega) rfl rfl rfl rfl rfl rfl), C1.2.2.2, C2, (I_rel.tell hrel T cs1 (by omega) (by omega) rfl rfl rfl rfl rfl), hmap, (I_doo.tell hdoo T cs1 (by omega) rfl rfl), hshe, htab, hwor⟩
theorem g_put (d : Nat) (V : XM) (h : Inv V) (a b : Int) : AG d 129 221 [xi a, xi b] V := by
  have h' := h
  obtain ⟨⟨ck1, ck2, ck3, cp1, cp2, cp3, ct1, ct2, ct3, cs1, cs2, cs3, cq1, cq2, cq3, cr1, cr2, cr3, cf1, cf2, cf3, cb1, cb2, cb3, cw1, cw2, cw3, clf, clc⟩, hkin, hpro, husu, hgiv, hthg, hhom, hput, hrin, hsen, hbar, hset, hmos, hpai, hrel, hmap, hdoo, hshe, htab, hwor⟩ := h'
  by_cases ia : 0 ≤ a ∧ a < (V 14 0 9)
  · by_cases ib : 0 ≤ b ∧ b < (V 14 0 9)
    · obtain ⟨o1, o2, o3, o4, o5, o6⟩ := hhom a ia.1 ia.2
      have hm := (hmos b ib.1 ib.2).2.2.2
      have hm' : (V 82 0 (b.toNat)) = -9 ∨ (0 ≤ (V 82 0 (b.toNat)) ∧ (V 82 0 (b.toNat)) < 300) := by
        rcases hm with e | ⟨e1, e2, _⟩
        · exact .inl e
        · exact .inr ⟨e1, by omega⟩
      have hC := c_put3 d V h a b ia ib
      have hen := fun k => ends64 h ib.1 ib.2 k
      have hp0 := putF_0 h ia.1 ia.2 ib.1 ib.2
      have hR0 := r_put3 d V a b h.rb h.rp ia ib hen ⟨o2, o3⟩ o4 hm' hp0
      have hI := Inv.put3 h ia.1 ia.2 ib.1 ib.2
      by_cases i2 : ¬ (pokB V (V 21 0) a b = true)
      · exact AG.no h (hC.trans (if_pos i2)) (hR0.trans (if_pos i2))
      rw [if_neg i2] at hC hR0
      by_cases i3 : (V 14 0 22) = 300 ∨ ((V 21 0 (a.toNat)) = 3 ∧ (V 80 0 (a.toNat)) = 6)
      · exact AG.no h (hC.trans (if_pos i3)) (hR0.trans (if_pos i3))
      rw [if_neg i3] at hC hR0
      by_cases i4 : putF V (V 21 0) a b ≠ -9
      · exact AG.no h (hC.trans (if_pos i4)) (hR0.trans (if_pos i4))
      rw [if_neg i4] at hC hR0
      have hI := hI (by simpa using i2) (by omega) (by omega) (by simpa using i4)
      by_cases i5 : (V 21 0 (a.toNat)) = 3
      · rw [if_pos i5] at hC
        exact AG.mk hC ((r_put3 d _ a b (by exact h.rb) (by exact h.rp) (by exact ia) (by exact ib) (by exact hen) (by exact ⟨o2, o3⟩) (by exact o4) (by exact hm') (by exact hp0)).trans ((if_neg (by exact i2)).trans ((if_neg (by exact i3)).trans (if_neg (by exact i4))))) (hI.1 i5) rfl
      · rw [if_neg i5] at hC
        exact AG.mk hC ((r_put3 d _ a b (by exact h.rb) (by exact h.rp) (by exact ia) (by exact ib) (by exact hen) (by exact ⟨o2, o3⟩) (by exact o4) (by exact hm') (by exact hp0)).trans ((if_neg (by exact i2)).trans ((if_neg (by exact i3)).trans (if_neg (by exact i4))))) (hI.2 i5) rfl
    · exact AG.no (x := xi (-1)) h (by rw [s_X11_put]; (repeat (first | rw [ci_r] | rw [cl_r] | rw [cv_r] | rw [ite_b2] | rw [ite_b21] | rw [if_pos (by omega)] | rw [if_neg (by omega)] | rw [y_kindsHas] | rw [y_isKind _ _ _ (by omega)] | rw [y_valHas] | rw [y_isProp _ _ _ (by omega)] | rw [y_thgHas] | rw [y_isThing _ _ _ (by omega)] | rw [y_inRange] | rw [y_in] | rw [s_X11_faulted] | rw [s_X12_faulty] | rw [s_X11_against] | rw [s_X12_against] | simp (disch := omega) only [w32_i, Int.add_sub_cancel, mc64, mc24, mc6, mc8, mc5] | fail))) (by rw [s_X12_put]; (repeat (first | rw [ci_r] | rw [cl_r] | rw [cv_r] | rw [ite_b2] | rw [ite_b21] | rw [if_pos (by omega)] | rw [if_neg (by omega)] | rw [y_kindsHas] | rw [y_isKind _ _ _ (by omega)] | rw [y_valHas] | rw [y_isProp _ _ _ (by omega)] | rw [y_thgHas] | rw [y_isThing _ _ _ (by omega)] | rw [y_inRange] | rw [y_in] | rw [s_X11_faulted] | rw [s_X12_faulty] | rw [s_X11_against] | rw [s_X12_against] | simp (disch := omega) only [w32_i, Int.add_sub_cancel, mc64, mc24, mc6, mc8, mc5] | fail)))
  · exact AG.no (x := xi (-1)) h (by rw [s_X11_put]; (repeat (first | rw [ci_r] | rw [cl_r] | rw [cv_r] | rw [ite_b2] | rw [ite_b21] | rw [if_pos (by omega)] | rw [if_neg (by omega)] | rw [y_kindsHas] | rw [y_isKind _ _ _ (by omega)] | rw [y_valHas] | rw [y_isProp _ _ _ (by omega)] | rw [y_thgHas] | rw [y_isThing _ _ _ (by omega)] | rw [y_inRange] | rw [y_in] | rw [s_X11_faulted] | rw [s_X12_faulty] | rw [s_X11_against] | rw [s_X12_against] | simp (disch := omega) only [w32_i, Int.add_sub_cancel, mc64, mc24, mc6, mc8, mc5] | fail))) (by rw [s_X12_put]; (repeat (first | rw [ci_r] | rw [cl_r] | rw [cv_r] | rw [ite_b2] | rw [ite_b21] | rw [if_pos (by omega)] | rw [if_neg (by omega)] | rw [y_kindsHas] | rw [y_isKind _ _ _ (by omega)] | rw [y_valHas] | rw [y_isProp _ _ _ (by omega)] | rw [y_thgHas] | rw [y_isThing _ _ _ (by omega)] | rw [y_inRange] | rw [y_in] | rw [s_X11_faulted] | rw [s_X12_faulty] | rw [s_X11_against] | rw [s_X12_against] | simp (disch := omega) only [w32_i, Int.add_sub_cancel, mc64, mc24, mc6, mc8, mc5] | fail)))
