/-! most -/
def bh (f : Nat → Bool) (n : Int) : Nat → Nat → Int → Int
  | 0, _, _ => -9
  | m + 1, l, c => if f l = true then (if c = n then (l : Int) else bh f n m (l + 1) (c + 1)) else bh f n m (l + 1) c
theorem bh_s (f : Nat → Bool) (n : Int) (m l : Nat) (c : Int) : bh f n (m + 1) l c = if f l = true then (if c = n then (l : Int) else bh f n m (l + 1) (c + 1)) else bh f n m (l + 1) c := rfl
theorem bh_0 (f : Nat → Bool) (n : Int) : ∀ (m l : Nat) (c : Int), bh f n m l c = -9 ∨ 0 ≤ bh f n m l c := by
  intro m
  induction m with
  | zero => intro l c; exact .inl rfl
  | succ m ih =>
    intro l c
    rw [bh_s]
    split
    · split
      · exact .inr (by omega)
      · exact ih _ _
    · exact ih _ _
theorem bh_cnt (f : Nat → Bool) (n : Int) : ∀ (m l : Nat) (c : Int), c ≤ n → bh f n m l c = -9 → cnt f (l + m) - cnt f l + c ≤ n := by
  intro m
  induction m with
  | zero => intro l c h1 h2; rw [Nat.add_zero]; omega
  | succ m ih =>
    intro l c h1 h2
    rw [bh_s] at h2
    have e : cnt f (l + 1) = cnt f l + (if f l then 1 else 0) := rfl
    by_cases hf : f l = true
    · rw [if_pos hf] at h2 e
      by_cases hc : c = n
      · rw [if_pos hc] at h2; omega
      · rw [if_neg hc] at h2
        have := ih (l + 1) (c + 1) (by omega) h2
        rw [show l + 1 + m = l + (m + 1) by omega] at this
        omega
    · rw [if_neg hf] at h2 e
      have := ih (l + 1) c h1 h2
      rw [show l + 1 + m = l + (m + 1) by omega] at this
      omega
def moB (V : XM) (B : Nat → Int) (w : Int) (s : Nat) : Bool := decide ((V 85 0 s) = 0 ∧ (V 87 0 s) = w ∧ B ((V 86 0 s).toNat) ≠ 3)
theorem x_cBeh (d : Nat) (V : XM) (h : Inv V) (w n : Int) : ∀ (m : Nat) (l c : Int), ((V 14 0 22) - l).toNat = m → 0 ≤ l → l ≤ (V 14 0 22) → 0 ≤ c → c ≤ l → Xf d 31 5 [xr 7 0, xi w, xi n, xi c, xi l] [] V = some (xi (bh (moB V (V 21 0) w) n m l.toNat c), V) := by
  obtain ⟨⟨ck1, ck2, ck3, cp1, cp2, cp3, ct1, ct2, ct3, cs1, cs2, cs3, cq1, cq2, cq3, cr1, cr2, cr3, cf1, cf2, cf3, cb1, cb2, cb3, cw1, cw2, cw3, clf, clc⟩, hkin, hpro, husu, hgiv, hthg, hhom, hput, hrin, hsen, hbar, hset, hmos, hpai, hrel, hmap, hdoo, hshe, htab, hwor⟩ := h
  clear ck1 ck2 ck3 cp1 cp2 cp3 cq1 cq2 cq3 cr1 cr2 cr3 cf1 cf2 cf3 cb1 cb2 cb3 cw1 cw2 cw3 clf clc
  intro m
  induction m with
  | zero =>
    intro l c hm h0 h1 h2 h3
    rw [s_X1_putBehind_5, if_neg (by omega)]; rfl
  | succ m ih =>
    intro l c hm h0 h1 h2 h3
    obtain ⟨x1, x2, x3, _⟩ := hsen l h0 (by omega)
    have i1 := ih (l + 1) c (by omega) (by omega) (by omega) h2 (by omega)
    have i2 := ih (l + 1) (c + 1) (by omega) (by omega) (by omega) (by omega) (by omega)
    rw [show (l + 1).toNat = l.toNat + 1 by omega] at i1 i2
    rw [s_X1_putBehind_5, bh_s, x1, x2, x3, if_pos (by omega), if_pos (by omega), w32_i (by omega) (by omega), w32_i (by omega) (by omega)]
    by_cases c1 : (V 85 0 (l.toNat)) = 0
    · have hp := hput.2 l h0 (by omega) c1
      rw [if_pos c1, if_pos (by omega)]
      by_cases c2 : (V 87 0 (l.toNat)) = w
      · rw [if_pos c2, if_pos (by omega), if_pos (by omega)]
        by_cases c3 : (V 21 0 ((V 86 0 (l.toNat)).toNat)) = 3
        · rw [if_pos c3, if_neg (by unfold moB; simp only [decide_eq_true_eq]; exact fun k => k.2.2 c3)]; exact i1
        · rw [if_neg c3, if_pos (c := moB V (V 21 0) w l.toNat = true) (by unfold moB; simp only [decide_eq_true_eq]; exact ⟨c1, c2, c3⟩)]
          by_cases c4 : c = n
          · rw [if_pos c4, if_pos c4, show (l.toNat : Int) = l by omega]
          · rw [if_neg c4, if_neg c4]; exact i2
      · rw [if_neg c2, if_neg (by unfold moB; simp only [decide_eq_true_eq]; exact fun k => c2 k.2.1)]; exact i1
    · rw [if_neg c1, if_neg (by unfold moB; simp only [decide_eq_true_eq]; exact fun k => c1 k.1)]; exact i1
def rMost (V : XM) (n w b : Int) : XM := xu (rTell V n 5 w b 0) 82 0 w.toNat n
def cMost (V : XM) (n w b : Int) : XM := xu (xu (cTell V n 5 w b (-9)) 44 0 w.toNat b) 45 0 w.toNat n
theorem x_rBeh (d : Nat) (V : XM) {B : Nat → Int} (hb : RB V B) {w n : Int} (hw : 0 ≤ w ∧ w < 64) (hn : 0 ≤ n ∧ n ≤ 64) (cs1 : 0 ≤ (V 14 0 22)) (cs2 : (V 14 0 22) < 300) (ho : ∀ s : Int, 0 ≤ s → s < (V 14 0 22) → (V 85 0 (s.toNat)) = 0 → 0 ≤ (V 86 0 (s.toNat)) ∧ (V 86 0 (s.toNat)) < (V 14 0 9)) : ∀ (m : Nat) (l c : Int), ((V 14 0 22) - l).toNat = m → 0 ≤ l → l ≤ (V 14 0 22) → 0 ≤ c → c ≤ l → Xf (d + 3) 242 66 [xr 14 0, xi w, xi n, xi c, xi l] [] V = if bh (moB V B w) n m l.toNat c = -9 then some (xi (V 14 0 22), rMost V (V 14 0 22) w n) else some (xi (w32 (-100 - bh (moB V B w) n m l.toNat c)), V) := by
  have ex : ∀ W : XM, (xu W 82 0 w.toNat (V 14 0 22)) 82 0 w.toNat = (V 14 0 22) := fun W => by rw [xu_rw, zup_eq]
  intro m
  induction m with
  | zero =>
    intro l c hm h0 h1 h2 h3
    rw [s_X12_most_66, if_neg (by omega), y_tell _ V _ _ _ _ rfl cs1 cs2, ci_r, if_pos hw, if_pos hw, ex]; rfl
  | succ m ih =>
    intro l c hm h0 h1 h2 h3
    have i1 := ih (l + 1) c (by omega) (by omega) (by omega) h2 (by omega)
    have i2 := ih (l + 1) (c + 1) (by omega) (by omega) (by omega) (by omega) (by omega)
    rw [show (l + 1).toNat = l.toNat + 1 by omega] at i1 i2
    rw [s_X12_most_66, bh_s, if_pos (by omega), if_pos (by omega), w32_i (x := l + 1) (by omega) (by omega), w32_i (x := c + 1) (by omega) (by omega), w32_i (x := n + 1) (by omega) (by omega)]
    by_cases c1 : (V 85 0 (l.toNat)) = 0
    · have hp := ho l h0 (by omega) c1
      rw [if_pos c1, if_pos (by omega)]
      by_cases c2 : (V 87 0 (l.toNat)) = w
      · rw [if_pos c2, if_pos (by omega), y_rBackdrop _ V hb hp.1 hp.2, ci_r, ite_b2]
        by_cases c3 : B ((V 86 0 (l.toNat)).toNat) = 3
        · rw [if_pos c3, if_neg (c := moB V B w l.toNat = true) (by unfold moB; simp only [decide_eq_true_eq]; exact fun k => k.2.2 c3)]; exact i1
        · rw [if_neg c3, if_pos (c := moB V B w l.toNat = true) (by unfold moB; simp only [decide_eq_true_eq]; exact ⟨c1, c2, c3⟩)]
          by_cases c4 : c = n
          · rw [if_pos (by omega), if_pos c4, show (l.toNat : Int) = l by omega, if_neg (by omega), s_X12_against, ci_r]
          · rw [if_neg (by omega), if_neg c4]; exact i2
      · rw [if_neg c2, if_neg (c := moB V B w l.toNat = true) (by unfold moB; simp only [decide_eq_true_eq]; exact fun k => c2 k.2.1)]; exact i1
    · rw [if_neg c1, if_neg (c := moB V B w l.toNat = true) (by unfold moB; simp only [decide_eq_true_eq]; exact fun k => c1 k.1)]; exact i1
theorem Inv.most {V : XM} (h : Inv V) {w n : Int} (h0 : 0 ≤ w) (h1 : w < (V 14 0 9)) (hn : (V 14 0 22) < 300) (hb : bh (moB V (V 21 0) w) n (V 14 0 22).toNat 0 0 = -9) (hn0 : 0 ≤ n) : Inv (rMost (cMost V (V 14 0 22) w n) (V 14 0 22) w n) := by
  obtain ⟨⟨ck1, ck2, ck3, cp1, cp2, cp3, ct1, ct2, ct3, cs1, cs2, cs3, cq1, cq2, cq3, cr1, cr2, cr3, cf1, cf2, cf3, cb1, cb2, cb3, cw1, cw2, cw3, clf, clc⟩, hkin, hpro, husu, hgiv, hthg, hhom, hput, hrin, hsen, hbar, hset, hmos, hpai, hrel, hmap, hdoo, hshe, htab, hwor⟩ := h
  have T : Told V (rMost (cMost V (V 14 0 22) w n) (V 14 0 22) w n) 5 (w) (n) (-9) (0) := ⟨xu_rw V 33 0 _ _, xu_rw V 34 0 _ _, xu_rw V 35 0 _ _, xu_rw V 36 0 _ _, xu_rw V 85 0 _ _, xu_rw V 86 0 _ _, xu_rw V 87 0 _ _, xu_rw V 88 0 _ _, rfl⟩
  refine ⟨⟨ck1, ck2, ck3, cp1, cp2, cp3, ct1, ct2, ct3, by show 0 ≤ (V 14 0 22) + 1; omega, by show (V 14 0 22) + 1 ≤ 300; omega, rfl, cq1, cq2, cq3, cr1, cr2, cr3, cf1, cf2, cf3, cb1, cb2, cb3, cw1, cw2, cw3, clf, clc⟩, hkin, hpro, husu, hgiv, hthg, hhom, (I_put.tell hput T cs1 (by omega) rfl rfl rfl rfl rfl rfl), hrin, (I_sen.tell hsen T cs1 (by omega) (by omega) (by omega) (by omega) rfl), (I_bar.tell hbar T cs1 (by omega) rfl rfl), (I_set.tell hset T cs1 (by omega) rfl rfl rfl rfl rfl rfl), ?_, (I_pai.tell hpai T cs1 (by omega) rfl rfl rfl rfl rfl rfl rfl rfl rfl), (I_rel.tell hrel T cs1 (by omega) (by omega) rfl rfl rfl rfl rfl), hmap, (I_doo.tell hdoo T cs1 (by omega) rfl rfl), hshe, htab, hwor⟩
  obtain ⟨_, _, _, _, T5, T6, T7, _, T9⟩ := T
  have e44 : (rMost (cMost V (V 14 0 22) w n) (V 14 0 22) w n) 44 0 = zup (V 44 0) w.toNat n := xu_rw V 44 0 _ _
  have e45 : (rMost (cMost V (V 14 0 22) w n) (V 14 0 22) w n) 45 0 = zup (V 45 0) w.toNat (V 14 0 22) := xu_rw V 45 0 _ _
  have e82 : (rMost (cMost V (V 14 0 22) w n) (V 14 0 22) w n) 82 0 = zup (V 82 0) w.toNat (V 14 0 22) := xu_rw V 82 0 _ _
  have e43 : (rMost (cMost V (V 14 0 22) w n) (V 14 0 22) w n) 43 0 = V 43 0 := rfl
  have e21 : (rMost (cMost V (V 14 0 22) w n) (V 14 0 22) w n) 21 0 = V 21 0 := rfl
  have e78 : (rMost (cMost V (V 14 0 22) w n) (V 14 0 22) w n) 78 0 = V 78 0 := rfl
  have e80 : (rMost (cMost V (V 14 0 22) w n) (V 14 0 22) w n) 80 0 = V 80 0 := rfl
  have et : (rMost (cMost V (V 14 0 22) w n) (V 14 0 22) w n) 14 0 9 = V 14 0 9 := rfl
  unfold I_mos
  rw [e43, e44, e45, e82, e21, e78, e80, et, T5, T6, T7, T9]
  intro x k1 k2
  obtain ⟨m1, m2, m3, m4⟩ := hmos x k1 k2
  refine ⟨m1, ?_, ?_, ?_⟩
  · rw [cnt_s _ cs1]
    simp only [zup_eq]
    rw [if_neg (by simp), Int.add_zero, m2]
    refine cnt_congr (fun k hk => ?_)
    have hk' : k ≠ (V 14 0 22).toNat := by omega
    rw [zup_ne hk', zup_ne hk', zup_ne hk']
  · by_cases hx : x = w
    · subst hx; rw [zup_eq, zup_eq]
    · have hne : x.toNat ≠ w.toNat := by omega
      rw [zup_ne hne, zup_ne hne]; exact m3
  · by_cases hx : x = w
    · subst hx
      rw [zup_eq, zup_eq, zup_eq]
      refine .inr ⟨cs1, by omega, rfl, ?_⟩
      have := bh_cnt _ _ _ _ _ hn0 hb
      have e0 : cnt (moB V (V 21 0) x) 0 = 0 := rfl
      have e1 : cnt (moB V (V 21 0) x) (0 + (V 14 0 22).toNat) = (V 43 0 (x.toNat)) := by rw [Nat.zero_add]; exact m2.symm
      omega
    · have hne : x.toNat ≠ w.toNat := by omega
      rw [zup_ne hne, zup_ne hne]
      rcases m4 with m4 | ⟨y1, y2, y3, y4⟩
      · exact .inl m4
      · refine .inr ⟨y1, by omega, ?_, y4⟩
        rw [zup_ne (by omega)]; exact y3
theorem r_most (d : Nat) (V : XM) (a b : Int) {B : Nat → Int} (hb : RB V B) (cs1 : 0 ≤ (V 14 0 22)) (cs2 : (V 14 0 22) ≤ 300) (ho : ∀ s : Int, 0 ≤ s → s < (V 14 0 22) → (V 85 0 (s.toNat)) = 0 → 0 ≤ (V 86 0 (s.toNat)) ∧ (V 86 0 (s.toNat)) < (V 14 0 9)) : Yf (d + 30) 242 [xr 14 0, xi a, xi b] V =
    if ¬ (0 ≤ a ∧ a < (V 14 0 9)) then some (xi (-1), V) else if ¬ (0 ≤ b ∧ b ≤ 64) then some (xi (-2), V) else if ¬ isH (B a.toNat) ∨ (V 82 0 (a.toNat)) ≠ -9 then some (xi (-3), V) else if (V 14 0 22) = 300 then some (xi (-4), V) else
    if bh (moB V B a) b (V 14 0 22).toNat 0 0 = -9 then some (xi (V 14 0 22), rMost V (V 14 0 22) a b) else some (xi (w32 (-100 - bh (moB V B a) b (V 14 0 22).toNat 0 0)), V) := by
  obtain ⟨hp, ct1, ct2, h6⟩ := id hb
  rw [s_X12_most]
  by_cases i1 : 0 ≤ a ∧ a < (V 14 0 9)
  · by_cases i2 : 0 ≤ b ∧ b ≤ 64
    · by_cases i3 : (V 82 0 (a.toNat)) = -9
      · by_cases i4 : isH (B a.toNat)
        · by_cases i5 : (V 14 0 22) = 300
          · (repeat (first | rw [ci_r] | rw [cl_r] | rw [cv_r] | rw [ite_b2] | rw [ite_b21] | rw [if_pos (by omega)] | rw [if_neg (by omega)] | rw [y_kindsHas] | rw [y_isKind _ _ _ (by omega)] | rw [y_valHas] | rw [y_isProp _ _ _ (by omega)] | rw [y_thgHas] | rw [y_isThing _ _ _ (by omega)] | rw [y_inRange] | rw [y_in] | rw [s_X11_faulted] | rw [s_X12_faulty] | rw [s_X11_against] | rw [s_X12_against] | simp (disch := omega) only [w32_i, Int.add_sub_cancel, mc64, mc24, mc6, mc8, mc5] | rw [y_rHolder _ V hb i1.1 i1.2]))
          · have := x_rBeh (d + 26) V hb (w := a) (n := b) (by omega) i2 cs1 (by omega) ho (V 14 0 22).toNat 0 0 (by omega) (by omega) cs1 (by omega) (by omega)
            (repeat (first | rw [ci_r] | rw [cl_r] | rw [cv_r] | rw [ite_b2] | rw [ite_b21] | rw [if_pos (by omega)] | rw [if_neg (by omega)] | rw [y_kindsHas] | rw [y_isKind _ _ _ (by omega)] | rw [y_valHas] | rw [y_isProp _ _ _ (by omega)] | rw [y_thgHas] | rw [y_isThing _ _ _ (by omega)] | rw [y_inRange] | rw [y_in] | rw [s_X11_faulted] | rw [s_X12_faulty] | rw [s_X11_against] | rw [s_X12_against] | simp (disch := omega) only [w32_i, Int.add_sub_cancel, mc64, mc24, mc6, mc8, mc5] | rw [y_rHolder _ V hb i1.1 i1.2] | rw [this]))
            rfl
        · (repeat (first | rw [ci_r] | rw [cl_r] | rw [cv_r] | rw [ite_b2] | rw [ite_b21] | rw [if_pos (by omega)] | rw [if_neg (by omega)] | rw [y_kindsHas] | rw [y_isKind _ _ _ (by omega)] | rw [y_valHas] | rw [y_isProp _ _ _ (by omega)] | rw [y_thgHas] | rw [y_isThing _ _ _ (by omega)] | rw [y_inRange] | rw [y_in] | rw [s_X11_faulted] | rw [s_X12_faulty] | rw [s_X11_against] | rw [s_X12_against] | simp (disch := omega) only [w32_i, Int.add_sub_cancel, mc64, mc24, mc6, mc8, mc5] | rw [y_rHolder _ V hb i1.1 i1.2]))
      · by_cases i4 : isH (B a.toNat)
        · (repeat (first | rw [ci_r] | rw [cl_r] | rw [cv_r] | rw [ite_b2] | rw [ite_b21] | rw [if_pos (by omega)] | rw [if_neg (by omega)] | rw [y_kindsHas] | rw [y_isKind _ _ _ (by omega)] | rw [y_valHas] | rw [y_isProp _ _ _ (by omega)] | rw [y_thgHas] | rw [y_isThing _ _ _ (by omega)] | rw [y_inRange] | rw [y_in] | rw [s_X11_faulted] | rw [s_X12_faulty] | rw [s_X11_against] | rw [s_X12_against] | simp (disch := omega) only [w32_i, Int.add_sub_cancel, mc64, mc24, mc6, mc8, mc5] | rw [y_rHolder _ V hb i1.1 i1.2]))
        · (repeat (first | rw [ci_r] | rw [cl_r] | rw [cv_r] | rw [ite_b2] | rw [ite_b21] | rw [if_pos (by omega)] | rw [if_neg (by omega)] | rw [y_kindsHas] | rw [y_isKind _ _ _ (by omega)] | rw [y_valHas] | rw [y_isProp _ _ _ (by omega)] | rw [y_thgHas] | rw [y_isThing _ _ _ (by omega)] | rw [y_inRange] | rw [y_in] | rw [s_X11_faulted] | rw [s_X12_faulty] | rw [s_X11_against] | rw [s_X12_against] | simp (disch := omega) only [w32_i, Int.add_sub_cancel, mc64, mc24, mc6, mc8, mc5] | rw [y_rHolder _ V hb i1.1 i1.2]))
    · (repeat (first | rw [ci_r] | rw [cl_r] | rw [cv_r] | rw [ite_b2] | rw [ite_b21] | rw [if_pos (by omega)] | rw [if_neg (by omega)] | rw [y_kindsHas] | rw [y_isKind _ _ _ (by omega)] | rw [y_valHas] | rw [y_isProp _ _ _ (by omega)] | rw [y_thgHas] | rw [y_isThing _ _ _ (by omega)] | rw [y_inRange] | rw [y_in] | rw [s_X11_faulted] | rw [s_X12_faulty] | rw [s_X11_against] | rw [s_X12_against] | simp (disch := omega) only [w32_i, Int.add_sub_cancel, mc64, mc24, mc6, mc8, mc5] | fail))
  · (repeat (first | rw [ci_r] | rw [cl_r] | rw [cv_r] | rw [ite_b2] | rw [ite_b21] | rw [if_pos (by omega)] | rw [if_neg (by omega)] | rw [y_kindsHas] | rw [y_isKind _ _ _ (by omega)] | rw [y_valHas] | rw [y_isProp _ _ _ (by omega)] | rw [y_thgHas] | rw [y_isThing _ _ _ (by omega)] | rw [y_inRange] | rw [y_in] | rw [s_X11_faulted] | rw [s_X12_faulty] | rw [s_X11_against] | rw [s_X12_against] | simp (disch := omega) only [w32_i, Int.add_sub_cancel, mc64, mc24, mc6, mc8, mc5] | fail))
theorem c_most (d : Nat) (V : XM) (h : Inv V) (a b : Int) : Yf (d + 30) 145 [xr 2 0, xi a, xi b] V =
    if ¬ (0 ≤ a ∧ a < (V 14 0 9)) then some (xi (-1), V) else if ¬ (0 ≤ b ∧ b ≤ 64) then some (xi (-2), V) else if ¬ isH (V 21 0 (a.toNat)) ∨ (V 82 0 (a.toNat)) ≠ -9 then some (xi (-3), V) else if (V 14 0 22) = 300 then some (xi (-4), V) else
    if bh (moB V (V 21 0) a) b (V 14 0 22).toNat 0 0 = -9 then some (xi (V 14 0 22), cMost V (V 14 0 22) a b) else some (xi (w32 (-100 - bh (moB V (V 21 0) a) b (V 14 0 22).toNat 0 0)), V) := by
  have h' := h
  obtain ⟨⟨ck1, ck2, ck3, cp1, cp2, cp3, ct1, ct2, ct3, cs1, cs2, cs3, cq1, cq2, cq3, cr1, cr2, cr3, cf1, cf2, cf3, cb1, cb2, cb3, cw1, cw2, cw3, clf, clc⟩, hkin, hpro, husu, hgiv, hthg, hhom, hput, hrin, hsen, hbar, hset, hmos, hpai, hrel, hmap, hdoo, hshe, htab, hwor⟩ := h'
  have hbe := fun e => x_cBeh e V h a b (V 14 0 22).toNat 0 0 (by omega) (by omega) cs1 (by omega) (by omega)
  have hb0 := bh_0 (moB V (V 21 0) a) b (V 14 0 22).toNat 0 0
  rw [show (0 : Int).toNat = 0 from rfl] at hbe
  clear ck1 ck2 ck3 cp1 cp2 cp3 cq1 cq2 cq3 cr1 cr2 cr3 cf1 cf2 cf3 cb1 cb2 cb3 cw1 cw2 cw3 clf clc
  rw [s_X11_most]
  by_cases i1 : 0 ≤ a ∧ a < (V 14 0 9)
  · obtain ⟨m1, m2, m3, m4⟩ := hmos a i1.1 i1.2
    have m5 : (V 82 0 (a.toNat)) = -9 ∨ 0 ≤ (V 82 0 (a.toNat)) := by rcases m4 with e | e; exact .inl e; exact .inr e.1
    have hm := y_hasMost (d + 28) V i1.1 (show a < 64 by omega)
    rw [m3] at hm
    clear m4
    by_cases i2 : 0 ≤ b ∧ b ≤ 64
    · by_cases i4 : isH (V 21 0 (a.toNat))
      · by_cases i3 : (V 82 0 (a.toNat)) = -9
        · by_cases i5 : (V 14 0 22) = 300
          · (repeat (first | rw [ci_r] | rw [cl_r] | rw [cv_r] | rw [ite_b2] | rw [ite_b21] | rw [if_pos (by omega)] | rw [if_neg (by omega)] | rw [y_kindsHas] | rw [y_isKind _ _ _ (by omega)] | rw [y_valHas] | rw [y_isProp _ _ _ (by omega)] | rw [y_thgHas] | rw [y_isThing _ _ _ (by omega)] | rw [y_inRange] | rw [y_in] | rw [s_X11_faulted] | rw [s_X12_faulty] | rw [s_X11_against] | rw [s_X12_against] | simp (disch := omega) only [w32_i, Int.add_sub_cancel, mc64, mc24, mc6, mc8, mc5] | rw [y_cHolder _ V i1.1 (by omega)] | rw [hm] | rw [y_full]))
          · by_cases i6 : bh (moB V (V 21 0) a) b (V 14 0 22).toNat 0 0 = -9
            · (repeat (first | rw [ci_r] | rw [cl_r] | rw [cv_r] | rw [ite_b2] | rw [ite_b21] | rw [if_pos (by omega)] | rw [if_neg (by omega)] | rw [y_kindsHas] | rw [y_isKind _ _ _ (by omega)] | rw [y_valHas] | rw [y_isProp _ _ _ (by omega)] | rw [y_thgHas] | rw [y_isThing _ _ _ (by omega)] | rw [y_inRange] | rw [y_in] | rw [s_X11_faulted] | rw [s_X12_faulty] | rw [s_X11_against] | rw [s_X12_against] | simp (disch := omega) only [w32_i, Int.add_sub_cancel, mc64, mc24, mc6, mc8, mc5] | rw [y_cHolder _ V i1.1 (by omega)] | rw [hm] | rw [y_full] | rw [s_X1_putBehind, hbe] | rw [y_sadd _ V _ _ _ _ cs3 (by omega) (by omega)] | rw [s_X1_tellMost]))
              rfl
            · (repeat (first | rw [ci_r] | rw [cl_r] | rw [cv_r] | rw [ite_b2] | rw [ite_b21] | rw [if_pos (by omega)] | rw [if_neg (by omega)] | rw [y_kindsHas] | rw [y_isKind _ _ _ (by omega)] | rw [y_valHas] | rw [y_isProp _ _ _ (by omega)] | rw [y_thgHas] | rw [y_isThing _ _ _ (by omega)] | rw [y_inRange] | rw [y_in] | rw [s_X11_faulted] | rw [s_X12_faulty] | rw [s_X11_against] | rw [s_X12_against] | simp (disch := omega) only [w32_i, Int.add_sub_cancel, mc64, mc24, mc6, mc8, mc5] | rw [y_cHolder _ V i1.1 (by omega)] | rw [hm] | rw [y_full] | rw [s_X1_putBehind, hbe]))
        · (repeat (first | rw [ci_r] | rw [cl_r] | rw [cv_r] | rw [ite_b2] | rw [ite_b21] | rw [if_pos (by omega)] | rw [if_neg (by omega)] | rw [y_kindsHas] | rw [y_isKind _ _ _ (by omega)] | rw [y_valHas] | rw [y_isProp _ _ _ (by omega)] | rw [y_thgHas] | rw [y_isThing _ _ _ (by omega)] | rw [y_inRange] | rw [y_in] | rw [s_X11_faulted] | rw [s_X12_faulty] | rw [s_X11_against] | rw [s_X12_against] | simp (disch := omega) only [w32_i, Int.add_sub_cancel, mc64, mc24, mc6, mc8, mc5] | rw [y_cHolder _ V i1.1 (by omega)] | rw [hm]))
      · (repeat (first | rw [ci_r] | rw [cl_r] | rw [cv_r] | rw [ite_b2] | rw [ite_b21] | rw [if_pos (by omega)] | rw [if_neg (by omega)] | rw [y_kindsHas] | rw [y_isKind _ _ _ (by omega)] | rw [y_valHas] | rw [y_isProp _ _ _ (by omega)] | rw [y_thgHas] | rw [y_isThing _ _ _ (by omega)] | rw [y_inRange] | rw [y_in] | rw [s_X11_faulted] | rw [s_X12_faulty] | rw [s_X11_against] | rw [s_X12_against] | simp (disch := omega) only [w32_i, Int.add_sub_cancel, mc64, mc24, mc6, mc8, mc5] | rw [y_cHolder _ V i1.1 (by omega)]))
    · by_cases i3 : b < 0
      · (repeat (first | rw [ci_r] | rw [cl_r] | rw [cv_r] | rw [ite_b2] | rw [ite_b21] | rw [if_pos (by omega)] | rw [if_neg (by omega)] | rw [y_kindsHas] | rw [y_isKind _ _ _ (by omega)] | rw [y_valHas] | rw [y_isProp _ _ _ (by omega)] | rw [y_thgHas] | rw [y_isThing _ _ _ (by omega)] | rw [y_inRange] | rw [y_in] | rw [s_X11_faulted] | rw [s_X12_faulty] | rw [s_X11_against] | rw [s_X12_against] | simp (disch := omega) only [w32_i, Int.add_sub_cancel, mc64, mc24, mc6, mc8, mc5] | fail))
      · (repeat (first | rw [ci_r] | rw [cl_r] | rw [cv_r] | rw [ite_b2] | rw [ite_b21] | rw [if_pos (by omega)] | rw [if_neg (by omega)] | rw [y_kindsHas] | rw [y_isKind _ _ _ (by omega)] | rw [y_valHas] | rw [y_isProp _ _ _ (by omega)] | rw [y_thgHas] | rw [y_isThing _ _ _ (by omega)] | rw [y_inRange] | rw [y_in] | rw [s_X11_faulted] | rw [s_X12_faulty] | rw [s_X11_against] | rw [s_X12_against] | simp (disch := omega) only [w32_i, Int.add_sub_cancel, mc64, mc24, mc6, mc8, mc5] | fail))
  · (repeat (first | rw [ci_r] | rw [cl_r] | rw [cv_r] | rw [ite_b2] | rw [ite_b21] | rw [if_pos (by omega)] | rw [if_neg (by omega)] | rw [y_kindsHas] | rw [y_isKind _ _ _ (by omega)] | rw [y_valHas] | rw [y_isProp _ _ _ (by omega)] | rw [y_thgHas] | rw [y_isThing _ _ _ (by omega)] | rw [y_inRange] | rw [y_in] | rw [s_X11_faulted] | rw [s_X12_faulty] | rw [s_X11_against] | rw [s_X12_against] | simp (disch := omega) only [w32_i, Int.add_sub_cancel, mc64, mc24, mc6, mc8, mc5] | fail))
theorem g_most (d : Nat) (V : XM) (h : Inv V) (a b : Int) : AG d 145 242 [xi a, xi b] V := by
  have h' := h
  obtain ⟨⟨ck1, ck2, ck3, cp1, cp2, cp3, ct1, ct2, ct3, cs1, cs2, cs3, cq1, cq2, cq3, cr1, cr2, cr3, cf1, cf2, cf3, cb1, cb2, cb3, cw1, cw2, cw3, clf, clc⟩, hkin, hpro, husu, hgiv, hthg, hhom, hput, hrin, hsen, hbar, hset, hmos, hpai, hrel, hmap, hdoo, hshe, htab, hwor⟩ := h'
  have ho : ∀ s : Int, 0 ≤ s → s < (V 14 0 22) → (V 85 0 (s.toNat)) = 0 → 0 ≤ (V 86 0 (s.toNat)) ∧ (V 86 0 (s.toNat)) < (V 14 0 9) := fun s k1 k2 k3 => ⟨(hput.2 s k1 k2 k3).1, (hput.2 s k1 k2 k3).2.1⟩
  have hC := c_most d V h a b
  have hR0 := r_most d V a b h.rb cs1 cs2 ho
  by_cases i1 : ¬ (0 ≤ a ∧ a < (V 14 0 9))
  · exact AG.no h (hC.trans (if_pos i1)) (hR0.trans (if_pos i1))
  rw [if_neg i1] at hC hR0
  by_cases i2 : ¬ (0 ≤ b ∧ b ≤ 64)
  · exact AG.no h (hC.trans (if_pos i2)) (hR0.trans (if_pos i2))
  rw [if_neg i2] at hC hR0
  by_cases i3 : ¬ isH (V 21 0 (a.toNat)) ∨ (V 82 0 (a.toNat)) ≠ -9
  · exact AG.no h (hC.trans (if_pos i3)) (hR0.trans (if_pos i3))
  rw [if_neg i3] at hC hR0
  by_cases i4 : (V 14 0 22) = 300
  · exact AG.no h (hC.trans (if_pos i4)) (hR0.trans (if_pos i4))
  rw [if_neg i4] at hC hR0
  by_cases i5 : bh (moB V (V 21 0) a) b (V 14 0 22).toNat 0 0 = -9
  · rw [if_pos i5] at hC
    refine AG.mk hC ((r_most d _ a b (by exact h.rb) (by exact cs1) (by exact cs2) (by exact ho)).trans ((if_neg (by exact i1)).trans ((if_neg (by exact i2)).trans ((if_neg (by exact i3)).trans ((if_neg (by exact i4)).trans (if_pos (by exact i5))))))) ?_ rfl
    exact Inv.most h (by omega) (by omega) (by omega) i5 (by omega)
  · exact AG.no h (hC.trans (if_neg i5)) (hR0.trans (if_neg i5))
