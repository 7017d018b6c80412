/-! related -/
theorem Inv.gs {V : XM} (h : Inv V) (r : Int) (n : Nat) : Inv (gS V r n) := by
  obtain ⟨h1, h2, h3, h4, h5, h6, h7, h8, h9, h10, h11, h12, h13, h14, h15, h16, h17, h18, h19, h20⟩ := h
  exact ⟨h1, h2, h3, h4, h5, h6, h7, h8, h9, h10, h11, h12, h13, h14, h15, h16, h17, h18, h19, h20⟩
theorem gF_gs (V : XM) (r q : Int) (n m : Nat) : gF (gS V q n) r m = gF V r m := rfl
theorem gs_gs (V : XM) (r : Int) (n m : Nat) : gS (gS V r n) r m = gS V r m := by
  show xff (xff V 91 0 0 (V 14 0 9) (gF V r n)) 91 0 0 (V 14 0 9) (gF V r m) = _
  rw [xff_xff]; rfl
theorem gs_row (V : XM) (r : Int) (n : Nat) {a : Int} (h0 : 0 ≤ a) (h1 : a < (V 14 0 9)) : (gS V r n) 91 0 a.toNat = gF V r n a.toNat := by
  show (xff V 91 0 0 (V 14 0 9) (gF V r n)) 91 0 a.toNat = _
  rw [xff_e, if_pos (by omega)]
def tgB (V : XM) (r a b : Int) (k : Nat) : Bool := decide (gF V r (k + 1) a.toNat = gF V r (k + 1) b.toNat)
theorem x_h40 (d : Nat) (V : XM) (h : GR V) {r a b : Int} (ia : 0 ≤ a ∧ a < (V 14 0 9)) (ib : 0 ≤ b ∧ b < (V 14 0 9)) {s : Nat} (hs : (s : Int) < (V 14 0 22)) (hf : tgB V r a b s = true) : ∀ (m : Nat) (k x : Nat), s - k ≤ m → k ≤ s → (∀ j, k ≤ j → j < s → tgB V r a b j = false) → Xf (d + 1) 255 40 [xr 14 0, xi r, xi a, xi b, xi (k : Int)] [] (gS V r x) = some (xi (s : Int), gS V r (s + 1)) := by
  have t2 := h.2.1
  have s2 := h.2.2.2.1
  have step : ∀ (k x : Nat), (k : Int) < (V 14 0 22) → Xf (d + 1) 255 40 [xr 14 0, xi r, xi a, xi b, xi (k : Int)] [] (gS V r x) = if tgB V r a b k = true then some (xi (k : Int), gS V r (k + 1)) else Xf (d + 1) 255 40 [xr 14 0, xi r, xi a, xi b, xi ((k + 1 : Nat) : Int)] [] (gS V r (k + 1)) := by
    intro k x hk
    have ew : w32 ((k : Int) + 1) = ((k + 1 : Nat) : Int) := by rw [w32_i (by omega) (by omega)]; omega
    have e2 : w32 (((k + 1 : Nat) : Int) - 1) = (k : Int) := by rw [w32_i (by omega) (by omega)]; omega
    have hg := y_groupUp d (gS V r x) (by exact h) r ((k + 1 : Nat) : Int) (by omega) (by show ((k + 1 : Nat) : Int) ≤ (V 14 0 22); omega)
    rw [gs_gs, Int.toNat_natCast] at hg
    rw [s_X12_hasBy_40, ew, hg, cv_r, if_pos (by omega), if_pos (by omega), gs_row V r _ ia.1 ia.2, gs_row V r _ ib.1 ib.2, e2]
    unfold tgB
    simp only [decide_eq_true_eq]
  intro m
  induction m with
  | zero =>
    intro k x hm hk hn
    have : k = s := by omega
    subst this
    rw [step k x hs, if_pos hf]
  | succ m ih =>
    intro k x hm hk hn
    by_cases e : k = s
    · subst e; rw [step k x hs, if_pos hf]
    · rw [step k x (by omega), if_neg (by rw [hn k (by omega) (by omega)]; simp)]
      exact ih (k + 1) (k + 1) (by omega) (by omega) (fun j h1 h2 => hn j (by omega) h2)
/-- by which sentence a has b: its number or -9 -/
def hbN (V : XM) (r a b : Int) : Int := if (V 90 0 (r.toNat)) = 5 then (if gF V r (V 14 0 22).toNat a.toNat = gF V r (V 14 0 22).toNat b.toNat then ff (tgB V r a b) (V 14 0 22).toNat 0 else -9) else
  if (V 90 0 (r.toNat)) = 4 then (if ff (senB3 V 6 r a b) (V 14 0 22).toNat 0 = -9 then ff (senB3 V 6 r b a) (V 14 0 22).toNat 0 else if ff (senB3 V 6 r b a) (V 14 0 22).toNat 0 = -9 then ff (senB3 V 6 r a b) (V 14 0 22).toNat 0 else if ff (senB3 V 6 r a b) (V 14 0 22).toNat 0 < ff (senB3 V 6 r b a) (V 14 0 22).toNat 0 then ff (senB3 V 6 r a b) (V 14 0 22).toNat 0 else ff (senB3 V 6 r b a) (V 14 0 22).toNat 0)
  else ff (senB3 V 6 r a b) (V 14 0 22).toNat 0
theorem y_hasBy (d : Nat) (V : XM) (h : GR V) {r a b : Int} (ir : 0 ≤ r ∧ r < 8) (ia : 0 ≤ a ∧ a < (V 14 0 9)) (ib : 0 ≤ b ∧ b < (V 14 0 9)) (hab : a ≠ b) : ∃ W : XM, Yf (d + 3) 255 [xr 14 0, xi r, xi a, xi b] V = some (xi (hbN V r a b), W) ∧ (W = V ∨ ∃ n, W = gS V r n) := by
  have t2 := h.2.1
  have s1 := h.2.2.1
  have s2 := h.2.2.2.1
  have A1 := fun e => y_rTold e V 6 r a b s1 s2
  have A2 := fun e => y_rTold e V 6 r b a s1 s2
  rw [s_X12_hasBy, if_pos ir]
  unfold hbN
  by_cases c1 : (V 90 0 (r.toNat)) = 5
  · rw [if_pos c1, if_pos c1, y_groupUp _ V h r _ s1 (by omega), cv_r, if_pos (by omega), if_pos (by omega), gs_row V r _ ia.1 ia.2, gs_row V r _ ib.1 ib.2]
    by_cases c2 : gF V r (V 14 0 22).toNat a.toNat = gF V r (V 14 0 22).toNat b.toNat
    · rw [if_pos c2, if_pos c2]
      have hn0 : (V 14 0 22).toNat ≠ 0 := by
        intro e
        rw [e] at c2
        have c2' : ((a.toNat : Nat) : Int) = ((b.toNat : Nat) : Int) := c2
        omega
      rcases ff_spec (tgB V r a b) (V 14 0 22).toNat 0 with ⟨x1, x2⟩ | ⟨s, x1, x2, x3, x4, x5⟩
      · have := x2 ((V 14 0 22).toNat - 1) (by omega) (by omega)
        unfold tgB at this
        rw [show (V 14 0 22).toNat - 1 + 1 = (V 14 0 22).toNat by omega] at this
        simp only [decide_eq_false_iff_not] at this
        exact absurd c2 this
      · have := x_h40 (d + 1) V h ia ib (by omega) x4 s 0 (V 14 0 22).toNat (by omega) (by omega) (fun j _ h2 => x5 j (by omega) h2)
        rw [x1]
        exact ⟨_, this, .inr ⟨s + 1, rfl⟩⟩
    · rw [if_neg c2, if_neg c2]
      exact ⟨_, rfl, .inr ⟨_, rfl⟩⟩
  · rw [if_neg c1, if_neg c1, A1, ci_r, if_pos ir]
    by_cases c2 : (V 90 0 (r.toNat)) = 4
    · refine ⟨V, ?_, .inl rfl⟩
      rw [if_pos c2, A2, ci_r, s_X12_earlier, if_pos c2]
      generalize ff (senB3 V 6 r a b) (V 14 0 22).toNat 0 = x
      generalize ff (senB3 V 6 r b a) (V 14 0 22).toNat 0 = y
      by_cases q1 : x = -9
      · rw [if_pos q1, if_pos q1, ci_r]
      · rw [if_neg q1, if_neg q1]
        by_cases q2 : y = -9
        · rw [if_pos q2, if_pos q2, ci_r]
        · rw [if_neg q2, if_neg q2]
          by_cases q3 : x < y
          · rw [if_pos q3, if_pos q3, ci_r]
          · rw [if_neg q3, if_neg q3, ci_r]
    · exact ⟨V, by rw [if_neg c2, if_neg c2], .inl rfl⟩
theorem s3_ff {V : XM} {s r a b : Int} : (ff (senB3 V s r a b) (V 14 0 22).toNat 0 = -9 ∧ ∀ u : Int, 0 ≤ u → u < (V 14 0 22) → ¬ ((V 85 0 (u.toNat)) = s ∧ (V 86 0 (u.toNat)) = r ∧ (V 87 0 (u.toNat)) = a ∧ (V 88 0 (u.toNat)) = b)) ∨ (0 ≤ ff (senB3 V s r a b) (V 14 0 22).toNat 0 ∧ ∃ u : Int, 0 ≤ u ∧ u < (V 14 0 22) ∧ (V 85 0 (u.toNat)) = s ∧ (V 86 0 (u.toNat)) = r ∧ (V 87 0 (u.toNat)) = a ∧ (V 88 0 (u.toNat)) = b) := by
  rcases ff_spec (senB3 V s r a b) (V 14 0 22).toNat 0 with ⟨x1, x2⟩ | ⟨k, x1, x2, x3, x4, x5⟩
  · refine .inl ⟨x1, fun u u0 u1 g => ?_⟩
    have := x2 u.toNat (by omega) (by omega)
    unfold senB3 at this
    simp only [decide_eq_false_iff_not] at this
    exact this g
  · unfold senB3 at x4
    simp only [decide_eq_true_eq] at x4
    exact .inr ⟨by omega, k, by omega, by omega, by rw [Int.toNat_natCast]; exact x4⟩
/-- the class's bit says whether there is such a sentence -/
theorem hold_iff {V : XM} (h : Inv V) {r a b : Int} (ir : 0 ≤ r ∧ r < (V 14 0 29)) (ia : 0 ≤ a ∧ a < (V 14 0 9)) (ib : 0 ≤ b ∧ b < (V 14 0 9)) (hab : a ≠ b) : (bt (V 55 0 ((64 * r + a).toNat)) b.toNat = true ↔ hbN V r a b ≠ -9) ∧ (hbN V r a b = -9 ∨ 0 ≤ hbN V r a b) := by
  obtain ⟨⟨ck1, ck2, ck3, cp1, cp2, cp3, ct1, ct2, ct3, cs1, cs2, cs3, cq1, cq2, cq3, cr1, cr2, cr3, cf1, cf2, cf3, cb1, cb2, cb3, cw1, cw2, cw3, clf, clc⟩, hkin, hpro, husu, hgiv, hthg, hhom, hput, hrin, hsen, hbar, hset, hmos, hpai, hrel, hmap, hdoo, hshe, htab, hwor⟩ := h
  obtain ⟨f1, f2, f3, f4⟩ := hrel.2.1 r ir.1 ir.2
  have hb := f4 a b ia.1 (by omega) ib.1 (by omega)
  have e1 := s3_ff (V := V) (s := 6) (r := r) (a := a) (b := b)
  have e2 := s3_ff (V := V) (s := 6) (r := r) (a := b) (b := a)
  clear ck1 ck2 ck3 cp1 cp2 cp3 cq1 cq2 cq3 cr1 cr2 cr3 cf1 cf2 cf3 cb1 cb2 cb3 cw1 cw2 cw3 clf clc
  unfold hbN
  by_cases c1 : (V 90 0 (r.toNat)) = 5
  · rw [if_pos c1]
    clear e1 e2
    have ga : gF V r (V 14 0 22).toNat a.toNat = glN (V 85 0) (V 86 0) (V 87 0) (V 88 0) r (V 14 0 22).toNat a := by unfold gF; rw [show ((a.toNat : Nat) : Int) = a by omega]
    have gb : gF V r (V 14 0 22).toNat b.toNat = glN (V 85 0) (V 86 0) (V 87 0) (V 88 0) r (V 14 0 22).toNat b := by unfold gF; rw [show ((b.toNat : Nat) : Int) = b by omega]
    by_cases c2 : gF V r (V 14 0 22).toNat a.toNat = gF V r (V 14 0 22).toNat b.toNat
    · rw [if_pos c2]
      have hn0 : (V 14 0 22).toNat ≠ 0 := by
        clear hb f4
        intro e
        rw [e] at c2
        have c2' : ((a.toNat : Nat) : Int) = ((b.toNat : Nat) : Int) := c2
        omega
      rcases ff_spec (tgB V r a b) (V 14 0 22).toNat 0 with ⟨x1, x2⟩ | ⟨s, x1, _⟩
      · have := x2 ((V 14 0 22).toNat - 1) (by omega) (by omega)
        unfold tgB at this
        rw [show (V 14 0 22).toNat - 1 + 1 = (V 14 0 22).toNat by omega] at this
        simp only [decide_eq_false_iff_not] at this
        exact absurd c2 this
      · rw [x1]
        exact ⟨⟨fun _ => by omega, fun _ => hb.mpr (.inl ⟨c1, by rw [← ga, ← gb]; exact c2⟩)⟩, .inr (by omega)⟩
    · rw [if_neg c2]
      refine ⟨⟨fun k => ?_, fun k => absurd rfl k⟩, .inl rfl⟩
      rcases hb.mp k with ⟨_, k⟩ | ⟨k, _⟩
      · rw [← ga, ← gb] at k; exact absurd k c2
      · exact absurd c1 k
  · rw [if_neg c1]
    by_cases c2 : (V 90 0 (r.toNat)) = 4
    · rw [if_pos c2]
      refine ⟨⟨fun k => ?_, fun k => ?_⟩, ?_⟩
      · rcases hb.mp k with ⟨k, _⟩ | ⟨_, s, k1, k2, k3, k4, k5⟩
        · exact absurd k c1
        · rcases k5 with k5 | k5
          · rcases e1 with ⟨q1, q2⟩ | ⟨q1, _⟩
            · exact absurd ⟨k3, k4, k5.1, k5.2⟩ (q2 s k1 k2)
            · (repeat' split) <;> omega
          · rcases e2 with ⟨q1, q2⟩ | ⟨q1, _⟩
            · exact absurd ⟨k3, k4, k5.2.1, k5.2.2⟩ (q2 s k1 k2)
            · (repeat' split) <;> omega
      · apply hb.mpr
        rcases e1 with ⟨q1, q2⟩ | ⟨q1, s, g1, g2, g3, g4, g5, g6⟩
        · rcases e2 with ⟨q3, q4⟩ | ⟨q3, s, g1, g2, g3, g4, g5, g6⟩
          · rw [if_pos q1] at k; exact absurd q3 k
          · exact .inr ⟨c1, s, g1, g2, g3, g4, .inr ⟨c2, g5, g6⟩⟩
        · exact .inr ⟨c1, s, g1, g2, g3, g4, .inl ⟨g5, g6⟩⟩
      · rcases e1 with ⟨q1, _⟩ | ⟨q1, _⟩ <;> rcases e2 with ⟨q2, _⟩ | ⟨q2, _⟩ <;> (repeat' split) <;> omega
    · rw [if_neg c2]
      refine ⟨⟨fun k => ?_, fun k => ?_⟩, ?_⟩
      · rcases hb.mp k with ⟨k, _⟩ | ⟨_, s, k1, k2, k3, k4, k5⟩
        · exact absurd k c1
        · rcases k5 with k5 | k5
          · rcases e1 with ⟨q1, q2⟩ | ⟨q1, _⟩
            · exact absurd ⟨k3, k4, k5.1, k5.2⟩ (q2 s k1 k2)
            · omega
          · exact absurd k5.1 c2
      · apply hb.mpr
        rcases e1 with ⟨q1, q2⟩ | ⟨q1, s, g1, g2, g3, g4, g5, g6⟩
        · exact absurd q1 k
        · exact .inr ⟨c1, s, g1, g2, g3, g4, .inl ⟨g5, g6⟩⟩
      · rcases e1 with ⟨q1, _⟩ | ⟨q1, _⟩
        · exact .inl q1
        · exact .inr q1
theorem y_relatable (d : Nat) (V : XM) (h : Inv V) (r a b : Int) : Yf (d + 3) 154 [xr 2 0, xi r, xi a, xi b] V = some (xi (b2 ((0 ≤ r ∧ r < (V 14 0 29)) ∧ (0 ≤ a ∧ a < (V 14 0 9)) ∧ (0 ≤ b ∧ b < (V 14 0 9)))), V) := by
  obtain ⟨⟨ck1, ck2, ck3, cp1, cp2, cp3, ct1, ct2, ct3, cs1, cs2, cs3, cq1, cq2, cq3, cr1, cr2, cr3, cf1, cf2, cf3, cb1, cb2, cb3, cw1, cw2, cw3, clf, clc⟩, hkin, hpro, husu, hgiv, hthg, hhom, hput, hrin, hsen, hbar, hset, hmos, hpai, hrel, hmap, hdoo, hshe, htab, hwor⟩ := h
  rw [s_X11_areRelatable, s_X2_has, y_inRange, ci_r, ite_b21, ci_r, ite_b2, cr3, y_thgHas, ci_r, ite_b2, y_thgHas, ci_r, ite_b2, ct3]
  ((try unfold b2); (repeat' split) <;> first | rfl | (exfalso; omega))
theorem y_couple (d : Nat) (V : XM) (r a b : Int) (cr : 0 ≤ (V 14 0 29) ∧ (V 14 0 29) ≤ 8) (ct : 0 ≤ (V 14 0 9) ∧ (V 14 0 9) ≤ 64) : Yf (d + 3) 260 [xr 14 0, xi r, xi a, xi b] V = some (xi (b2 ((0 ≤ r ∧ r < (V 14 0 29)) ∧ (0 ≤ a ∧ a < (V 14 0 9)) ∧ (0 ≤ b ∧ b < (V 14 0 9)))), V) := by
  rw [s_X12_isCouple, s_X12_isRelation, y_in, ci_r, ite_b21, ci_r, ite_b2, w32_i (by omega) (by omega), y_isThing _ V _ ct, ci_r, ite_b2, y_isThing _ V _ ct, ci_r, ite_b2]
  ((try unfold b2); (repeat' split) <;> first | rfl | (exfalso; omega))
theorem y_holds (d : Nat) (V : XM) {r a b : Int} (ir : 0 ≤ r ∧ r < 8) (ia : 0 ≤ a ∧ a < 64) (ib : 0 ≤ b ∧ b < 64) : Yf (d + 2) 39 [xr 10 0, xi r, xi a, xi b] V = some (xi (b2 (bt (V 55 0 ((64 * r + a).toNat)) b.toNat = true)), V) := by
  have e : w32 (w32 (r * 64) + a) = 64 * r + a := by rw [w32_add, w32_i (by omega) (by omega)]; omega
  rw [s_X2_holds, s_X2_rowOf, e, if_pos (by omega), cl_r, s_X11_bit, cl_r]
  simp only [cmp3_eq]
  have := bt_test (V 55 0 ((64 * r + a).toNat)) ib.1 ib.2
  unfold b2
  cases hz : bt (V 55 0 ((64 * r + a).toNat)) b.toNat with
  | false => rw [if_pos (this.mpr hz), if_neg (by simp)]
  | true => rw [if_neg (fun k => by have := this.mp k; rw [hz] at this; cases this), if_pos rfl]
/-- the reference's has, for a and b that may be one -/
theorem y_rHas (d : Nat) (V : XM) (h : Inv V) {r a b : Int} (ir : 0 ≤ r ∧ r < (V 14 0 29)) (ia : 0 ≤ a ∧ a < (V 14 0 9)) (ib : 0 ≤ b ∧ b < (V 14 0 9)) : ∃ W : XM, Yf (d + 4) 256 [xr 14 0, xi r, xi a, xi b] V = some (xi (b2 (bt (V 55 0 ((64 * r + a).toNat)) b.toNat = true)), W) ∧ (W = V ∨ ∃ n, W = gS V r n) := by
  by_cases hab : a = b
  · have hh := h
    obtain ⟨⟨ck1, ck2, ck3, cp1, cp2, cp3, ct1, ct2, ct3, cs1, cs2, cs3, cq1, cq2, cq3, cr1, cr2, cr3, cf1, cf2, cf3, cb1, cb2, cb3, cw1, cw2, cw3, clf, clc⟩, hkin, hpro, husu, hgiv, hthg, hhom, hput, hrin, hsen, hbar, hset, hmos, hpai, hrel, hmap, hdoo, hshe, htab, hwor⟩ := hh
    obtain ⟨f1, f2, f3, f4⟩ := hrel.2.1 r ir.1 ir.2
    have hb := f4 a b ia.1 (by omega) ib.1 (by omega)
    refine ⟨V, ?_, .inl rfl⟩
    rw [s_X12_has, if_pos hab, if_pos (by omega)]
    by_cases c1 : (V 90 0 (r.toNat)) = 5
    · have : bt (V 55 0 ((64 * r + a).toNat)) b.toNat = true := hb.mpr (.inl ⟨c1, by rw [hab]⟩)
      rw [if_pos c1, b2_1.mpr this]
    · have : ¬ bt (V 55 0 ((64 * r + a).toNat)) b.toNat = true := fun k => by
        rcases hb.mp k with ⟨k, _⟩ | ⟨_, s, k1, k2, k3, k4, k5⟩
        · exact c1 k
        · have := (hrel.1 s k1 k2 (.inl k3)).2.2.2.2.2.2
          rcases k5 with k5 | k5
          · exact this (k5.1.trans (hab.trans k5.2.symm))
          · exact this (k5.2.1.trans (hab.symm.trans k5.2.2.symm))
      rw [if_neg c1, b2_0.mpr this]
  · have hI := hold_iff h ir ia ib hab
    have h8 : r < 8 := by have := h.1.2.2.2.2.2.2.2.2.2.2.2.2.2.2.2.2.1; omega
    obtain ⟨W, w1, w2⟩ := y_hasBy d V h.gr (r := r) (a := a) (b := b) ⟨ir.1, h8⟩ ia ib hab
    refine ⟨W, ?_, w2⟩
    rw [s_X12_has, if_neg hab, w1, ci_r]
    by_cases c1 : hbN V r a b = -9
    · rw [if_pos c1, b2_0.mpr (fun k => hI.1.mp k c1)]
    · rw [if_neg c1, b2_1.mpr (hI.1.mpr c1)]
theorem g_related (d : Nat) (V : XM) (h : Inv V) (r a b : Int) : AG d 151 263 [xi r, xi a, xi b] V := by
  have h' := h
  obtain ⟨⟨ck1, ck2, ck3, cp1, cp2, cp3, ct1, ct2, ct3, cs1, cs2, cs3, cq1, cq2, cq3, cr1, cr2, cr3, cf1, cf2, cf3, cb1, cb2, cb3, cw1, cw2, cw3, clf, clc⟩, hkin, hpro, husu, hgiv, hthg, hhom, hput, hrin, hsen, hbar, hset, hmos, hpai, hrel, hmap, hdoo, hshe, htab, hwor⟩ := h'
  by_cases i : (0 ≤ r ∧ r < (V 14 0 29)) ∧ (0 ≤ a ∧ a < (V 14 0 9)) ∧ (0 ≤ b ∧ b < (V 14 0 9))
  · obtain ⟨W, w1, w2⟩ := y_rHas (d + 25) V h i.1 i.2.1 i.2.2
    have hW : Inv W ∧ W 1 = V 1 := by
      rcases w2 with w2 | ⟨n, w2⟩
      · rw [w2]; exact ⟨h, rfl⟩
      · rw [w2]; exact ⟨h.gs r n, rfl⟩
    refine AG.mk (x := xi (b2 (bt (V 55 0 ((64 * r + a).toNat)) b.toNat = true))) (V1 := V) (V2 := W) ?_ ?_ hW.1 hW.2
    · rw [s_X11_related, y_relatable _ V h, ci_r, ite_b2, if_pos i, y_holds _ V (by omega) (by omega) (by omega), ci_r, ite_b2, some_b2]
    · rw [s_X12_related, y_couple _ V _ _ _ ⟨cr1, cr2⟩ ⟨ct1, ct2⟩, ci_r, ite_b2, if_pos i, w1, ci_r, ite_b2, some_b2]
  · exact AG.no (x := xi (-1)) h (by rw [s_X11_related, y_relatable _ V h, ci_r, ite_b2, if_neg i]) (by rw [s_X12_related, y_couple _ V _ _ _ ⟨cr1, cr2⟩ ⟨ct1, ct2⟩, ci_r, ite_b2, if_neg i])
