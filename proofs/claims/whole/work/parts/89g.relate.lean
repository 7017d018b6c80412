/-! what a relate goes against -/
def erl (x y : Int) : Int := if x = -9 then y else if y = -9 then x else if x < y then x else y
theorem ff_or (f g : Nat → Bool) (n : Nat) : ff (fun k => f k || g k) n 0 = erl (ff f n 0) (ff g n 0) := by
  unfold erl
  rcases ff_spec f n 0 with ⟨x1, x2⟩ | ⟨s, x1, x2, x3, x4, x5⟩
  · rw [if_pos x1]
    refine ff_congr (fun k k1 k2 => ?_)
    rw [x2 k k1 k2, Bool.false_or]
  · rcases ff_spec g n 0 with ⟨y1, y2⟩ | ⟨u, y1, y2, y3, y4, y5⟩
    · rw [x1, y1, if_neg (by omega), if_pos rfl, ← x1]
      refine ff_congr (fun k k1 k2 => ?_)
      rw [y2 k k1 k2, Bool.or_false]
    · rw [x1, y1, if_neg (by omega), if_neg (by omega)]
      rcases ff_spec (fun k => f k || g k) n 0 with ⟨z1, z2⟩ | ⟨w, z1, z2, z3, z4, z5⟩
      · have := z2 s (by omega) (by omega)
        simp only [x4, Bool.true_or] at this
        cases this
      · rw [z1]
        have hw : f w = true ∨ g w = true := by simpa [Bool.or_eq_true] using z4
        have a1 : ¬ s < w := fun k => by have := z5 s (by omega) k; simp only [x4, Bool.true_or] at this; cases this
        have a2 : ¬ u < w := fun k => by have := z5 u (by omega) k; simp only [y4, Bool.or_true] at this; cases this
        have a3 : w = s ∨ w = u := by
          rcases hw with hw | hw
          · left
            by_cases e : w < s
            · have := x5 w (by omega) e; rw [hw] at this; cases this
            · omega
          · right
            by_cases e : w < u
            · have := y5 w (by omega) e; rw [hw] at this; cases this
            · omega
        split <;> omega
def dn5 (V : XM) (r a b : Int) (s : Nat) : Bool := decide ((V 85 0 s) = 7 ∧ (V 86 0 s) = r ∧ ((gF V r (V 14 0 22).toNat (V 87 0 s).toNat = gF V r (V 14 0 22).toNat a.toNat ∧ gF V r (V 14 0 22).toNat (V 88 0 s).toNat = gF V r (V 14 0 22).toNat b.toNat) ∨ (gF V r (V 14 0 22).toNat (V 87 0 s).toNat = gF V r (V 14 0 22).toNat b.toNat ∧ gF V r (V 14 0 22).toNat (V 88 0 s).toNat = gF V r (V 14 0 22).toNat a.toNat)))
def dnN (V : XM) (r a b : Int) : Int := if (V 90 0 (r.toNat)) = 5 then ff (dn5 V r a b) (V 14 0 22).toNat 0 else if (V 90 0 (r.toNat)) = 4 then erl (ff (senB3 V 7 r a b) (V 14 0 22).toNat 0) (ff (senB3 V 7 r b a) (V 14 0 22).toNat 0) else ff (senB3 V 7 r a b) (V 14 0 22).toNat 0
def edB (V : XM) (r A B q : Int) (s : Nat) : Bool := decide ((V 85 0 s) = 7 ∧ (V 86 0 s) = r ∧ ((bt A (V 87 0 s).toNat = true ∧ bt B (V 88 0 s).toNat = true) ∨ (q ≠ 0 ∧ bt B (V 87 0 s).toNat = true ∧ bt A (V 88 0 s).toNat = true)))
theorem bt_ltest (x : Int) {w : Int} (h0 : 0 ≤ w) (h1 : w < 64) : lAnd (lShl 1 w) x = 0 ↔ ¬ bt x w.toNat = true := by
  rw [lAnd_comm, bt_test x h0 h1]
  cases bt x w.toNat <;> simp
theorem x_eDeny (d : Nat) (V : XM) (h : Inv V) (r A B q : Int) : Xf (d + 1) 43 68 [xr 10 0, xi r, xr 0 0, xr 0 0, xl A, xr 0 0, xl B, xr 0 0, xi q, xi 0, xr 0 0, xr 0 0, xr 0 0, xr 0 0] [] V = some (xi (ff (edB V r A B q) (V 14 0 22).toNat 0), V) := by
  obtain ⟨⟨ck1, ck2, ck3, cp1, cp2, cp3, ct1, ct2, ct3, cs1, cs2, cs3, cq1, cq2, cq3, cr1, cr2, cr3, cf1, cf2, cf3, cb1, cb2, cb3, cw1, cw2, cw3, clf, clc⟩, hkin, hpro, husu, hgiv, hthg, hhom, hput, hrin, hsen, hbar, hset, hmos, hpai, hrel, hmap, hdoo, hshe, htab, hwor⟩ := h
  clear ck1 ck2 ck3 cp1 cp2 cp3 cq1 cq2 cq3 cr1 cr2 cr3 cf1 cf2 cf3 cb1 cb2 cb3 cw1 cw2 cw3 clf clc
  refine loop_first (F := fun l => Xf (d + 1) 43 68 [xr 10 0, xi r, xr 0 0, xr 0 0, xl A, xr 0 0, xl B, xr 0 0, xi q, xi l, xr 0 0, xr 0 0, xr 0 0, xr 0 0] [] V) cs1 (fun l k0 k1 => ?_)
  show Xf (d + 1) 43 68 [xr 10 0, xi r, xr 0 0, xr 0 0, xl A, xr 0 0, xl B, xr 0 0, xi q, xi l, xr 0 0, xr 0 0, xr 0 0, xr 0 0] [] V = if _ then (if _ then _ else Xf (d + 1) 43 68 [xr 10 0, xi r, xr 0 0, xr 0 0, xl A, xr 0 0, xl B, xr 0 0, xi q, xi (l + 1), xr 0 0, xr 0 0, xr 0 0, xr 0 0] [] V) else _
  rw [s_X2_earliestDeny_68, cs3]
  by_cases hl : l < (V 14 0 22)
  · obtain ⟨x1, x2, x3, x4, x5, _⟩ := hsen l k0 hl
    rw [if_pos hl, if_pos hl, if_pos (by omega), x1, x2, x3, w32_i (by omega) (by omega)]
    unfold edB
    simp only [decide_eq_true_eq, cmp3_eq]
    by_cases c1 : (V 85 0 (l.toNat)) = 7
    · obtain ⟨_, _, y1, y2, y3, y4, _⟩ := hrel.1 l k0 hl (.inr c1)
      rw [if_pos c1, if_pos (by omega)]
      by_cases c2 : (V 86 0 (l.toNat)) = r
      · have t1 := bt_ltest A y1 (show (V 87 0 (l.toNat)) < 64 by omega)
        have t2 := bt_ltest B y1 (show (V 87 0 (l.toNat)) < 64 by omega)
        have t3 := bt_ltest A y3 (show (V 88 0 (l.toNat)) < 64 by omega)
        have t4 := bt_ltest B y3 (show (V 88 0 (l.toNat)) < 64 by omega)
        rw [if_pos c2, if_pos (by omega), s_X11_bit, cl_r, if_pos (by omega), x5 (by omega), s_X11_bit, cl_r]
        by_cases d1 : bt A (V 87 0 (l.toNat)).toNat = true
        · rw [if_neg (fun k => t1.mp k d1)]
          by_cases d4 : bt B (V 88 0 (l.toNat)).toNat = true
          · rw [if_neg (fun k => t4.mp k d4), if_pos ⟨c1, c2, .inl ⟨d1, d4⟩⟩]
          · rw [if_pos (t4.mpr d4)]
            by_cases dq : q = 0
            · rw [if_pos dq, if_neg (fun k => by rcases k.2.2 with k | k; exact d4 k.2; exact k.1 dq)]
            · rw [if_neg dq]
              by_cases d2 : bt B (V 87 0 (l.toNat)).toNat = true
              · rw [if_neg (fun k => t2.mp k d2)]
                by_cases d3 : bt A (V 88 0 (l.toNat)).toNat = true
                · rw [if_neg (fun k => t3.mp k d3), if_pos ⟨c1, c2, .inr ⟨dq, d2, d3⟩⟩]
                · rw [if_pos (t3.mpr d3), if_neg (fun k => by rcases k.2.2 with k | k; exact d4 k.2; exact d3 k.2.2)]
              · rw [if_pos (t2.mpr d2), if_neg (fun k => by rcases k.2.2 with k | k; exact d4 k.2; exact d2 k.2.1)]
        · rw [if_pos (t1.mpr d1)]
          by_cases dq : q = 0
          · rw [if_pos dq, if_neg (fun k => by rcases k.2.2 with k | k; exact d1 k.1; exact k.1 dq)]
          · rw [if_neg dq]
            by_cases d2 : bt B (V 87 0 (l.toNat)).toNat = true
            · rw [if_neg (fun k => t2.mp k d2)]
              by_cases d3 : bt A (V 88 0 (l.toNat)).toNat = true
              · rw [if_neg (fun k => t3.mp k d3), if_pos ⟨c1, c2, .inr ⟨dq, d2, d3⟩⟩]
              · rw [if_pos (t3.mpr d3), if_neg (fun k => by rcases k.2.2 with k | k; exact d1 k.1; exact d3 k.2.2)]
            · rw [if_pos (t2.mpr d2), if_neg (fun k => by rcases k.2.2 with k | k; exact d1 k.1; exact d2 k.2.1)]
      · rw [if_neg c2, if_neg (fun k => c2 k.2.1)]
    · rw [if_neg c1, if_neg (fun k => c1 k.1)]
  · rw [if_neg hl, if_neg hl]
theorem y_cDenied (d : Nat) (V : XM) (h : Inv V) {r a b : Int} (ir : 0 ≤ r ∧ r < (V 14 0 29)) (ia : 0 ≤ a ∧ a < (V 14 0 9)) (ib : 0 ≤ b ∧ b < (V 14 0 9)) : Yf (d + 2) 43 [xr 10 0, xi r, xi a, xi b] V = some (xi (dnN V r a b), V) := by
  have L := fun A B q => x_eDeny d V h r A B q
  obtain ⟨⟨ck1, ck2, ck3, cp1, cp2, cp3, ct1, ct2, ct3, cs1, cs2, cs3, cq1, cq2, cq3, cr1, cr2, cr3, cf1, cf2, cf3, cb1, cb2, cb3, cw1, cw2, cw3, clf, clc⟩, hkin, hpro, husu, hgiv, hthg, hhom, hput, hrin, hsen, hbar, hset, hmos, hpai, hrel, hmap, hdoo, hshe, htab, hwor⟩ := h
  obtain ⟨f1, f2, f3, f4⟩ := hrel.2.1 r ir.1 ir.2
  have wa : w32 (w32 (r * 64) + a) = 64 * r + a := by rw [w32_add, w32_i (by omega) (by omega)]; omega
  have wb : w32 (w32 (r * 64) + b) = 64 * r + b := by rw [w32_add, w32_i (by omega) (by omega)]; omega
  have hR : ∀ s : Nat, s < (V 14 0 22).toNat → (V 85 0 s) = 7 → 0 ≤ (V 87 0 s) ∧ (V 87 0 s) < (V 14 0 9) ∧ 0 ≤ (V 88 0 s) ∧ (V 88 0 s) < (V 14 0 9) := fun s hs h7 => by
    have := hrel.1 s (by omega) (by omega) (.inr (by rw [Int.toNat_natCast]; exact h7))
    rw [Int.toNat_natCast] at this
    exact ⟨this.2.2.1, this.2.2.2.1, this.2.2.2.2.1, this.2.2.2.2.2.1⟩
  clear ck1 ck2 ck3 cp1 cp2 cp3 cq1 cq2 cq3 cr3 cf1 cf2 cf3 cb1 cb2 cb3 cw1 cw2 cw3 clf clc
  rw [s_X2_earliestDeny, s_X11_bit, cl_r, s_X11_bit, cl_r, if_pos (by omega), f1]
  unfold dnN
  by_cases c5 : (V 90 0 (r.toNat)) = 5
  · have row : ∀ z w : Int, 0 ≤ z → z < (V 14 0 9) → 0 ≤ w → w < (V 14 0 9) → (bt (V 55 0 ((64 * r + z).toNat)) w.toNat = true ↔ gF V r (V 14 0 22).toNat w.toNat = gF V r (V 14 0 22).toNat z.toNat) := fun z w z0 z1 w0 w1 => by
      have := f4 z w z0 (by omega) w0 (by omega)
      rw [this]
      unfold gF
      rw [show ((z.toNat : Nat) : Int) = z by omega, show ((w.toNat : Nat) : Int) = w by omega]
      constructor
      · rintro (k | k)
        · exact k.2.symm
        · exact absurd c5 k.1
      · intro k; exact .inl ⟨c5, k.symm⟩
    rw [if_pos c5, s_X2_rowOf, wa, if_pos (by omega), cl_r, s_X2_rowOf, wb, if_pos (by omega), cl_r, if_pos (by omega), f1, if_pos c5, L, if_pos c5]
    congr 3
    refine ff_congr (fun s _ hs => ?_)
    unfold edB dn5
    by_cases h7 : (V 85 0 s) = 7
    · obtain ⟨y1, y2, y3, y4⟩ := hR s (by omega) h7
      refine decide_eq_decide.mpr ?_
      rw [row a _ ia.1 ia.2 y1 y2, row b _ ib.1 ib.2 y3 y4, row b _ ib.1 ib.2 y1 y2, row a _ ia.1 ia.2 y3 y4]
      exact and_congr Iff.rfl (and_congr Iff.rfl (or_congr Iff.rfl ⟨fun k => k.2, fun k => ⟨by decide, k⟩⟩))
    · exact decide_eq_decide.mpr ⟨fun k => absurd k.1 h7, fun k => absurd k.1 h7⟩
  · rw [if_neg c5, if_pos (by omega), if_neg c5, if_pos (by omega), if_neg c5]
    have bit : ∀ z w : Int, 0 ≤ z → z < (V 14 0 9) → 0 ≤ w → (bt (lShl 1 z) w.toNat = true ↔ w = z) := fun z w z0 z1 w0 => by
      rw [bt_bit z0 (by omega), decide_eq_true_eq]; omega
    by_cases c4 : (V 90 0 (r.toNat)) = 4
    · rw [if_pos c4, L, if_pos c4, ← ff_or]
      congr 3
      refine ff_congr (fun s _ hs => ?_)
      unfold edB senB3
      rw [← Bool.decide_or]
      by_cases h7 : (V 85 0 s) = 7
      · obtain ⟨y1, y2, y3, y4⟩ := hR s (by omega) h7
        refine decide_eq_decide.mpr ?_
        rw [bit a _ ia.1 ia.2 y1, bit b _ ib.1 ib.2 y3, bit b _ ib.1 ib.2 y1, bit a _ ia.1 ia.2 y3]
        constructor
        · rintro ⟨k1, k2, k3 | k3⟩
          · exact .inl ⟨k1, k2, k3.1, k3.2⟩
          · exact .inr ⟨k1, k2, k3.2.1, k3.2.2⟩
        · rintro (k | k)
          · exact ⟨k.1, k.2.1, .inl ⟨k.2.2.1, k.2.2.2⟩⟩
          · exact ⟨k.1, k.2.1, .inr ⟨by decide, k.2.2.1, k.2.2.2⟩⟩
      · exact decide_eq_decide.mpr ⟨fun k => absurd k.1 h7, fun k => by rcases k with k | k <;> exact absurd k.1 h7⟩
    · rw [if_neg c4, L, if_neg c4]
      congr 3
      refine ff_congr (fun s _ hs => ?_)
      unfold edB senB3
      by_cases h7 : (V 85 0 s) = 7
      · obtain ⟨y1, y2, y3, y4⟩ := hR s (by omega) h7
        refine decide_eq_decide.mpr ?_
        rw [bit a _ ia.1 ia.2 y1, bit b _ ib.1 ib.2 y3]
        constructor
        · rintro ⟨k1, k2, k3 | k3⟩
          · exact ⟨k1, k2, k3.1, k3.2⟩
          · exact absurd rfl k3.1
        · rintro ⟨k1, k2, k3, k4⟩
          exact ⟨k1, k2, .inl ⟨k3, k4⟩⟩
      · exact decide_eq_decide.mpr ⟨fun k => absurd k.1 h7, fun k => absurd k.1 h7⟩
def ooN (V : XM) (r a b : Int) : Int := if ((V 90 0 (r.toNat)) = 0 ∨ (V 90 0 (r.toNat)) = 2) ∧ ff (erB V r a (-9)) (V 14 0 22).toNat 0 ≠ -9 then ff (erB V r a (-9)) (V 14 0 22).toNat 0 else if (V 90 0 (r.toNat)) = 0 ∨ (V 90 0 (r.toNat)) = 1 then ff (erB V r (-9) b) (V 14 0 22).toNat 0 else -9
def rlN (V : XM) (r a b : Int) : Int := if dnN V r a b ≠ -9 then dnN V r a b else ooN V r a b
theorem ff_0 (f : Nat → Bool) (n : Nat) : ff f n 0 = -9 ∨ 0 ≤ ff f n 0 := by
  rcases ff_spec f n 0 with ⟨x1, _⟩ | ⟨s, x1, _⟩
  · exact .inl x1
  · exact .inr (by omega)
theorem dnN_0 (V : XM) (r a b : Int) : dnN V r a b = -9 ∨ 0 ≤ dnN V r a b := by
  unfold dnN erl
  have e1 := ff_0 (dn5 V r a b) (V 14 0 22).toNat
  have e2 := ff_0 (senB3 V 7 r a b) (V 14 0 22).toNat
  have e3 := ff_0 (senB3 V 7 r b a) (V 14 0 22).toNat
  (repeat' split) <;> omega
theorem y_cAgRel (d : Nat) (V : XM) (h : Inv V) {r a b : Int} (ir : 0 ≤ r ∧ r < (V 14 0 29)) (ia : 0 ≤ a ∧ a < (V 14 0 9)) (ib : 0 ≤ b ∧ b < (V 14 0 9)) : Yf (d + 3) 42 [xr 10 0, xi r, xi a, xi b] V = some (xi (rlN V r a b), V) := by
  have D := y_cDenied d V h ir ia ib
  have E1 := fun e => y_eRel e V h r a (-9)
  have E2 := fun e => y_eRel e V h r (-9) b
  have d0 := dnN_0 V r a b
  have z1 := ff_0 (erB V r a (-9)) (V 14 0 22).toNat
  have z2 := ff_0 (erB V r (-9) b) (V 14 0 22).toNat
  obtain ⟨⟨ck1, ck2, ck3, cp1, cp2, cp3, ct1, ct2, ct3, cs1, cs2, cs3, cq1, cq2, cq3, cr1, cr2, cr3, cf1, cf2, cf3, cb1, cb2, cb3, cw1, cw2, cw3, clf, clc⟩, hkin, hpro, husu, hgiv, hthg, hhom, hput, hrin, hsen, hbar, hset, hmos, hpai, hrel, hmap, hdoo, hshe, htab, hwor⟩ := h
  obtain ⟨f1, f2, f3, f4⟩ := hrel.2.1 r ir.1 ir.2
  clear f4 ck1 ck2 ck3 cp1 cp2 cp3 cq1 cq2 cq3 cr3 cf1 cf2 cf3 cb1 cb2 cb3 cw1 cw2 cw3 clf clc hrel
  rw [s_X2_againstRelate, if_pos (by omega), D, ci_r, f1]
  unfold rlN ooN
  generalize dnN V r a b = x at *
  generalize ff (erB V r a (-9)) (V 14 0 22).toNat 0 = y at *
  generalize ff (erB V r (-9) b) (V 14 0 22).toNat 0 = w at *
  generalize (V 90 0 (r.toNat)) = f at *
  by_cases c0 : x = -9
  · by_cases c1 : f = 0
    · by_cases c2 : y = -9
      · (repeat (first | rw [ci_r] | rw [cl_r] | rw [cv_r] | rw [ite_b2] | rw [ite_b21] | rw [if_pos (by omega)] | rw [if_neg (by omega)] | rw [y_kindsHas] | rw [y_isKind _ _ _ (by omega)] | rw [y_valHas] | rw [y_isProp _ _ _ (by omega)] | rw [y_thgHas] | rw [y_isThing _ _ _ (by omega)] | rw [y_inRange] | rw [y_in] | rw [s_X11_faulted] | rw [s_X12_faulty] | rw [s_X11_against] | rw [s_X12_against] | simp (disch := omega) only [w32_i, Int.add_sub_cancel, mc64, mc24, mc6, mc8, mc5] | rw [E1] | rw [E2]))
      · (repeat (first | rw [ci_r] | rw [cl_r] | rw [cv_r] | rw [ite_b2] | rw [ite_b21] | rw [if_pos (by omega)] | rw [if_neg (by omega)] | rw [y_kindsHas] | rw [y_isKind _ _ _ (by omega)] | rw [y_valHas] | rw [y_isProp _ _ _ (by omega)] | rw [y_thgHas] | rw [y_isThing _ _ _ (by omega)] | rw [y_inRange] | rw [y_in] | rw [s_X11_faulted] | rw [s_X12_faulty] | rw [s_X11_against] | rw [s_X12_against] | simp (disch := omega) only [w32_i, Int.add_sub_cancel, mc64, mc24, mc6, mc8, mc5] | rw [E1] | rw [E2]))
    · by_cases c2 : f = 2
      · by_cases c3 : y = -9
        · (repeat (first | rw [ci_r] | rw [cl_r] | rw [cv_r] | rw [ite_b2] | rw [ite_b21] | rw [if_pos (by omega)] | rw [if_neg (by omega)] | rw [y_kindsHas] | rw [y_isKind _ _ _ (by omega)] | rw [y_valHas] | rw [y_isProp _ _ _ (by omega)] | rw [y_thgHas] | rw [y_isThing _ _ _ (by omega)] | rw [y_inRange] | rw [y_in] | rw [s_X11_faulted] | rw [s_X12_faulty] | rw [s_X11_against] | rw [s_X12_against] | simp (disch := omega) only [w32_i, Int.add_sub_cancel, mc64, mc24, mc6, mc8, mc5] | rw [E1] | rw [E2]))
        · (repeat (first | rw [ci_r] | rw [cl_r] | rw [cv_r] | rw [ite_b2] | rw [ite_b21] | rw [if_pos (by omega)] | rw [if_neg (by omega)] | rw [y_kindsHas] | rw [y_isKind _ _ _ (by omega)] | rw [y_valHas] | rw [y_isProp _ _ _ (by omega)] | rw [y_thgHas] | rw [y_isThing _ _ _ (by omega)] | rw [y_inRange] | rw [y_in] | rw [s_X11_faulted] | rw [s_X12_faulty] | rw [s_X11_against] | rw [s_X12_against] | simp (disch := omega) only [w32_i, Int.add_sub_cancel, mc64, mc24, mc6, mc8, mc5] | rw [E1] | rw [E2]))
      · by_cases c3 : f = 1
        · (repeat (first | rw [ci_r] | rw [cl_r] | rw [cv_r] | rw [ite_b2] | rw [ite_b21] | rw [if_pos (by omega)] | rw [if_neg (by omega)] | rw [y_kindsHas] | rw [y_isKind _ _ _ (by omega)] | rw [y_valHas] | rw [y_isProp _ _ _ (by omega)] | rw [y_thgHas] | rw [y_isThing _ _ _ (by omega)] | rw [y_inRange] | rw [y_in] | rw [s_X11_faulted] | rw [s_X12_faulty] | rw [s_X11_against] | rw [s_X12_against] | simp (disch := omega) only [w32_i, Int.add_sub_cancel, mc64, mc24, mc6, mc8, mc5] | rw [E1] | rw [E2]))
        · (repeat (first | rw [ci_r] | rw [cl_r] | rw [cv_r] | rw [ite_b2] | rw [ite_b21] | rw [if_pos (by omega)] | rw [if_neg (by omega)] | rw [y_kindsHas] | rw [y_isKind _ _ _ (by omega)] | rw [y_valHas] | rw [y_isProp _ _ _ (by omega)] | rw [y_thgHas] | rw [y_isThing _ _ _ (by omega)] | rw [y_inRange] | rw [y_in] | rw [s_X11_faulted] | rw [s_X12_faulty] | rw [s_X11_against] | rw [s_X12_against] | simp (disch := omega) only [w32_i, Int.add_sub_cancel, mc64, mc24, mc6, mc8, mc5] | rw [E1] | rw [E2]))
  · (repeat (first | rw [ci_r] | rw [cl_r] | rw [cv_r] | rw [ite_b2] | rw [ite_b21] | rw [if_pos (by omega)] | rw [if_neg (by omega)] | rw [y_kindsHas] | rw [y_isKind _ _ _ (by omega)] | rw [y_valHas] | rw [y_isProp _ _ _ (by omega)] | rw [y_thgHas] | rw [y_isThing _ _ _ (by omega)] | rw [y_inRange] | rw [y_in] | rw [s_X11_faulted] | rw [s_X12_faulty] | rw [s_X11_against] | rw [s_X12_against] | simp (disch := omega) only [w32_i, Int.add_sub_cancel, mc64, mc24, mc6, mc8, mc5] | fail))
