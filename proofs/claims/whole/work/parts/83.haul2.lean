/-! haul -/
def hH (V : XM) (a b : Int) (k : Nat) : Int := (V 101 0 ((16 * a + b + k).toNat))
def cHau (V : XM) (H : Nat → Int) (c e f M : Int) : XM := xu (xff (xu (xff V 17 0 0 f H) 2 0 16 0) 62 c.toNat (e + 0) (e + M) (fun j => H (j - e.toNat))) 2 0 16 M
def rHau (V : XM) (H : Nat → Int) (c e f M : Int) : XM := xu (xff (xu (xff V 102 0 0 f H) 14 0 44 0) 101 0 (16 * c + e + 0) (16 * c + e + M) (fun j => H (j - (16 * c + e).toNat))) 14 0 44 M
theorem she_haul {V W : XM} (h : I_she V) {H : Nat → Int} {c e M : Int} (hc : 0 ≤ c ∧ c < (V 14 0 39)) (he : 0 ≤ e) (hM : 0 ≤ M) (heM : e + M ≤ 16) (hH : ∀ k : Nat, (k : Int) < M → H k = -9 ∨ (0 ≤ H k ∧ H k < (V 14 0 9))) (e12 : W 12 = V 12) (e99 : W 99 = V 99) (e100 : W 100 = V 100)
    (e62 : ∀ p j : Nat, W 62 p j = (xff V 62 c.toNat (e + 0) (e + M) (fun j => H (j - e.toNat))) 62 p j) (e101 : W 101 0 = fif (V 101 0) (16 * c + e + 0) (16 * c + e + M) (fun j => H (j - (16 * c + e).toNat))) (es : (W 14 0 39) = (V 14 0 39)) (et : (W 14 0 9) = (V 14 0 9)) : I_she W := by
  unfold I_she
  rw [e12, e99, e100, es, et]
  intro s k1 k2
  obtain ⟨s1, s2, s3, s4, s5, s6, s7⟩ := h s k1 k2
  refine ⟨s1, s2, s3, s4, s5, s6, fun i g1 g2 => ?_⟩
  rw [e62, e101, xff_e]
  by_cases hh : s = c ∧ e ≤ i ∧ i < e + M
  · rw [if_pos (by omega), fif_in (by omega)]
    have e1 : i.toNat - e.toNat = (i - e).toNat := by omega
    have e2 : (16 * s + i).toNat - (16 * c + e).toNat = (i - e).toNat := by omega
    show H (i.toNat - e.toNat) = H ((16 * s + i).toNat - (16 * c + e).toNat) ∧ _
    rw [e1]
    show _ ∧ (H ((16 * s + i).toNat - (16 * c + e).toNat) = -9 ∨ 0 ≤ H ((16 * s + i).toNat - (16 * c + e).toNat) ∧ H ((16 * s + i).toNat - (16 * c + e).toNat) < (V 14 0 9))
    rw [e2]
    exact ⟨rfl, hH _ (by omega)⟩
  · rw [if_neg (by omega), fif_out (by omega)]
    exact s7 i g1 g2
theorem Inv.haul1 {V : XM} (h : Inv V) {H : Nat → Int} {c e f M : Int} (hc : 0 ≤ c ∧ c < (V 14 0 39)) (he : 0 ≤ e) (hM : 0 ≤ M) (heM : e + M ≤ 16) (hH : ∀ k : Nat, (k : Int) < M → H k = -9 ∨ (0 ≤ H k ∧ H k < (V 14 0 9))) : Inv (rHau (cHau V H c e f M) H c e f M) := by
  obtain ⟨⟨ck1, ck2, ck3, cp1, cp2, cp3, ct1, ct2, ct3, cs1, cs2, cs3, cq1, cq2, cq3, cr1, cr2, cr3, cf1, cf2, cf3, cb1, cb2, cb3, cw1, cw2, cw3, clf, clc⟩, hkin, hpro, husu, hgiv, hthg, hhom, hput, hrin, hsen, hbar, hset, hmos, hpai, hrel, hmap, hdoo, hshe, htab, hwor⟩ := h
  exact ⟨⟨ck1, ck2, ck3, cp1, cp2, cp3, ct1, ct2, ct3, cs1, cs2, cs3, cq1, cq2, cq3, cr1, cr2, cr3, cf1, cf2, cf3, cb1, cb2, cb3, cw1, cw2, cw3, clf, rfl⟩, hkin, hpro, husu, hgiv, hthg, hhom, hput, hrin, hsen, hbar, hset, hmos, hpai, hrel, hmap, hdoo, she_haul hshe hc he hM heM hH rfl rfl rfl (fun p j => rfl) (xff_rw V 101 0 _ _ _) rfl rfl, htab, hwor⟩
theorem Inv.haul2 {V : XM} (h : Inv V) {H : Nat → Int} {c e f M : Int} (hc : 0 ≤ c ∧ c < (V 14 0 39)) (he : 0 ≤ e) (hM : 0 ≤ M) (heM : e + M ≤ 16) (hH : ∀ k : Nat, (k : Int) < M → H k = -9 ∨ (0 ≤ H k ∧ H k < (V 14 0 9))) : Inv (xu (rHau (xu (cHau V H c e f M) 2 0 15 4) H c e f M) 14 0 0 4) := by
  obtain ⟨⟨ck1, ck2, ck3, cp1, cp2, cp3, ct1, ct2, ct3, cs1, cs2, cs3, cq1, cq2, cq3, cr1, cr2, cr3, cf1, cf2, cf3, cb1, cb2, cb3, cw1, cw2, cw3, clf, clc⟩, hkin, hpro, husu, hgiv, hthg, hhom, hput, hrin, hsen, hbar, hset, hmos, hpai, hrel, hmap, hdoo, hshe, htab, hwor⟩ := h
  exact ⟨⟨ck1, ck2, ck3, cp1, cp2, cp3, ct1, ct2, ct3, cs1, cs2, cs3, cq1, cq2, cq3, cr1, cr2, cr3, cf1, cf2, cf3, cb1, cb2, cb3, cw1, cw2, cw3, rfl, rfl⟩, hkin, hpro, husu, hgiv, hthg, hhom, hput, hrin, hsen, hbar, hset, hmos, hpai, hrel, hmap, hdoo, she_haul hshe hc he hM heM hH rfl rfl rfl (fun p j => rfl) (xff_rw V 101 0 _ _ _) rfl rfl, htab, hwor⟩
theorem y_spans (d : Nat) (V : XM) (p : Nat) (i n : Int) (hl : 0 ≤ (V 12 p 2) ∧ (V 12 p 2) ≤ 16) : Yf (d + 1) 74 [xr 12 p, xi i, xi n] V = some (xi (b2 (0 ≤ i ∧ 0 ≤ n ∧ i + n ≤ (V 12 p 2))), V) := by
  rw [s_X6_spans]
  by_cases h1 : 0 ≤ i ∧ i ≤ (V 12 p 2)
  · rw [w32_i (by omega) (by omega)]
    ((try unfold b2); (repeat' split) <;> first | rfl | (exfalso; omega))
  · unfold b2
    rw [if_neg (c := 0 ≤ i ∧ 0 ≤ n ∧ i + n ≤ (V 12 p 2)) (by omega)]
    by_cases h2 : i < 0
    · rw [if_pos h2]
    · rw [if_neg h2]
      by_cases h3 : n < 0
      · rw [if_pos h3]
      · rw [if_neg h3, if_pos (by omega)]
theorem g_haul (d : Nat) (V : XM) (h : Inv V) (a b c e f : Int) (rb : b < 2147483648) (re : e < 2147483648) (rf : f < 2147483648) : AG d 165 283 [xi a, xi b, xi c, xi e, xi f] V := by
  have h' := h
  have hrb := h.rb
  obtain ⟨⟨ck1, ck2, ck3, cp1, cp2, cp3, ct1, ct2, ct3, cs1, cs2, cs3, cq1, cq2, cq3, cr1, cr2, cr3, cf1, cf2, cf3, cb1, cb2, cb3, cw1, cw2, cw3, clf, clc⟩, hkin, hpro, husu, hgiv, hthg, hhom, hput, hrin, hsen, hbar, hset, hmos, hpai, hrel, hmap, hdoo, hshe, htab, hwor⟩ := h'
  clear cp1 cp2 cp3 cq1 cq2 cq3 cr1 cr2 cr3 cb1 cb2 cb3 cw1 cw2 cw3 clf clc cs1 cs2 cs3
  have S1 := fun k W q => y_isShelf k W a q
  have S2 := fun k W q => y_isShelf k W c q
  by_cases ia : 0 ≤ a ∧ a < (V 14 0 39)
  · by_cases ic : 0 ≤ c ∧ c < (V 14 0 39)
    · obtain ⟨a1, a2, a3, a4, a5, a6, a7⟩ := hshe a ia.1 ia.2
      obtain ⟨c1, c2, c3, c4, c5, c6, c7⟩ := hshe c ic.1 ic.2
      have P1 := fun k => y_spans k V a.toNat b f (by omega)
      have P2 := fun k => y_spans k V c.toNat e f (by omega)
      rw [a4] at P1
      rw [c4] at P2
      have hC0 : Yf (d + 30) 165 [xr 2 0, xi a, xi b, xi c, xi e, xi f] V = if (0 ≤ b ∧ 0 ≤ f ∧ b + f ≤ (V 100 0 (a.toNat))) ∧ (0 ≤ e ∧ 0 ≤ f ∧ e + f ≤ (V 100 0 (c.toNat))) then Xf (d + 29) 165 72 [xr 2 0, xr 0 0, xi b, xr 0 0, xi e, xi f, xr 12 a.toNat, xr 12 c.toNat, xi 0] [] V else some (xi (-12), xu V 2 0 15 2) := by
        rw [s_X11_haul, y_inRange, ci_r, ite_b2, if_pos (by omega), y_inRange, ci_r, ite_b2, if_pos (by omega), if_pos (by omega), if_pos (by omega), P1, ci_r, ite_b2]
        by_cases q1 : 0 ≤ b ∧ 0 ≤ f ∧ b + f ≤ (V 100 0 (a.toNat))
        · rw [if_pos q1, P2, ci_r, ite_b2]
          by_cases q2 : 0 ≤ e ∧ 0 ≤ f ∧ e + f ≤ (V 100 0 (c.toNat))
          · rw [if_pos q2, if_pos ⟨q1, q2⟩]
          · rw [if_neg q2, if_neg (fun k => q2 k.2), s_X11_faulted, ci_r]; rfl
        · rw [if_neg q1, if_neg (fun k => q1 k.1), s_X11_faulted, ci_r]; rfl
      have hR0 : ∀ W : XM, (W 14 0 39) = (V 14 0 39) → W 100 = V 100 → Yf (d + 30) 283 [xr 14 0, xi a, xi b, xi c, xi e, xi f] W = if (0 ≤ b ∧ 0 ≤ f ∧ b + f ≤ (V 100 0 (a.toNat))) ∧ (0 ≤ e ∧ 0 ≤ f ∧ e + f ≤ (V 100 0 (c.toNat))) then Xf (d + 29) 283 77 [xr 14 0, xi a, xi b, xi c, xi e, xi f, xi 0] [] W else some (xi (-12), xu W 14 0 0 2) := by
        intro W w1 w2
        rw [s_X12_haul, S1 _ W (by omega), ci_r, ite_b2, if_pos (by omega), S2 _ W (by omega), ci_r, ite_b2, if_pos (by omega), w2]
        simp only [cmp3_gt]
        by_cases q1 : b < 0
        · rw [if_pos q1, if_neg (by omega), s_X12_faulty, ci_r]; rfl
        rw [if_neg q1]
        by_cases q2 : e < 0
        · rw [if_pos q2, if_neg (by omega), s_X12_faulty, ci_r]; rfl
        rw [if_neg q2]
        by_cases q3 : f < 0
        · rw [if_pos q3, if_neg (by omega), s_X12_faulty, ci_r]; rfl
        rw [if_neg q3, if_pos (by omega), w64_i (by omega) (by omega), w64_i (by omega) (by omega)]
        by_cases q4 : (V 100 0 (a.toNat)) < b + f
        · rw [if_pos q4, if_neg (by omega), s_X12_faulty, ci_r]; rfl
        rw [if_neg q4, if_pos (by omega)]
        by_cases q5 : (V 100 0 (c.toNat)) < e + f
        · rw [if_pos q5, if_neg (by omega), s_X12_faulty, ci_r]; rfl
        rw [if_neg q5, if_pos (by omega)]
      by_cases i1 : (0 ≤ b ∧ 0 ≤ f ∧ b + f ≤ (V 100 0 (a.toNat))) ∧ (0 ≤ e ∧ 0 ≤ f ∧ e + f ≤ (V 100 0 (c.toNat)))
      · rw [if_pos i1] at hC0
        have hR1 := fun W w1 w2 => (hR0 W w1 w2).trans (if_pos i1)
        clear hR0 P1 P2 S1 S2
        obtain ⟨M, m1, m2, m3, m4⟩ := run_ex (fun k => hH V a b k.toNat = -9 ∨ kfit (V 67 0) (V 21 0 ((hH V a b k.toNat).toNat)) (V 99 0 (c.toNat)) = true) f.toNat
        have hval : ∀ k : Nat, (k : Int) < f → hH V a b k = -9 ∨ (0 ≤ hH V a b k ∧ hH V a b k < (V 14 0 9)) := fun k hk => by
          have := (a7 (b + k) (by omega) (by omega)).2
          rw [show 16 * a + (b + (k : Int)) = 16 * a + b + k by omega] at this
          exact this
        have hbas : ∀ k : Int, 0 ≤ k → k < f → hH V a b k.toNat ≠ -9 → 0 ≤ hH V a b k.toNat ∧ hH V a b k.toNat < 64 ∧ 0 ≤ (V 21 0 ((hH V a b k.toNat).toNat)) ∧ (V 21 0 ((hH V a b k.toNat).toNat)) ≤ 5 := fun k k0 k1 k9 => by
          have v := hval k.toNat (by omega)
          have v' := v.resolve_left k9
          have t := hthg _ v'.1 v'.2
          exact ⟨v'.1, by omega, t.2.2.2.2.1, t.2.2.2.2.2.1⟩
        have L1 := x_ch1 (d + 29) (hH V a b) a.toNat c.toNat b e f i1.1.1 (by omega) 20 V 0 (by omega) (by omega) (by omega) (fun k hk => by
          have := (a7 (b + k) (by omega) (by omega)).1
          rw [show 16 * a + (b + (k : Int)) = 16 * a + b + k by omega] at this
          exact this.symm)
        have L2 := x_ch2 (d + 27) (hH V a b) c.toNat e f M (T := fun k => hH V a b k.toNat = -9 ∨ kfit (V 67 0) (V 21 0 ((hH V a b k.toNat).toNat)) (V 99 0 (c.toNat)) = true) i1.2.1 (by omega) ⟨m1, by omega⟩ m3 (fun k => m4 (by omega)) 20 (xu (xff V 17 0 0 f (hH V a b)) 2 0 16 0) 0 (by omega) (by omega) m1 rfl (fun k k0 k1 => by
          show (xff V 17 0 0 f (hH V a b)) 17 0 k.toNat = _
          rw [xff_e, if_pos (by omega)]) (fun W k k0 k1 e67 e19 e21 e14 e12 => by
          refine ⟨_, ?_, y_cTakes _ W (N := (V 14 0 1)) c.toNat (t := hH V a b k.toNat) (by rw [e67]; exact hkin.1) (by rw [e67, e19]; exact hkin.2.1) ck1 (by rw [e21]; exact hbas k k0 k1) (by rw [e12]; show 0 ≤ (V 12 (c.toNat) 1); omega)⟩
          rw [b2_0, e67, e21, e12]
          show ¬ (hH V a b k.toNat = -9 ∨ kfit (V 67 0) (V 21 0 ((hH V a b k.toNat).toNat)) (V 12 (c.toNat) 1) = true) ↔ _
          rw [c1])
        have R1 : ∀ W : XM, W 101 = V 101 → W 67 = V 67 → W 73 = V 73 → W 99 = V 99 → (W 14 0 1) = (V 14 0 1) → (W 14 0 9) = (V 14 0 9) → Xf (d + 29) 283 77 [xr 14 0, xi a, xi b, xi c, xi e, xi f, xi 0] [] W = if M = f then some (xi f, rHau W (hH V a b) c e f M) else some (xi (-14), xu (rHau W (hH V a b) c e f M) 14 0 0 4) := by
          intro W w101 w67 w73 w99 wk wt
          rw [x_rh1 (d + 29) (hH V a b) a c b e f (by omega) i1.1.1 (by omega) 20 W 0 (by omega) (by omega) (by omega) (fun k hk => by rw [w101]; rfl)]
          have := x_rh2 (d + 26) (hH V a b) c e f M (T := fun k => hH V a b k.toNat = -9 ∨ kfit (V 67 0) (V 21 0 ((hH V a b k.toNat).toNat)) (V 99 0 (c.toNat)) = true) (by omega) i1.2.1 (by omega) ⟨m1, by omega⟩ m3 (fun k => m4 (by omega)) 20 (xu (xff W 102 0 0 f (hH V a b)) 14 0 44 0) 0 (by omega) (by omega) m1 rfl (fun k k0 k1 => by
            show (xff W 102 0 0 f (hH V a b)) 102 0 k.toNat = _
            rw [xff_e, if_pos (by omega)]) (fun X k k0 k1 x67 x73 x99 xk xt => by
            have x67' : X 67 = V 67 := x67.trans w67
            have x73' : X 73 = V 73 := x73.trans w73
            have x99' : X 99 = V 99 := x99.trans w99
            have xk' : (X 14 0 1) = (V 14 0 1) := xk.trans wk
            have xt' : (X 14 0 9) = (V 14 0 9) := xt.trans wt
            have hbX : RB X (V 21 0) := by
              unfold RB
              rw [x67', x73', xk', xt']
              exact hrb
            refine ⟨_, ?_, y_rTakes _ X hbX (s := c) (t := hH V a b k.toNat) (by omega) (by omega) (fun k9 => by rw [xt']; exact (hval k.toNat (by omega)).resolve_left k9)⟩
            rw [b2_0, x67', x99'])
          refine this.trans ?_
          rfl
        rw [show d + 29 = d + 27 + 2 by omega] at L1
        rw [L1, L2] at hC0
        by_cases i2 : M = f
        · rw [if_pos i2] at hC0
          exact AG.mk hC0 ((hR1 _ (by rfl) (by rfl)).trans ((R1 _ (by rfl) (by rfl) (by rfl) (by rfl) (by rfl) (by rfl)).trans (if_pos i2))) (Inv.haul1 h ic i1.2.1 m1 (by omega) (fun k hk => hval k (by omega))) rfl
        · rw [if_neg i2] at hC0
          exact AG.mk hC0 ((hR1 _ (by rfl) (by rfl)).trans ((R1 _ (by rfl) (by rfl) (by rfl) (by rfl) (by rfl) (by rfl)).trans (if_neg i2))) (Inv.haul2 h ic i1.2.1 m1 (by omega) (fun k hk => hval k (by omega))) rfl
      · exact AG.flt h (hC0.trans (if_neg i1)) ((hR0 _ (by rfl) (by rfl)).trans (if_neg i1))
    · exact AG.no (x := xi (-1)) h (by rw [s_X11_haul, y_inRange, ci_r, ite_b2, if_pos (by omega), y_inRange, ci_r, ite_b2, if_neg (by omega)]) (by rw [s_X12_haul, S1 _ V (by omega), ci_r, ite_b2, if_pos ia, S2 _ V (by omega), ci_r, ite_b2, if_neg ic])
  · exact AG.no (x := xi (-1)) h (by rw [s_X11_haul, y_inRange, ci_r, ite_b2, if_neg (by omega)]) (by rw [s_X12_haul, S1 _ V (by omega), ci_r, ite_b2, if_neg ia])
