/-! settle: the class looks for a way -/
theorem y_lets (d : Nat) {Z : XM} (h : Inv Z) {N : Nat} (hN : (Z 14 0 9) = (N : Int)) {p G P : Nat → Int} {a t w : Nat} (hq : gq Z N p a) (hG : hmG Z N p G) (ht : t < N) (hw : w < N) (hBw : (Z 21 0 w) ≠ 3) : Yf (d + 4) 71 [xr 8 0, xi (t : Int), xi (w : Int)] (zS Z G (hcF Z N p) P (inF Z N p)) = some (xi (b2 (ltB Z (Z 21 0) N p t w = true)), zS Z G (hcF Z N p) P (inF Z N p)) := by
  have h' := h
  obtain ⟨⟨ck1, ck2, ck3, cp1, cp2, cp3, ct1, ct2, ct3, cs1, cs2, cs3, cq1, cq2, cq3, cr1, cr2, cr3, cf1, cf2, cf3, cb1, cb2, cb3, cw1, cw2, cw3, clf, clc⟩, hkin, hpro, husu, hgiv, hthg, hhom, hput, hrin, hsen, hbar, hset, hmos, hpai, hrel, hmap, hdoo, hshe, htab, hwor⟩ := h'
  clear hkin hpro husu hgiv hthg hput hrin hbar hset hrel hmap hdoo hshe htab hwor ck1 ck2 ck3 cp1 cp2 cp3 cr1 cr2 cr3 cf1 cf2 cf3 cb1 cb2 cb3 cw1 cw2 cw3 clf clc
  obtain ⟨⟨g1, g2, g3, g4, g5, g6⟩, hb, h3⟩ := hq
  have W1 : Yf (d + 3) 12 [xr 7 0, xi (w : Int), xi (t : Int)] (zS Z G (hcF Z N p) P (inF Z N p)) = some (xi (b2 (wi p (t : Int) 64 (w : Int) = true)), zS Z G (hcF Z N p) P (inF Z N p)) := by
    rw [s_X1_isWithin]
    exact x_wWi d h hN (t : Int) hb hG g1 h3 64 0 w (by omega) hw hBw
  have e45 : (zS Z G (hcF Z N p) P (inF Z N p)) 45 0 ((w : Int).toNat) = Z 45 0 w := by rw [Int.toNat_natCast]; rfl
  have e44 : (zS Z G (hcF Z N p) P (inF Z N p)) 44 0 ((w : Int).toNat) = Z 44 0 w := by rw [Int.toNat_natCast]; rfl
  have e43 : (zS Z G (hcF Z N p) P (inF Z N p)) 43 0 ((w : Int).toNat) = inC (Z 21 0) p N (w : Int) := by
    rw [Int.toNat_natCast]
    exact inF_C h hN hb hw
  have W2 := y_crowded (d + 1) (zS Z G (hcF Z N p) P (inF Z N p)) (w := (w : Int)) (by omega) (by omega)
  rw [e45, e44, e43] at W2
  have hc : (0 ≤ Z 45 0 w ∧ Z 44 0 w ≤ inC (Z 21 0) p N (w : Int)) ↔ ((Z 82 0 w) ≠ -9 ∧ (Z 87 0 ((Z 82 0 w).toNat)) ≤ inC (Z 21 0) p N (w : Int)) := by
    obtain ⟨_, _, m3, m4⟩ := hmos (w : Int) (by omega) (by omega)
    rw [Int.toNat_natCast] at m3 m4
    rw [m3]
    rcases m4 with m4 | ⟨n1, n2, n3, n4⟩
    · exact ⟨fun z => by omega, fun z => absurd m4 z.1⟩
    · rw [n3]
      exact ⟨fun z => ⟨by omega, z.2⟩, fun z => ⟨n1, z.2⟩⟩
  have pf : ∀ o : Int, 0 ≤ o → o < (Z 14 0 9) → isO (Z 21 0 (o.toNat)) → 0 ≤ hcF Z N p o.toNat ∧ hcF Z N p o.toNat ≤ 1 ∧ (0 < hcF Z N p o.toNat ↔ p o.toNat ≠ -9) ∧ (p o.toNat ≠ -9 → G (6 * o).toNat = p o.toNat) := fun o o0 o1 oO => by
    have := cm_home h hN hb hG (k := o.toNat) (by omega) (by rcases oO with z | z | z <;> omega)
    rw [show (6 * o).toNat = 6 * o.toNat by omega]
    exact this
  have hPD : PD (zS Z G (hcF Z N p) P (inF Z N p)) := by
    refine ⟨by show 0 ≤ Z 7 0 15; omega, by show Z 7 0 15 ≤ 16; omega, fun i k1 k2 => ?_⟩
    have k2 : i < Z 7 0 15 := k2
    obtain ⟨y1, y2, y3, y4, y5, y6, y7, y8, y9, y10, y11, y12, y13, y14, _⟩ := hpai.1 i k1 (by omega)
    have a1 := pf _ y8 y9 y13
    have a2 := pf _ y10 y11 y14
    exact ⟨y8, by show Z 46 0 i.toNat < 64; omega, y10, by show Z 47 0 i.toNat < 64; omega, y7, by show hcF Z N p _ ≤ 6; exact Int.le_trans a1.2.1 (by omega), by show hcF Z N p _ ≤ 6; exact Int.le_trans a2.2.1 (by omega)⟩
  have W3 := y_cPairs d (zS Z G (hcF Z N p) P (inF Z N p)) hPD (t : Int) (w : Int)
  have key : ∀ i : Int, 0 ≤ i → i < (Z 14 0 27) → (cpB (Z 46 0) (Z 47 0) (Z 48 0) G (hcF Z N p) (t : Int) (w : Int) i.toNat = true ↔ ((Z 85 0 ((Z 49 0 (i.toNat)).toNat)) = 4 ∧ (((Z 86 0 ((Z 49 0 (i.toNat)).toNat)) = (t : Int) ∧ p ((Z 87 0 ((Z 49 0 (i.toNat)).toNat)).toNat) ≠ -9 ∧ ¬ (p ((Z 87 0 ((Z 49 0 (i.toNat)).toNat)).toNat) = (w : Int) ↔ (Z 88 0 ((Z 49 0 (i.toNat)).toNat)) = 1)) ∨ ((Z 87 0 ((Z 49 0 (i.toNat)).toNat)) = (t : Int) ∧ p ((Z 86 0 ((Z 49 0 (i.toNat)).toNat)).toNat) ≠ -9 ∧ ¬ (p ((Z 86 0 ((Z 49 0 (i.toNat)).toNat)).toNat) = (w : Int) ↔ (Z 88 0 ((Z 49 0 (i.toNat)).toNat)) = 1))))) := fun i i0 i1 => by
    obtain ⟨y1, y2, y3, y4, y5, y6, y7, y8, y9, y10, y11, y12, y13, y14, _⟩ := hpai.1 i i0 i1
    have a1 := pf _ y8 y9 y13
    have a2 := pf _ y10 y11 y14
    rw [← y4, ← y5, ← y6, y3]
    unfold cpB
    simp only [decide_eq_true_eq]
    generalize (Z 46 0 (i.toNat)) = on at *
    generalize (Z 47 0 (i.toNat)) = ot at *
    generalize (Z 48 0 (i.toNat)) = al at *
    have eq : ∀ x : Int, (¬ (x = (w : Int) ↔ al = 1)) ↔ ((x = (w : Int) ∧ al ≠ 1) ∨ (x ≠ (w : Int) ∧ al = 1)) := fun x => by
      by_cases b1 : x = (w : Int) <;> by_cases b2 : al = 1 <;> simp [b1, b2]
    rw [eq, eq]
    constructor
    · rintro (⟨z1, z2, z3⟩ | ⟨z0, z1, z2, z3⟩)
      · have n2 := a2.2.2.1.mp z2
        rw [a2.2.2.2 n2] at z3
        exact ⟨trivial, .inl ⟨z1, n2, z3⟩⟩
      · have n2 := a1.2.2.1.mp z2
        rw [a1.2.2.2 n2] at z3
        exact ⟨trivial, .inr ⟨z1, n2, z3⟩⟩
    · rintro ⟨_, ⟨z1, z2, z3⟩ | ⟨z1, z2, z3⟩⟩
      · exact .inl ⟨z1, a2.2.2.1.mpr z2, by rw [a2.2.2.2 z2]; exact z3⟩
      · exact .inr ⟨fun z => y12 (z.trans z1.symm), z1, a1.2.2.1.mpr z2, by rw [a1.2.2.2 z2]; exact z3⟩
  have hp3 : cpF (zS Z G (hcF Z N p) P (inF Z N p)) (t : Int) (w : Int) < 0 ↔ ff (fun s => decide ((Z 85 0 s) = 4 ∧ (((Z 86 0 s) = (t : Int) ∧ p ((Z 87 0 s).toNat) ≠ -9 ∧ ¬ (p ((Z 87 0 s).toNat) = (w : Int) ↔ (Z 88 0 s) = 1)) ∨ ((Z 87 0 s) = (t : Int) ∧ p ((Z 86 0 s).toNat) ≠ -9 ∧ ¬ (p ((Z 86 0 s).toNat) = (w : Int) ↔ (Z 88 0 s) = 1))))) (Z 14 0 22).toNat 0 = -9 := by
    have ec : cpF (zS Z G (hcF Z N p) P (inF Z N p)) (t : Int) (w : Int) = if ff (cpB (Z 46 0) (Z 47 0) (Z 48 0) G (hcF Z N p) (t : Int) (w : Int)) (Z 14 0 27).toNat 0 = -9 then -9 else (Z 49 0 ((ff (cpB (Z 46 0) (Z 47 0) (Z 48 0) G (hcF Z N p) (t : Int) (w : Int)) (Z 14 0 27).toNat 0).toNat)) := by
      have : cpF (zS Z G (hcF Z N p) P (inF Z N p)) (t : Int) (w : Int) = if ff (cpB (Z 46 0) (Z 47 0) (Z 48 0) G (hcF Z N p) (t : Int) (w : Int)) (Z 7 0 15).toNat 0 = -9 then -9 else (Z 49 0 ((ff (cpB (Z 46 0) (Z 47 0) (Z 48 0) G (hcF Z N p) (t : Int) (w : Int)) (Z 7 0 15).toNat 0).toNat)) := rfl
      rw [this, cq3]
    rw [ec]
    refine Iff.trans ?_ ff_no.symm
    constructor
    · intro z s hs
      rw [decide_eq_false_iff_not]
      intro y
      by_cases c : ff (cpB (Z 46 0) (Z 47 0) (Z 48 0) G (hcF Z N p) (t : Int) (w : Int)) (Z 14 0 27).toNat 0 = -9
      · obtain ⟨i, i0, i1, i2⟩ := hpai.2 (s : Int) (by omega) (by omega) (by rw [Int.toNat_natCast]; exact y.1)
        have k := key i i0 i1
        rw [i2, Int.toNat_natCast] at k
        have := ff_no.mp c i.toNat (by omega)
        rw [k.mpr y] at this; cases this
      · rw [if_neg c] at z
        rcases ff_spec (cpB (Z 46 0) (Z 47 0) (Z 48 0) G (hcF Z N p) (t : Int) (w : Int)) (Z 14 0 27).toNat 0 with ⟨x1, _⟩ | ⟨b, x1, x2, x3, _⟩
        · exact c x1
        · rw [x1] at z
          have := (hpai.1 (b : Int) (by omega) (by omega)).1
          omega
    · intro z
      rw [if_pos (ff_no.mpr (fun k hk => ?_))]
      · omega
      · have k1 := key (k : Int) (by omega) (by omega)
        obtain ⟨y1, y2, _⟩ := hpai.1 (k : Int) (by omega) (by omega)
        have z1 := z ((Z 49 0 ((k : Int).toNat)).toNat) (by omega)
        rw [decide_eq_false_iff_not] at z1
        rw [Int.toNat_natCast] at k1 z1
        cases hz : cpB (Z 46 0) (Z 47 0) (Z 48 0) G (hcF Z N p) (t : Int) (w : Int) k with
        | false => rfl
        | true => exact absurd (k1.mp hz) z1
  clear key hPD pf
  rw [s_X5_lets, W1, ci_r, ite_b2]
  unfold ltB
  simp only [decide_eq_true_eq]
  by_cases c1 : wi p (t : Int) 64 (w : Int) = true
  · rw [if_pos c1, b2_0.mpr (fun z => by rw [c1] at z; cases z.1)]
  · have c1' : wi p (t : Int) 64 (w : Int) = false := by cases hz : wi p (t : Int) 64 (w : Int) with
      | false => rfl
      | true => exact absurd hz c1
    rw [if_neg c1, W2, ci_r, ite_b2]
    by_cases c2 : 0 ≤ Z 45 0 w ∧ Z 44 0 w ≤ inC (Z 21 0) p N (w : Int)
    · rw [if_pos c2, b2_0.mpr (fun z => z.2.1 (hc.mp c2))]
    · rw [if_neg c2, W3, ci_r]
      by_cases c3 : cpF (zS Z G (hcF Z N p) P (inF Z N p)) (t : Int) (w : Int) < 0
      · rw [if_pos c3, b2_1.mpr ⟨c1', fun z => c2 (hc.mpr z), hp3.mp c3⟩]
      · rw [if_neg c3, b2_0.mpr (fun z => c3 (hp3.mpr z.2.2))]
