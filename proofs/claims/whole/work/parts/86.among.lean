/-! among -/
theorem bt_sub (x y : Int) : lAnd x (lXor y (-1)) = 0 ↔ ∀ i, i < 64 → bt x i = true → bt y i = true := by
  rw [bt_eq0 (lAnd_c _ _)]
  constructor
  · intro h i hi hx
    have := h i hi
    rw [bt_and, bt_not _ hi, hx] at this
    simpa using this
  · intro h i hi
    rw [bt_and, bt_not _ hi]
    cases hx : bt x i with
    | false => rfl
    | true => rw [h i hi hx]; rfl
theorem bt_mask {n : Int} (h0 : 0 ≤ n) (h1 : n < 64) (i : Nat) : bt (w64 (lShl 1 n - 1)) i = decide (i < n.toNat) := by
  unfold bt lShl
  rw [ofInt_w64, Int.one_mul, Int.emod_eq_of_lt h0 h1]
  have e : BitVec.ofInt 64 (w64 (2 ^ n.toNat) - 1) = BitVec.ofNat 64 (2 ^ n.toNat - 1) := by
    apply BitVec.eq_of_toNat_eq
    rw [BitVec.toNat_ofInt, BitVec.toNat_ofNat]
    have hp : 0 < 2 ^ n.toNat := Nat.pow_pos (by omega)
    have hc : ((2 : Int) ^ n.toNat) = ((2 ^ n.toNat : Nat) : Int) := by norm_cast
    rw [hc]
    unfold w64
    generalize 2 ^ n.toNat = m at *
    omega
  rw [e, BitVec.getLsbD_ofNat, Nat.testBit_two_pow_sub_one]
  by_cases hi : i < n.toNat
  · simp [hi]; omega
  · simp [hi]
theorem y_all (d : Nat) (V : XM) (h0 : 0 ≤ (V 4 0 7)) (h1 : (V 4 0 7) ≤ 64) : ∃ x, Yf (d + 2) 91 [xr 4 0] V = some (xl x, V) ∧ ∀ i, i < 64 → bt x i = decide ((i : Int) < (V 4 0 7)) := by
  by_cases h : (V 4 0 7) < 64
  · refine ⟨_, by rw [s_X8_all, if_pos h, s_X11_bit, cl_r], fun i hi => ?_⟩
    rw [bt_mask h0 h]
    exact decide_eq_decide.mpr (by omega)
  · refine ⟨_, by rw [s_X8_all, if_neg h], fun i hi => ?_⟩
    rw [bt_m1 hi]
    exact (decide_eq_true (by omega)).symm
def hoN (B : Nat → Int) : Nat → Int
  | 0 => 0
  | n + 1 => if isH (B n) then lOr (hoN B n) (lShl 1 (n : Int)) else hoN B n
theorem hoN_bt (B : Nat → Int) : ∀ n : Nat, n ≤ 64 → ∀ i : Nat, i < 64 → (bt (hoN B n) i = true ↔ i < n ∧ isH (B i)) := by
  intro n
  induction n with
  | zero => intro _ i _; show bt 0 i = true ↔ _; rw [bt_0]; constructor; (intro h; cases h); (intro h; omega)
  | succ n ih =>
    intro hn i hi
    have := ih (by omega) i hi
    unfold hoN
    by_cases hb : isH (B n)
    · rw [if_pos hb, bt_or, bt_bit (by omega) (by omega), Bool.or_eq_true, this, decide_eq_true_eq]
      constructor
      · rintro (k | k)
        · exact ⟨by omega, k.2⟩
        · have : i = n := by omega
          subst this
          exact ⟨by omega, hb⟩
      · rintro ⟨k1, k2⟩
        by_cases e : i = n
        · right; omega
        · left; exact ⟨by omega, k2⟩
    · rw [if_neg hb, this]
      constructor
      · rintro ⟨k1, k2⟩; exact ⟨by omega, k2⟩
      · rintro ⟨k1, k2⟩
        by_cases e : i = n
        · subst e; exact absurd k2 hb
        · exact ⟨by omega, k2⟩
theorem y_holders (d : Nat) (V : XM) (h0 : 0 ≤ (V 4 0 7)) (h1 : (V 4 0 7) ≤ 64) : Yf (d + 3) 92 [xr 4 0] V = some (xl (hoN (V 21 0) (V 4 0 7).toNat), V) := by
  rw [s_X8_holders]
  refine loop_acc (F := fun c l => Xf (d + 2) 92 4 [xr 4 0, xl c, xr 0 0, xi l] [] V) (S := hoN (V 21 0)) (N := (V 4 0 7)) (fun l k0 k1 => ?_) ?_ (V 4 0 7).toNat 0 (by omega) (by omega) h0
  · show Xf (d + 2) 92 4 [xr 4 0, xl _, xr 0 0, xi l] [] V = Xf (d + 2) 92 4 [xr 4 0, xl (if isH (V 21 0 (l.toNat)) then lOr (hoN (V 21 0) l.toNat) (lShl 1 (l.toNat : Int)) else hoN (V 21 0) l.toNat), xr 0 0, xi (l + 1)] [] V
    rw [s_X8_holders_4, if_pos k1, y_cHolder _ V k0 (by omega), ci_r, ite_b2, w32_i (by omega) (by omega), show (l.toNat : Int) = l by omega]
    by_cases hb : isH (V 21 0 (l.toNat))
    · rw [if_pos hb, if_pos hb, s_X11_bit, cl_r]
    · rw [if_neg hb, if_neg hb]
  · show Xf (d + 2) 92 4 [xr 4 0, xl _, xr 0 0, xi (V 4 0 7)] [] V = _
    rw [s_X8_holders_4, if_neg (by omega)]
/-- the first bar of a thing into a set -/
def biB (V : XM) (t b : Int) (s : Nat) : Bool := decide ((V 85 0 s) = 1 ∧ (V 86 0 s) = t ∧ bt b (V 87 0 s).toNat = true)
theorem y_barInto (d : Nat) (V : XM) (h : Inv V) {t : Int} (b : Int) (h0 : 0 ≤ t) (h1 : t < (V 14 0 9)) : Yf (d + 2) 22 [xr 7 0, xi t, xl b] V = some (xi (ff (biB V t b) (V 14 0 22).toNat 0), V) := by
  obtain ⟨⟨ck1, ck2, ck3, cp1, cp2, cp3, ct1, ct2, ct3, cs1, cs2, cs3, cq1, cq2, cq3, cr1, cr2, cr3, cf1, cf2, cf3, cb1, cb2, cb3, cw1, cw2, cw3, clf, clc⟩, hkin, hpro, husu, hgiv, hthg, hhom, hput, hrin, hsen, hbar, hset, hmos, hpai, hrel, hmap, hdoo, hshe, htab, hwor⟩ := h
  clear ck1 ck2 ck3 cp1 cp2 cp3 cq1 cq2 cq3 cr1 cr2 cr3 cf1 cf2 cf3 cb1 cb2 cb3 cw1 cw2 cw3 clf clc
  rw [s_X1_earliestBarInto]
  refine loop_first (F := fun l => Xf (d + 1) 22 3 [xr 7 0, xi t, xl b, xr 0 0, xi l] [] V) cs1 (fun l k0 k1 => ?_)
  show Xf (d + 1) 22 3 [xr 7 0, xi t, xl b, xr 0 0, xi l] [] V = if _ then (if _ then _ else Xf (d + 1) 22 3 [xr 7 0, xi t, xl b, xr 0 0, xi (l + 1)] [] V) else _
  rw [s_X1_earliestBarInto_3, cs3]
  by_cases hl : l < (V 14 0 22)
  · obtain ⟨x1, x2, x3, _⟩ := hsen l k0 hl
    rw [if_pos hl, if_pos hl, if_pos (by omega), x1, x2, x3, w32_i (by omega) (by omega)]
    unfold biB
    simp only [decide_eq_true_eq, cmp3_eq]
    by_cases c1 : (V 85 0 (l.toNat)) = 1
    · obtain ⟨y1, y2, y3, y4⟩ := hbar.1 l k0 hl c1
      have bt' := bt_test b y3 (show (V 87 0 (l.toNat)) < 64 by omega)
      rw [if_pos c1, if_pos (by omega)]
      by_cases c2 : (V 86 0 (l.toNat)) = t
      · rw [if_pos c2, if_pos (by omega), s_X11_bit, cl_r]
        by_cases c3 : lAnd b (lShl 1 (V 87 0 (l.toNat))) = 0
        · rw [if_pos c3, if_neg (fun k => by have := k.2.2; rw [bt'.mp c3] at this; cases this)]
        · rw [if_neg c3, if_pos ⟨c1, c2, by cases hz : bt b (V 87 0 (l.toNat)).toNat with | true => rfl | false => exact absurd (bt'.mpr hz) c3⟩]
      · rw [if_neg c2, if_neg (fun k => c2 k.2.1)]
    · rw [if_neg c1, if_neg (fun k => c1 k.1)]
  · rw [if_neg hl, if_neg hl]
def hadF (V : XM) (t : Int) : Int := if (V 81 0 (t.toNat)) = 0 then -1 else (V 81 0 (t.toNat))
def agF (V : XM) (t b : Int) : Int := if 0 < (V 80 0 (t.toNat)) ∧ bt b (V 78 0 ((6 * t).toNat)).toNat = false then (V 79 0 ((6 * t).toNat)) else if (V 81 0 (t.toNat)) ≠ 0 ∧ lAnd b (V 81 0 (t.toNat)) = 0 then la (fun k => decide ((V 85 0 k) = 3 ∧ (V 86 0 k) = t)) (V 14 0 22).toNat else if lAnd b (lXor (V 40 0 (t.toNat)) (-1)) = 0 then ff (biB V t b) (V 14 0 22).toNat 0 else -9
theorem y_cAmong (d : Nat) (V : XM) (h : Inv V) {t : Int} (b : Int) (h0 : 0 ≤ t) (h1 : t < (V 14 0 9)) (h3 : (V 21 0 (t.toNat)) ≠ 3) : Yf (d + 4) 21 [xr 7 0, xi t, xl b] V = some (xi (agF V t b), V) := by
  have ho := h.ho
  have hhc := h.hc
  have hla := fun k => among_la h h0 h1 k
  have B := y_barInto (d + 1) V h b h0 h1
  obtain ⟨⟨ck1, ck2, ck3, cp1, cp2, cp3, ct1, ct2, ct3, cs1, cs2, cs3, cq1, cq2, cq3, cr1, cr2, cr3, cf1, cf2, cf3, cb1, cb2, cb3, cw1, cw2, cw3, clf, clc⟩, hkin, hpro, husu, hgiv, hthg, hhom, hput, hrin, hsen, hbar, hset, hmos, hpai, hrel, hmap, hdoo, hshe, htab, hwor⟩ := h
  obtain ⟨s1, s2, s3, _⟩ := hset t h0 h1
  have pa := (hput.1 t h0 h1).1 h3
  have e1 := y_laid (d + 2) V h0 (show t < 64 by omega)
  rw [(hhc t h0 h1).1] at e1
  have e2 := y_home0 (d + 1) V ho hhc h0 h1
  have hb := (ho.2 t h0 h1)
  clear ck1 ck2 ck3 cp1 cp2 cp3 cq1 cq2 cq3 cr1 cr2 cr3 cf1 cf2 cf3 cb1 cb2 cb3 cw1 cw2 cw3 clf clc
  rw [s_X1_againstAmong, e1, ci_r, ite_b2]
  simp only [cmp3_eq]
  unfold agF
  by_cases c1 : 0 < (V 80 0 (t.toNat))
  · have hb2 := hb.2 c1
    have bt' := bt_test b hb2.1 (show (V 78 0 ((6 * t).toNat)) < 64 by omega)
    rw [if_pos c1, e2, ci_r, if_neg (by omega), s_X11_bit, cl_r, pa c1]
    by_cases c2 : lAnd b (lShl 1 (V 78 0 ((6 * t).toNat))) = 0
    · rw [if_pos c2, if_pos (by omega), if_pos ⟨c1, bt'.mp c2⟩]
    · rw [if_neg c2, if_pos (by omega), if_neg (c := 0 < (V 80 0 (t.toNat)) ∧ bt b (V 78 0 ((6 * t).toNat)).toNat = false) (fun k => c2 (bt'.mpr k.2))]
      by_cases c3 : (V 81 0 (t.toNat)) = 0
      · rw [if_pos (by omega), if_neg (c := (V 81 0 (t.toNat)) ≠ 0 ∧ lAnd b (V 81 0 (t.toNat)) = 0) (fun k => k.1 c3), if_pos (by omega)]
        by_cases c4 : lAnd b (lXor (V 40 0 (t.toNat)) (-1)) = 0
        · rw [if_pos c4, if_pos c4, B, ci_r]
        · rw [if_neg c4, if_neg c4]
      · rw [if_neg (by omega), if_pos (by omega), s1]
        by_cases c5 : lAnd b (V 81 0 (t.toNat)) = 0
        · rw [if_pos c5, if_pos (by omega), if_pos (c := (V 81 0 (t.toNat)) ≠ 0 ∧ lAnd b (V 81 0 (t.toNat)) = 0) ⟨c3, c5⟩, hla c3]
        · rw [if_neg c5, if_pos (by omega), if_neg (c := (V 81 0 (t.toNat)) ≠ 0 ∧ lAnd b (V 81 0 (t.toNat)) = 0) (fun k => c5 k.2)]
          by_cases c4 : lAnd b (lXor (V 40 0 (t.toNat)) (-1)) = 0
          · rw [if_pos c4, if_pos c4, B, ci_r]
          · rw [if_neg c4, if_neg c4]
  · rw [if_neg c1, if_pos (by omega), if_neg (c := 0 < (V 80 0 (t.toNat)) ∧ bt b (V 78 0 ((6 * t).toNat)).toNat = false) (fun k => c1 k.1)]
    by_cases c3 : (V 81 0 (t.toNat)) = 0
    · rw [if_pos (by omega), if_neg (c := (V 81 0 (t.toNat)) ≠ 0 ∧ lAnd b (V 81 0 (t.toNat)) = 0) (fun k => k.1 c3), if_pos (by omega)]
      by_cases c4 : lAnd b (lXor (V 40 0 (t.toNat)) (-1)) = 0
      · rw [if_pos c4, if_pos c4, B, ci_r]
      · rw [if_neg c4, if_neg c4]
    · rw [if_neg (by omega), if_pos (by omega), s1]
      by_cases c5 : lAnd b (V 81 0 (t.toNat)) = 0
      · rw [if_pos c5, if_pos (by omega), if_pos (c := (V 81 0 (t.toNat)) ≠ 0 ∧ lAnd b (V 81 0 (t.toNat)) = 0) ⟨c3, c5⟩, hla c3]
      · rw [if_neg c5, if_pos (by omega), if_neg (c := (V 81 0 (t.toNat)) ≠ 0 ∧ lAnd b (V 81 0 (t.toNat)) = 0) (fun k => c5 k.2)]
        by_cases c4 : lAnd b (lXor (V 40 0 (t.toNat)) (-1)) = 0
        · rw [if_pos c4, if_pos c4, B, ci_r]
        · rw [if_neg c4, if_neg c4]
def leF (V : XM) (t b : Int) : Int := lAnd (lAnd b (hadF V t)) (lXor (V 40 0 (t.toNat)) (-1))
theorem leF_bt (V : XM) (t b : Int) {i : Nat} (hi : i < 64) : bt (leF V t b) i = (bt b i && bt (hadF V t) i && !bt (V 40 0 (t.toNat)) i) := by
  unfold leF
  rw [bt_and, bt_and, bt_not _ hi]
/-- the reference's way: bars from the last to the first -/
def lfN (V : XM) (t x : Int) : Nat → Nat → Int
  | 0, _ => x
  | m + 1, l => if (V 85 0 l) = 1 ∧ (V 86 0 l) = t then lAnd (lfN V t x m (l + 1)) (lXor (lShl 1 (V 87 0 l)) (-1)) else lfN V t x m (l + 1)
theorem lfN_c (V : XM) (t : Int) {x : Int} (hx : c64 x) : ∀ m l, c64 (lfN V t x m l) := by
  intro m
  induction m with
  | zero => intro l; exact hx
  | succ m ih =>
    intro l
    unfold lfN
    split
    · exact lAnd_c _ _
    · exact ih _
theorem lfN_bt {V : XM} {t x : Int} (h2 : ∀ s : Nat, (s : Int) < (V 14 0 22) → (V 85 0 s) = 1 → 0 ≤ (V 87 0 s) ∧ (V 87 0 s) < 64) {i : Nat} (hi : i < 64) : ∀ m l : Nat, ((l + m : Nat) : Int) ≤ (V 14 0 22) → (bt (lfN V t x m l) i = true ↔ bt x i = true ∧ ∀ s : Nat, l ≤ s → s < l + m → ¬ ((V 85 0 s) = 1 ∧ (V 86 0 s) = t ∧ (V 87 0 s) = i)) := by
  intro m
  induction m with
  | zero => intro l _; exact ⟨fun k => ⟨k, fun s h1 h2 => by omega⟩, fun k => k.1⟩
  | succ m ih =>
    intro l hm
    have I := ih (l + 1) (by omega)
    unfold lfN
    by_cases hc : (V 85 0 l) = 1 ∧ (V 86 0 l) = t
    · obtain ⟨y1, y2⟩ := h2 l (by omega) hc.1
      rw [if_pos hc, bt_and, bt_not _ hi, bt_bit y1 y2, Bool.and_eq_true, I]
      simp only [Bool.not_eq_true', decide_eq_false_iff_not]
      constructor
      · rintro ⟨⟨k1, k2⟩, k3⟩
        refine ⟨k1, fun s g1 g2 => ?_⟩
        by_cases e : s = l
        · subst e; intro g; exact k3 (by omega)
        · exact k2 s (by omega) (by omega)
      · rintro ⟨k1, k2⟩
        refine ⟨⟨k1, fun s g1 g2 => k2 s (by omega) (by omega)⟩, fun e => k2 l (by omega) (by omega) ⟨hc.1, hc.2, by omega⟩⟩
    · rw [if_neg hc, I]
      constructor
      · rintro ⟨k1, k2⟩
        refine ⟨k1, fun s g1 g2 => ?_⟩
        by_cases e : s = l
        · subst e; exact fun g => hc ⟨g.1, g.2.1⟩
        · exact k2 s (by omega) (by omega)
      · rintro ⟨k1, k2⟩
        exact ⟨k1, fun s g1 g2 => k2 s (by omega) (by omega)⟩
theorem x_r239 (d : Nat) (V : XM) (t b x : Int) (ht : 0 ≤ t ∧ t < 64) (h2 : ∀ s : Nat, (s : Int) < (V 14 0 22) → (V 85 0 s) = 1 → 0 ≤ (V 87 0 s) ∧ (V 87 0 s) < 64) (cs2 : (V 14 0 22) < 300) : ∀ k : Nat, (k : Int) ≤ (V 14 0 22) → Xf (d + 2) 240 239 [xr 14 0, xi t, xl b, xr 0 0, xr 0 0, xr 0 0, xl (lfN V t x ((V 14 0 22).toNat - k) k), xr 0 0, xi (ff (biB V t b) ((V 14 0 22).toNat - k) k), xi ((k : Int) - 1)] [] V = if lfN V t x (V 14 0 22).toNat 0 = 0 then some (xi (w32 (-100 - ff (biB V t b) (V 14 0 22).toNat 0)), V) else some (xi (V 14 0 22), rTell (xu V 81 0 t.toNat (lfN V t x (V 14 0 22).toNat 0)) (V 14 0 22) 3 t (w32 b) 0) := by
  intro k
  induction k with
  | zero =>
    intro hk
    rw [s_X12_among_239, if_pos (by omega), Nat.sub_zero]
    simp only [cmp3_eq]
    by_cases hz : lfN V t x (V 14 0 22).toNat 0 = 0
    · rw [if_pos hz, if_pos hz, s_X12_against, ci_r]
    · rw [if_neg hz, if_neg hz, if_pos ht, y_tell _ _ _ _ _ _ (n := (V 14 0 22)) (by rfl) (by omega) cs2, ci_r]
  | succ k ih =>
    intro hk
    have ih := ih (by omega)
    have e1 : (V 14 0 22).toNat - k = ((V 14 0 22).toNat - (k + 1)) + 1 := by omega
    rw [← ih, e1]
    have el : lfN V t x (((V 14 0 22).toNat - (k + 1)) + 1) k = if (V 85 0 k) = 1 ∧ (V 86 0 k) = t then lAnd (lfN V t x ((V 14 0 22).toNat - (k + 1)) (k + 1)) (lXor (lShl 1 (V 87 0 k)) (-1)) else lfN V t x ((V 14 0 22).toNat - (k + 1)) (k + 1) := rfl
    have ef : ff (biB V t b) (((V 14 0 22).toNat - (k + 1)) + 1) k = if biB V t b k = true then (k : Int) else ff (biB V t b) ((V 14 0 22).toNat - (k + 1)) (k + 1) := rfl
    rw [el, ef, s_X12_among_239, if_neg (by omega), if_pos (by omega), show (((k + 1 : Nat) : Int) - 1).toNat = k by omega]
    unfold biB
    simp only [decide_eq_true_eq, cmp3_eq]
    generalize ff _ ((V 14 0 22).toNat - (k + 1)) (k + 1) = fv
    generalize lfN V t x ((V 14 0 22).toNat - (k + 1)) (k + 1) = lv
    have ew : w32 (((k + 1 : Nat) : Int) - 1 + -1) = (k : Int) - 1 := by rw [w32_i (by omega) (by omega)]; omega
    rw [ew]
    by_cases c1 : (V 85 0 k) = 1
    · obtain ⟨y1, y2⟩ := h2 k (by omega) c1
      rw [if_pos c1, if_pos (by omega)]
      by_cases c2 : (V 86 0 k) = t
      · rw [if_pos c2, if_pos (by omega), if_pos (c := (V 85 0 k) = 1 ∧ (V 86 0 k) = t) ⟨c1, c2⟩, bt_rtest b y1 y2]
        by_cases c3 : bt b (V 87 0 k).toNat = true
        · rw [if_pos c3, if_pos rfl, if_pos (by omega), if_pos ⟨c1, c2, c3⟩, show ((k + 1 : Nat) : Int) - 1 = (k : Int) by omega]
        · rw [if_neg c3, if_neg (by omega), if_pos (by omega), if_neg (fun g => c3 g.2.2)]
      · rw [if_neg c2, if_neg (fun g => c2 g.2), if_neg (fun g => c2 g.2.1)]
    · rw [if_neg c1, if_neg (fun g => c1 g.1), if_neg (fun g => c1 g.1)]
