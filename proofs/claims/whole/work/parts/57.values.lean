/-! values -/
def toldF (l v : Int) : Int := if l = 0 then (if v = 0 then 0 else 1) else if l = 1 then w8 (w32 v) else if l = 2 then w16 (w32 v) else if l = 3 then c16 (w32 v) else if l = 4 then w32 v else if l = 6 then fF2L (fL2F v) else if l = 7 then fD2L (fL2D v) else v
theorem y_told (d : Nat) (V : XM) (l v : Int) : Yf (d + 1) 187 [xi l, xl v] V = some (xl (toldF l v), V) := by
  rw [s_X11_toldBy]
  simp only [cmp3_eq]
  unfold toldF
  (repeat' (first | rfl | rw [ci_r] | rw [cl_r] | rw [cv_r] | rw [ite_b2] | rw [ite_b21] | rw [if_pos (by omega)] | rw [if_neg (by omega)] | rw [y_kindsHas] | rw [y_isKind _ _ _ (by omega)] | rw [y_valHas] | rw [y_isProp _ _ _ (by omega)] | rw [y_thgHas] | rw [y_isThing _ _ _ (by omega)] | rw [y_inRange] | rw [y_in] | rw [s_X11_faulted] | rw [s_X12_faulty] | rw [s_X11_against] | rw [s_X12_against] | simp (disch := omega) only [w32_i, Int.add_sub_cancel, mc64, mc24, mc6, mc8, mc5] | fail | split))
theorem lAnd_c16 (v : Int) : lAnd v 65535 = c16 (w32 v) := by
  unfold lAnd c16 w32
  have e : ((Int64.ofInt v &&& Int64.ofInt 65535).toBitVec).toInt = v % 65536 := by
    rw [Int64.toBitVec_and, Int64.toBitVec_ofInt, Int64.toBitVec_ofInt]
    have h1 : (BitVec.ofInt 64 v &&& BitVec.ofInt 64 65535).toNat = (v % 65536).toNat := by
      rw [BitVec.toNat_and, BitVec.toNat_ofInt, BitVec.toNat_ofInt]
      have h2 : ((65535 : Int) % ((2 ^ 64 : Nat) : Int)).toNat = 2 ^ 16 - 1 := by decide
      rw [h2, Nat.and_two_pow_sub_one_eq_mod]
      omega
    rw [BitVec.toInt_eq_toNat_of_lt (by rw [h1]; omega), h1]
    omega
  show ((Int64.ofInt v &&& Int64.ofInt 65535).toBitVec).toInt = _
  rw [e]
  omega
theorem y_cell (d : Nat) (V : XM) (l v : Int) : Yf (d + 1) 199 [xi l, xl v] V = some (xl (toldF l v), V) := by
  rw [s_X12_cell]
  simp only [cmp3_eq, lAnd_c16]
  unfold toldF
  (repeat' (first | rfl | rw [ci_r] | rw [cl_r] | rw [cv_r] | rw [ite_b2] | rw [ite_b21] | rw [if_pos (by omega)] | rw [if_neg (by omega)] | rw [y_kindsHas] | rw [y_isKind _ _ _ (by omega)] | rw [y_valHas] | rw [y_isProp _ _ _ (by omega)] | rw [y_thgHas] | rw [y_isThing _ _ _ (by omega)] | rw [y_inRange] | rw [y_in] | rw [s_X11_faulted] | rw [s_X12_faulty] | rw [s_X11_against] | rw [s_X12_against] | simp (disch := omega) only [w32_i, Int.add_sub_cancel, mc64, mc24, mc6, mc8, mc5] | fail | split))
theorem toldF_8 {l : Int} (v : Int) (h : l = 8) : toldF l v = v := by
  subst h; rfl
def vuN (isU us p : Nat → Int) (q e : Int) : Nat → Int → Int
  | 0, k => if isU (12 * k + q).toNat = 0 then e else us (12 * k + q).toNat
  | n + 1, k => if isU (12 * k + q).toNat = 0 then (if k = 0 then e else vuN isU us p q e n (p k.toNat)) else us (12 * k + q).toNat
theorem x_rval (d : Nat) (V : XM) {N q : Int} (hp : KD (V 67 0) N) (h2 : 0 ≤ q) (h3 : q < 12) : ∀ (n : Nat) (k : Int), k.toNat ≤ n → 0 ≤ k → k < N → Xf d 224 33 [xr 14 0, xr 0 0, xi q, xr 0 0, xi k] [] V =
    some (xl (vuN (V 71 0) (V 72 0) (V 67 0) q (if (V 69 0 (q.toNat)) = 8 then -9 else 0) n k), V) := by
  intro n
  have h24 := hp.1
  induction n with
  | zero =>
    intro k hn h0 hN
    have e : w32 (w32 (12 * k) + q) = 12 * k + q := by rw [w32_add, w32_i (by omega) (by omega)]
    rw [s_X12_valueOf_33, if_pos (by omega), e]
    unfold vuN
    by_cases hu : (V 71 0 ((12 * k + q).toNat)) = 0
    · (repeat' (first | rfl | rw [ci_r] | rw [cl_r] | rw [cv_r] | rw [ite_b2] | rw [ite_b21] | rw [if_pos (by omega)] | rw [if_neg (by omega)] | rw [y_kindsHas] | rw [y_isKind _ _ _ (by omega)] | rw [y_valHas] | rw [y_isProp _ _ _ (by omega)] | rw [y_thgHas] | rw [y_isThing _ _ _ (by omega)] | rw [y_inRange] | rw [y_in] | rw [s_X11_faulted] | rw [s_X12_faulty] | rw [s_X11_against] | rw [s_X12_against] | simp (disch := omega) only [w32_i, Int.add_sub_cancel, mc64, mc24, mc6, mc8, mc5] | fail | split))
    · (repeat' (first | rfl | rw [ci_r] | rw [cl_r] | rw [cv_r] | rw [ite_b2] | rw [ite_b21] | rw [if_pos (by omega)] | rw [if_neg (by omega)] | rw [y_kindsHas] | rw [y_isKind _ _ _ (by omega)] | rw [y_valHas] | rw [y_isProp _ _ _ (by omega)] | rw [y_thgHas] | rw [y_isThing _ _ _ (by omega)] | rw [y_inRange] | rw [y_in] | rw [s_X11_faulted] | rw [s_X12_faulty] | rw [s_X11_against] | rw [s_X12_against] | simp (disch := omega) only [w32_i, Int.add_sub_cancel, mc64, mc24, mc6, mc8, mc5] | fail | split))
  | succ n ih =>
    intro k hn h0 hN
    have e : w32 (w32 (12 * k) + q) = 12 * k + q := by rw [w32_add, w32_i (by omega) (by omega)]
    rw [s_X12_valueOf_33, e]
    unfold vuN
    by_cases hk : k = 0
    · rw [if_pos hk]
      by_cases hu : (V 71 0 ((12 * k + q).toNat)) = 0
      · (repeat' (first | rfl | rw [ci_r] | rw [cl_r] | rw [cv_r] | rw [ite_b2] | rw [ite_b21] | rw [if_pos (by omega)] | rw [if_neg (by omega)] | rw [y_kindsHas] | rw [y_isKind _ _ _ (by omega)] | rw [y_valHas] | rw [y_isProp _ _ _ (by omega)] | rw [y_thgHas] | rw [y_isThing _ _ _ (by omega)] | rw [y_inRange] | rw [y_in] | rw [s_X11_faulted] | rw [s_X12_faulty] | rw [s_X11_against] | rw [s_X12_against] | simp (disch := omega) only [w32_i, Int.add_sub_cancel, mc64, mc24, mc6, mc8, mc5] | fail | split))
      · (repeat' (first | rfl | rw [ci_r] | rw [cl_r] | rw [cv_r] | rw [ite_b2] | rw [ite_b21] | rw [if_pos (by omega)] | rw [if_neg (by omega)] | rw [y_kindsHas] | rw [y_isKind _ _ _ (by omega)] | rw [y_valHas] | rw [y_isProp _ _ _ (by omega)] | rw [y_thgHas] | rw [y_isThing _ _ _ (by omega)] | rw [y_inRange] | rw [y_in] | rw [s_X11_faulted] | rw [s_X12_faulty] | rw [s_X11_against] | rw [s_X12_against] | simp (disch := omega) only [w32_i, Int.add_sub_cancel, mc64, mc24, mc6, mc8, mc5] | fail | split))
    · rw [if_neg hk, if_pos (by omega)]
      by_cases hu : (V 71 0 ((12 * k + q).toNat)) = 0
      · have := hp.at (k := k) (by omega) hN
        rw [if_pos hu, if_pos hu, if_neg hk, if_pos (by omega)]
        exact ih _ (by omega) (by omega) (by omega)
      · rw [if_neg hu, if_neg hu, if_pos (by omega), if_neg hu, if_pos (by omega)]
theorem x_cval (d : Nat) (V : XM) (h : Inv V) {q : Int} (h2 : 0 ≤ q) (h3 : q < (V 14 0 3)) : ∀ (n : Nat) (k s : Int), k.toNat ≤ n → 0 ≤ k → k < (V 14 0 1) → 0 ≤ s → s + k ≤ 23 → Xf (d + 1) 115 29 [xr 5 0, xr 0 0, xi q, xi k, xi s] [] V =
    some (xl (vuN (V 71 0) (V 72 0) (V 67 0) q (if (V 69 0 (q.toNat)) = 8 then -9 else 0) n k), V) := by
  obtain ⟨⟨ck1, ck2, ck3, cp1, cp2, cp3, ct1, ct2, ct3, cs1, cs2, cs3, cq1, cq2, cq3, cr1, cr2, cr3, cf1, cf2, cf3, cb1, cb2, cb3, cw1, cw2, cw3, clf, clc⟩, hkin, hpro, husu, hgiv, hthg, hhom, hput, hrin, hsen, hbar, hset, hmos, hpai, hrel, hmap, hdoo, hshe, htab, hwor⟩ := h
  intro n
  have h24 := hkin.1.1
  have hl := (hpro q h2 h3).2.2.2.1
  induction n with
  | zero =>
    intro k s hn h0 hN hs hsk
    have hk : k = 0 := by omega
    have e : w32 (w32 (q * 24) + k) = 24 * q + k := by rw [w32_add, w32_i (by omega) (by omega)]; omega
    obtain ⟨u1, u2⟩ := husu.1 q k h2 h3 h0 (by omega)
    rw [s_X9_valueOf_29, if_neg (by omega), if_pos (by omega), e, if_pos (by omega), u1]
    unfold vuN
    by_cases hu : (V 71 0 ((12 * k + q).toNat)) = 0
    · rw [if_pos hu, if_pos hu, if_pos (by omega), s_X9_valueOf_29, show k.toNat = 0 by omega, hkin.2.2, if_pos (by omega), y_empty _ _ h2 (by omega), cl_r, hl]
    · rw [if_neg hu, if_neg hu, if_pos (by omega), (u2 hu).1]
  | succ n ih =>
    intro k s hn h0 hN hs hsk
    have e : w32 (w32 (q * 24) + k) = 24 * q + k := by rw [w32_add, w32_i (by omega) (by omega)]; omega
    obtain ⟨u1, u2⟩ := husu.1 q k h2 h3 h0 (by omega)
    rw [s_X9_valueOf_29, if_neg (by omega), if_pos (by omega), e, if_pos (by omega), u1]
    unfold vuN
    by_cases hu : (V 71 0 ((12 * k + q).toNat)) = 0
    · rw [if_pos hu, if_pos hu, if_pos (by omega)]
      by_cases hk : k = 0
      · rw [s_X9_valueOf_29, show k.toNat = 0 by omega, hkin.2.2, if_pos (by omega), y_empty _ _ h2 (by omega), cl_r, hl, if_pos hk]
      · have := hkin.1.at (k := k) (by omega) hN
        rw [if_neg hk, hkin.2.1 k.toNat (by omega) (by omega), w32_i (by omega) (by omega)]
        exact ih _ _ (by omega) (by omega) (by omega) (by omega) (by omega)
    · rw [if_neg hu, if_neg hu, if_pos (by omega), (u2 hu).1]
def valueF (V : XM) (t q : Int) : Int := if (V 83 0 ((64 * q + t).toNat)) = -9 then vuN (V 71 0) (V 72 0) (V 67 0) q (if (V 69 0 (q.toNat)) = 8 then -9 else 0) 24 (V 73 0 (t.toNat)) else (V 84 0 ((64 * q + t).toNat))
theorem y_rval (d : Nat) (V : XM) {B : Nat → Int} (h : RB V B) {t q : Int} (h0 : 0 ≤ t) (h1 : t < (V 14 0 9)) (h2 : 0 ≤ q) (h3 : q < 12) : Yf (d + 1) 224 [xr 14 0, xi t, xi q] V = some (xl (valueF V t q), V) := by
  obtain ⟨hp, h4, h5, h6⟩ := h
  obtain ⟨a1, a2, _⟩ := h6 t h0 h1
  have h24 := hp.1
  have e : w32 (w32 (64 * q) + t) = 64 * q + t := by rw [w32_add, w32_i (by omega) (by omega)]
  rw [s_X12_valueOf, e, if_pos (by omega)]
  unfold valueF
  by_cases hg : (V 83 0 ((64 * q + t).toNat)) = -9
  · rw [if_pos hg, if_pos (by omega), if_pos hg]
    exact x_rval d V hp h2 h3 24 _ (by omega) a1 a2
  · rw [if_neg hg, if_pos (by omega), if_neg hg]
theorem y_givenBy (d : Nat) (V : XM) {t q : Int} (h0 : 0 ≤ t) (h1 : t < 64) (h2 : 0 ≤ q) (h3 : q < 12) : Yf (d + 1) 112 [xr 5 0, xi t, xi q] V = some (xi (V 32 0 ((64 * q + t).toNat)), V) := by
  have e : w32 (w32 (q * 64) + t) = 64 * q + t := by rw [w32_add, w32_i (by omega) (by omega)]; omega
  rw [s_X9_givenBy, e, if_pos (by omega)]
theorem y_givenCell (d : Nat) (V : XM) {t q : Int} (h0 : 0 ≤ t) (h1 : t < 64) (h2 : 0 ≤ q) (h3 : q < 12) : Yf (d + 1) 113 [xr 5 0, xi t, xi q] V = some (xl (V 31 0 ((64 * q + t).toNat)), V) := by
  have e : w32 (w32 (q * 64) + t) = 64 * q + t := by rw [w32_add, w32_i (by omega) (by omega)]; omega
  rw [s_X9_givenCell, e, if_pos (by omega)]
theorem y_cval (d : Nat) (V : XM) (h : Inv V) {t q : Int} (h0 : 0 ≤ t) (h1 : t < (V 14 0 9)) (h2 : 0 ≤ q) (h3 : q < (V 14 0 3)) : Yf (d + 3) 115 [xr 5 0, xi t, xi q] V = some (xl (valueF V t q), V) := by
  have h' := h
  obtain ⟨⟨ck1, ck2, ck3, cp1, cp2, cp3, ct1, ct2, ct3, cs1, cs2, cs3, cq1, cq2, cq3, cr1, cr2, cr3, cf1, cf2, cf3, cb1, cb2, cb3, cw1, cw2, cw3, clf, clc⟩, hkin, hpro, husu, hgiv, hthg, hhom, hput, hrin, hsen, hbar, hset, hmos, hpai, hrel, hmap, hdoo, hshe, htab, hwor⟩ := h'
  obtain ⟨g1, g2, g3, g4⟩ := hgiv q t h2 h3 h0 (by omega)
  obtain ⟨t1, t2, t3, _⟩ := hthg t h0 h1
  rw [s_X9_valueOf, y_givenBy _ _ h0 (by omega) h2 (by omega), ci_r, g1]
  unfold valueF
  by_cases hg : (V 83 0 ((64 * q + t).toNat)) = -9
  · rw [if_pos (by omega), if_pos hg, if_pos (by omega), t1]
    exact x_cval (d + 1) V h h2 h3 24 _ 0 (by omega) t2 t3 (by omega) (by omega)
  · rw [if_neg (by omega), if_neg hg, y_givenCell _ _ h0 (by omega) h2 (by omega), cl_r, (g4 hg).1]
theorem vuN_8 {V : XM} (h : Inv V) {q : Int} (h2 : 0 ≤ q) (h3 : q < (V 14 0 3)) (h8 : (V 69 0 (q.toNat)) = 8) : ∀ (n : Nat) (k : Int), k.toNat ≤ n → 0 ≤ k → k < (V 14 0 1) →
    (vuN (V 71 0) (V 72 0) (V 67 0) q (-9) n k = -9 ∨ (0 ≤ vuN (V 71 0) (V 72 0) (V 67 0) q (-9) n k ∧ vuN (V 71 0) (V 72 0) (V 67 0) q (-9) n k < (V 14 0 9))) := by
  obtain ⟨⟨ck1, ck2, ck3, cp1, cp2, cp3, ct1, ct2, ct3, cs1, cs2, cs3, cq1, cq2, cq3, cr1, cr2, cr3, cf1, cf2, cf3, cb1, cb2, cb3, cw1, cw2, cw3, clf, clc⟩, hkin, hpro, husu, hgiv, hthg, hhom, hput, hrin, hsen, hbar, hset, hmos, hpai, hrel, hmap, hdoo, hshe, htab, hwor⟩ := h
  intro n
  induction n with
  | zero =>
    intro k hn h0 hN
    obtain ⟨u1, u2⟩ := husu.1 q k h2 h3 h0 (by omega)
    unfold vuN
    by_cases hu : (V 71 0 ((12 * k + q).toNat)) = 0
    · rw [if_pos hu]; exact .inl rfl
    · rw [if_neg hu]; exact (u2 hu).2 h8
  | succ n ih =>
    intro k hn h0 hN
    obtain ⟨u1, u2⟩ := husu.1 q k h2 h3 h0 (by omega)
    unfold vuN
    by_cases hu : (V 71 0 ((12 * k + q).toNat)) = 0
    · rw [if_pos hu]
      by_cases hk : k = 0
      · rw [if_pos hk]; exact .inl rfl
      · rw [if_neg hk]
        have := hkin.1.at (k := k) (by omega) hN
        exact ih _ (by omega) (by omega) (by omega)
    · rw [if_neg hu]; exact (u2 hu).2 h8
theorem valueF_8 {V : XM} (h : Inv V) {t q : Int} (h0 : 0 ≤ t) (h1 : t < (V 14 0 9)) (h2 : 0 ≤ q) (h3 : q < (V 14 0 3)) (h8 : (V 69 0 (q.toNat)) = 8) : valueF V t q = -9 ∨ (0 ≤ valueF V t q ∧ valueF V t q < (V 14 0 9)) := by
  have h' := h
  obtain ⟨⟨ck1, ck2, ck3, cp1, cp2, cp3, ct1, ct2, ct3, cs1, cs2, cs3, cq1, cq2, cq3, cr1, cr2, cr3, cf1, cf2, cf3, cb1, cb2, cb3, cw1, cw2, cw3, clf, clc⟩, hkin, hpro, husu, hgiv, hthg, hhom, hput, hrin, hsen, hbar, hset, hmos, hpai, hrel, hmap, hdoo, hshe, htab, hwor⟩ := h'
  obtain ⟨g1, g2, g3, g4⟩ := hgiv q t h2 h3 h0 (by omega)
  obtain ⟨t1, t2, t3, _⟩ := hthg t h0 h1
  unfold valueF
  by_cases hg : (V 83 0 ((64 * q + t).toNat)) = -9
  · rw [if_pos hg, if_pos h8]
    exact vuN_8 h h2 h3 h8 24 _ (by omega) t2 t3
  · rw [if_neg hg]; exact (g4 hg).2 h8
