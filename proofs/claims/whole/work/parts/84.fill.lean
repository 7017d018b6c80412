/-! fill -/
theorem toldF_c {l v : Int} (hv : c64 v) : c64 (toldF l v) := by
  unfold toldF
  unfold c64 at *
  have h8 := w8_c (w32 v)
  have h16 := w16_c (w32 v)
  have h32 := w32_c v
  have hc := c16_c (w32 v)
  have hf := fF2L_c (fL2F v)
  have hd := fD2L_c (fL2D v)
  unfold c32 at h8 h16 h32 hc
  unfold c64 at hf hd
  (repeat' split) <;> omega
def reF (l v : Int) : Int := if l = 6 then fF2D (fL2F v) else if l = 7 then fL2D v else 0
def cFill (V : XM) (a i x : Int) : XM := xu (xu V 63 a.toNat i.toNat x) 64 a.toNat i.toNat 1
def rFill (V : XM) (e x r : Int) : XM := xu (xu (xu V 106 0 e.toNat 0) 107 0 e.toNat x) 108 0 e.toNat r
theorem Inv.fill {V : XM} (h : Inv V) {a b c v : Int} (hv : c64 v) (h1 : 0 ≤ a) (h2 : a < (V 14 0 45)) (h3 : 0 ≤ b ∧ b < (V 103 0 (a.toNat))) (h4 : 0 ≤ c ∧ c < (V 104 0 (a.toNat))) : Inv (rFill (cFill V a (5 * b + c) (toldF (V 105 0 ((5 * a + c).toNat)) v)) (80 * a + 5 * b + c) (toldF (V 105 0 ((5 * a + c).toNat)) v) (reF (V 105 0 ((5 * a + c).toNat)) v)) := by
  obtain ⟨⟨ck1, ck2, ck3, cp1, cp2, cp3, ct1, ct2, ct3, cs1, cs2, cs3, cq1, cq2, cq3, cr1, cr2, cr3, cf1, cf2, cf3, cb1, cb2, cb3, cw1, cw2, cw3, clf, clc⟩, hkin, hpro, husu, hgiv, hthg, hhom, hput, hrin, hsen, hbar, hset, hmos, hpai, hrel, hmap, hdoo, hshe, htab, hwor⟩ := h
  obtain ⟨y1, y2, y3, y4, y5, y6, y7⟩ := htab a h1 h2
  have hreal : 6 ≤ (V 105 0 ((5 * a + c).toNat)) → isReal (V 105 0 ((5 * a + c).toNat)) (toldF (V 105 0 ((5 * a + c).toNat)) v) (reF (V 105 0 ((5 * a + c).toNat)) v) := fun k => by
    have k7 := (y7 c h4.1 h4.2).2.2.1
    refine ⟨v, hv, ?_⟩
    have : (V 105 0 ((5 * a + c).toNat)) = 6 ∨ (V 105 0 ((5 * a + c).toNat)) = 7 := by omega
    rcases this with e | e
    · exact .inl ⟨e, by rw [e]; rfl, by rw [e]; rfl⟩
    · exact .inr ⟨e, by rw [e]; rfl, by rw [e]; rfl⟩
  have hxc := toldF_c (l := (V 105 0 ((5 * a + c).toNat))) hv
  generalize toldF (V 105 0 ((5 * a + c).toNat)) v = x at *
  generalize reF (V 105 0 ((5 * a + c).toNat)) v = r at *
  refine ⟨⟨ck1, ck2, ck3, cp1, cp2, cp3, ct1, ct2, ct3, cs1, cs2, cs3, cq1, cq2, cq3, cr1, cr2, cr3, cf1, cf2, cf3, cb1, cb2, cb3, cw1, cw2, cw3, clf, clc⟩, hkin, hpro, husu, hgiv, hthg, hhom, hput, hrin, hsen, hbar, hset, hmos, hpai, hrel, hmap, hdoo, hshe, ?_, hwor⟩
  clear ck1 ck2 ck3 cp1 cp2 cp3 cq1 cq2 cq3 cr1 cr2 cr3 cf1 cf2 cf3 cw1 cw2 cw3 clf clc cs1 cs2 cs3
  intro t g1 g2
  have g2' : t < (V 14 0 45) := g2
  obtain ⟨u1, u2, u3, u4, u5, u6, u7⟩ := htab t g1 g2
  refine ⟨u1, u2, u3, u4, u5, u6, fun c' k1 k2 => ?_⟩
  have k2' : c' < (V 104 0 (t.toNat)) := k2
  obtain ⟨w1, w2, w3, w4⟩ := u7 c' k1 k2
  refine ⟨w1, w2, w3, fun r' k3 k4 => ?_⟩
  have k4' : r' < (V 103 0 (t.toNat)) := k4
  have z := w4 r' k3 k4
  have e106 : (rFill (cFill V a (5 * b + c) x) (80 * a + 5 * b + c) x r) 106 0 = zup (V 106 0) (80 * a + 5 * b + c).toNat 0 := xu_rw V 106 0 _ _
  have e107 : (rFill (cFill V a (5 * b + c) x) (80 * a + 5 * b + c) x r) 107 0 = zup (V 107 0) (80 * a + 5 * b + c).toNat x := xu_rw V 107 0 _ _
  have e108 : (rFill (cFill V a (5 * b + c) x) (80 * a + 5 * b + c) x r) 108 0 = zup (V 108 0) (80 * a + 5 * b + c).toNat r := xu_rw V 108 0 _ _
  have e105 : (rFill (cFill V a (5 * b + c) x) (80 * a + 5 * b + c) x r) 105 0 = V 105 0 := rfl
  have e64 : ∀ p j : Nat, (rFill (cFill V a (5 * b + c) x) (80 * a + 5 * b + c) x r) 64 p j = (xu V 64 a.toNat (5 * b + c).toNat 1) 64 p j := fun p j => rfl
  have e63 : ∀ p j : Nat, (rFill (cFill V a (5 * b + c) x) (80 * a + 5 * b + c) x r) 63 p j = (xu V 63 a.toNat (5 * b + c).toNat x) 63 p j := fun p j => rfl
  rw [e106, e107, e108, e105, e64, e63, xu_e, xu_e]
  by_cases hh : t = a ∧ r' = b ∧ c' = c
  · obtain ⟨rfl, rfl, rfl⟩ := hh
    rw [zup_eq, zup_eq, zup_eq, if_pos (by omega), if_pos (by omega)]
    exact ⟨.inl rfl, rfl, fun _ => ⟨rfl, hxc, hreal⟩⟩
  · have n1 : (80 * t + 5 * r' + c').toNat ≠ (80 * a + 5 * b + c).toNat := by omega
    rw [zup_ne n1, zup_ne n1, zup_ne n1, if_neg (by omega), if_neg (by omega)]
    exact z
theorem c_fill (d : Nat) (V : XM) (h : Inv V) (a b c e : Int) : Yf (d + 30) 169 [xr 2 0, xi a, xi b, xi c, xl e] V = if ¬ (0 ≤ a ∧ a < (V 14 0 45)) then some (xi (-1), V) else if ¬ ((0 ≤ b ∧ b < (V 103 0 (a.toNat))) ∧ (0 ≤ c ∧ c < (V 104 0 (a.toNat)))) then some (xi (-12), xu V 2 0 15 2) else some (xi 1, cFill V a (5 * b + c) (toldF (V 105 0 ((5 * a + c).toNat)) e)) := by
  obtain ⟨⟨ck1, ck2, ck3, cp1, cp2, cp3, ct1, ct2, ct3, cs1, cs2, cs3, cq1, cq2, cq3, cr1, cr2, cr3, cf1, cf2, cf3, cb1, cb2, cb3, cw1, cw2, cw3, clf, clc⟩, hkin, hpro, husu, hgiv, hthg, hhom, hput, hrin, hsen, hbar, hset, hmos, hpai, hrel, hmap, hdoo, hshe, htab, hwor⟩ := h
  rw [s_X11_fill, y_inRange, ci_r, ite_b2]
  by_cases i1 : 0 ≤ a ∧ a < (V 14 0 45)
  · rw [if_pos (by omega), if_neg (c := ¬ (0 ≤ a ∧ a < (V 14 0 45))) (fun k => k i1), if_pos (by omega), y_hasCell, ci_r, ite_b2]
    obtain ⟨y1, y2, y3, y4, y5, y6, y7⟩ := htab a i1.1 i1.2
    rw [y1, y4]
    by_cases i2 : (0 ≤ b ∧ b < (V 103 0 (a.toNat))) ∧ (0 ≤ c ∧ c < (V 104 0 (a.toNat)))
    · have w1 := (y7 c i2.2.1 i2.2.2).1
      have e1 : w32 (w32 (b * 5) + c) = 5 * b + c := by rw [w32_add, w32_i (by omega) (by omega)]; omega
      rw [if_pos i2, if_neg (c := ¬ ((0 ≤ b ∧ b < (V 103 0 (a.toNat))) ∧ (0 ≤ c ∧ c < (V 104 0 (a.toNat))))) (fun k => k i2), if_pos (by omega), s_X7_write, if_pos (by omega), y_told, cl_r, e1, if_pos (by omega), if_pos (by omega), cv_r, w1]
      rfl
    · rw [if_neg i2, if_pos (c := ¬ ((0 ≤ b ∧ b < (V 103 0 (a.toNat))) ∧ (0 ≤ c ∧ c < (V 104 0 (a.toNat))))) i2, s_X11_faulted, ci_r]
      rfl
  · rw [if_neg (by omega), if_pos (c := ¬ (0 ≤ a ∧ a < (V 14 0 45))) i1]
theorem r_fill (d : Nat) (V : XM) (a b c e : Int) (ht : TD V) : Yf (d + 30) 290 [xr 14 0, xi a, xi b, xi c, xl e] V = if ¬ (0 ≤ a ∧ a < (V 14 0 45)) then some (xi (-1), V) else if ¬ ((0 ≤ b ∧ b < (V 103 0 (a.toNat))) ∧ (0 ≤ c ∧ c < (V 104 0 (a.toNat)))) then some (xi (-12), xu V 14 0 0 2) else some (xi 1, rFill V (80 * a + 5 * b + c) (toldF (V 105 0 ((5 * a + c).toNat)) e) (reF (V 105 0 ((5 * a + c).toNat)) e)) := by
  obtain ⟨t1, t2, t3⟩ := ht
  rw [s_X12_fill, y_isTable _ V _ (by omega), ci_r, ite_b2]
  by_cases i1 : 0 ≤ a ∧ a < (V 14 0 45)
  · have t3 := t3 a i1.1 i1.2
    rw [if_pos i1, if_neg (c := ¬ (0 ≤ a ∧ a < (V 14 0 45))) (fun k => k i1), y_isCell _ V _ _ (by omega) (by omega) (by omega), ci_r, ite_b2]
    by_cases i2 : (0 ≤ b ∧ b < (V 103 0 (a.toNat))) ∧ (0 ≤ c ∧ c < (V 104 0 (a.toNat)))
    · have e1 : w32 (w32 (5 * a) + c) = 5 * a + c := by rw [w32_add, w32_i (by omega) (by omega)]
      rw [if_pos i2, if_neg (c := ¬ ((0 ≤ b ∧ b < (V 103 0 (a.toNat))) ∧ (0 ≤ c ∧ c < (V 104 0 (a.toNat))))) (fun k => k i2), y_cellAt _ V (by omega) (by omega) (by omega), ci_r, e1, if_pos (by omega), if_pos (by omega), y_cell, cl_r, if_pos (by omega)]
      unfold reF
      by_cases l6 : (V 105 0 ((5 * a + c).toNat)) = 6
      · rw [if_pos l6, if_pos (fNum_f e), if_pos (by omega), if_pos l6]
        rfl
      · rw [if_neg l6, if_neg l6]
        by_cases l7 : (V 105 0 ((5 * a + c).toNat)) = 7
        · rw [if_pos l7, if_pos (by omega), if_pos l7]
          rfl
        · rw [if_neg l7, if_pos (by omega), if_neg l7]
          rfl
    · rw [if_neg i2, if_pos (c := ¬ ((0 ≤ b ∧ b < (V 103 0 (a.toNat))) ∧ (0 ≤ c ∧ c < (V 104 0 (a.toNat))))) i2, s_X12_faulty, ci_r]
      rfl
  · rw [if_neg i1, if_pos (c := ¬ (0 ≤ a ∧ a < (V 14 0 45))) i1]
theorem g_fill (d : Nat) (V : XM) (h : Inv V) (a b c e : Int) (he : c64 e) : AG d 169 290 [xi a, xi b, xi c, xl e] V := by
  have hC := c_fill d V h a b c e
  by_cases i1 : ¬ (0 ≤ a ∧ a < (V 14 0 45))
  · exact AG.no h (hC.trans (if_pos i1)) ((r_fill d V a b c e h.td).trans (if_pos i1))
  rw [if_neg i1] at hC
  by_cases i2 : ¬ ((0 ≤ b ∧ b < (V 103 0 (a.toNat))) ∧ (0 ≤ c ∧ c < (V 104 0 (a.toNat))))
  · exact AG.flt h (hC.trans (if_pos i2)) ((r_fill d _ a b c e (by exact h.td)).trans ((if_neg (by exact i1)).trans (if_pos (by exact i2))))
  rw [if_neg i2] at hC
  exact AG.mk hC ((r_fill d _ a b c e (by exact h.td)).trans ((if_neg (by exact i1)).trans (if_neg (by exact i2)))) (Inv.fill h he (by omega) (by omega) (by omega) (by omega)) rfl
/-! table -/
def dgs (x : Int) : Nat → Int
  | 0 => x
  | n + 1 => dgs x n / 10
theorem dgs_0 {x : Int} (h : 0 ≤ x) : ∀ n, 0 ≤ dgs x n ∧ dgs x n ≤ x := by
  intro n
  induction n with
  | zero => exact ⟨h, Int.le_refl _⟩
  | succ n ih => show 0 ≤ dgs x n / 10 ∧ dgs x n / 10 ≤ x; omega
def lnB : Nat → Int → Bool
  | 0, x => decide (x = 0)
  | n + 1, x => if x % 10 < 8 then lnB n (x / 10) else false
theorem lnB_d {x : Int} : ∀ (n l : Nat), lnB n (dgs x l) = true → ∀ k, l ≤ k → k < l + n → dgs x k % 10 < 8 := by
  intro n
  induction n with
  | zero => intro l _ k h1 h2; omega
  | succ n ih =>
    intro l h k h1 h2
    unfold lnB at h
    by_cases hl : dgs x l % 10 < 8
    · rw [if_pos hl] at h
      by_cases hk : k = l
      · rw [hk]; exact hl
      · exact ih (l + 1) h k (by omega) (by omega)
    · rw [if_neg hl] at h; cases h
theorem tm10 {x : Int} (h : 0 ≤ x) : Int.tmod x 10 = x % 10 ∧ Int.tdiv x 10 = x / 10 := ⟨Int.tmod_eq_emod_of_nonneg h, Int.tdiv_eq_ediv_of_nonneg h⟩
theorem x_lanes (d : Nat) (V : XM) (b : Int) : ∀ (m : Nat) (l x : Int), (b - l).toNat = m → 0 ≤ l → l ≤ b → b ≤ 5 → 0 ≤ x → x < 2147483648 → Xf d 168 4 [xr 0 0, xi b, xi x, xi l] [] V = some (xi (b2 (lnB m x = true)), V) := by
  intro m
  induction m with
  | zero =>
    intro l x hm h0 h1 h5 hx hx2
    rw [s_X11_areLanes_4, if_neg (by omega)]
    unfold lnB b2
    simp only [decide_eq_true_eq]
    split <;> rfl
  | succ m ih =>
    intro l x hm h0 h1 h5 hx hx2
    obtain ⟨e1, e2⟩ := tm10 hx
    rw [s_X11_areLanes_4, if_pos (by omega), if_neg (by omega), e1, e2]
    unfold lnB
    by_cases hl : x % 10 < 8
    · rw [if_pos hl, if_pos hl, w32_i (by omega) (by omega), w32_i (by omega) (by omega)]
      exact ih (l + 1) (x / 10) (by omega) (by omega) (by omega) h5 (by omega) (by omega)
    · rw [if_neg hl, if_neg hl]
      rfl
def cTab (V : XM) (q a b x : Int) : XM := xu (xfl (xff (xu (xu V 13 q.toNat 4 a) 13 q.toNat 5 b) 65 q.toNat 0 b (fun j => dgs x j % 10)) 64 q.toNat 0 80 0) 2 0 13 (q + 1)
def rTab (V : XM) (q a b x : Int) : XM := xu (xfl (xff (xu (xu V 103 0 q.toNat a) 104 0 q.toNat b) 105 0 (5 * q) (5 * q + b) (fun j => dgs x (j - (5 * q).toNat) % 10)) 106 0 (80 * q) (80 * q + 80) 1) 14 0 45 (q + 1)
theorem x_t50 (d : Nat) : ∀ (m : Nat) (V : XM) (p : Nat) (l : Int), (80 - l).toNat ≤ m → 0 ≤ l → l ≤ 80 → Xf d 76 50 [xr 13 p, xr 0 0, xr 0 0, xr 0 0, xr 0 0, xi l] [] V = some (xi 0, xfl V 64 p l 80 0) := by
  intro m
  induction m with
  | zero =>
    intro V p l hm h0 h1
    rw [s_X7_begin_50, if_neg (by omega), show l = 80 by omega, xfl_0]
  | succ m ih =>
    intro V p l hm h0 h1
    by_cases hl : l < 80
    · rw [s_X7_begin_50, if_pos hl, if_pos (by omega), w32_i (by omega) (by omega), ih _ _ _ (by omega) (by omega) (by omega), xfl_s _ _ _ _ _ _ h0 hl]
    · rw [s_X7_begin_50, if_neg (by omega), show l = 80 by omega, xfl_0]
theorem x_t16 (d : Nat) (x b : Int) (hx : 0 ≤ x ∧ x < 2147483648) (hb : b ≤ 5) : ∀ (m : Nat) (V : XM) (p : Nat) (l : Int), (b - l).toNat ≤ m → 0 ≤ l → l ≤ b → Xf d 76 16 [xr 13 p, xr 0 0, xi b, xr 0 0, xi (dgs x l.toNat), xi l] [] V = some (xi 0, xfl (xff V 65 p l b (fun j => dgs x j % 10)) 64 p 0 80 0) := by
  intro m
  induction m with
  | zero =>
    intro V p l hm h0 h1
    rw [s_X7_begin_16, if_neg (by omega), show l = b by omega, xff_0, x_t50 _ 80 _ _ 0 (by omega) (by omega) (by omega)]
  | succ m ih =>
    intro V p l hm h0 h1
    by_cases hl : l < b
    · have hd := dgs_0 hx.1 l.toNat
      obtain ⟨e1, e2⟩ := tm10 hd.1
      have e3 : dgs x l.toNat / 10 = dgs x (l + 1).toNat := by rw [show (l + 1).toNat = l.toNat + 1 by omega]; rfl
      rw [s_X7_begin_16, if_pos hl, if_pos (by omega), e1, e2, w32_i (by omega) (by omega), w32_i (by omega) (by omega), e3, ih _ _ _ (by omega) (by omega) (by omega)]
      have := xff_s V 65 p l b (fun j => dgs x j % 10) h0 hl
      rw [this]
    · rw [s_X7_begin_16, if_neg (by omega), show l = b by omega, xff_0, x_t50 _ 80 _ _ 0 (by omega) (by omega) (by omega)]
theorem x_r174 (d : Nat) : ∀ (m : Nat) (V : XM) (l q : Int), (80 - l).toNat ≤ m → 0 ≤ l → l ≤ 80 → (V 14 0 45) = q → 0 ≤ q → q < 6 → Xf d 286 174 [xr 14 0, xr 0 0, xr 0 0, xr 0 0, xr 0 0, xr 0 0, xi l] [] V = some (xi q, xu (xfl V 106 0 (80 * q + l) (80 * q + 80) 1) 14 0 45 (q + 1)) := by
  intro m
  induction m with
  | zero =>
    intro V l q hm h0 h1 hq h2 h3
    have hl : l = 80 := by omega
    subst hl
    rw [s_X12_table_174, if_neg (by omega), xfl_0, hq]
    simp (disch := omega) only [w32_i, Int.add_sub_cancel]
  | succ m ih =>
    intro V l q hm h0 h1 hq h2 h3
    by_cases hl : l < 80
    · have e : w32 (w32 (80 * q) + l) = 80 * q + l := by rw [w32_add, w32_i (by omega) (by omega)]
      rw [s_X12_table_174, if_pos hl, hq, e, if_pos (by omega), w32_i (by omega) (by omega), ih _ (l + 1) q (by omega) (by omega) (by omega) (by exact hq) h2 h3, show 80 * q + (l + 1) = (80 * q + l) + 1 by omega, xfl_s _ 106 0 _ _ _ (by omega) (by omega)]
    · have hl : l = 80 := by omega
      subst hl
      rw [s_X12_table_174, if_neg (by omega), xfl_0, hq]
      simp (disch := omega) only [w32_i, Int.add_sub_cancel]
theorem x_r133 (d : Nat) (x b : Int) (hx : 0 ≤ x ∧ x < 2147483648) (hb : b ≤ 5) : ∀ (m : Nat) (V : XM) (l q : Int), (b - l).toNat ≤ m → 0 ≤ l → l ≤ b → (V 14 0 45) = q → 0 ≤ q → q < 6 → Xf d 286 133 [xr 14 0, xr 0 0, xi b, xr 0 0, xr 0 0, xi (dgs x l.toNat), xi l] [] V = some (xi q, xu (xfl (xff V 105 0 (5 * q + l) (5 * q + b) (fun j => dgs x (j - (5 * q).toNat) % 10)) 106 0 (80 * q) (80 * q + 80) 1) 14 0 45 (q + 1)) := by
  intro m
  induction m with
  | zero =>
    intro V l q hm h0 h1 hq h2 h3
    rw [s_X12_table_133, if_neg (by omega), show l = b by omega, xff_0, x_r174 _ 80 _ 0 q (by omega) (by omega) (by omega) hq h2 h3, show 80 * q + 0 = 80 * q by omega]
  | succ m ih =>
    intro V l q hm h0 h1 hq h2 h3
    by_cases hl : l < b
    · have hd := dgs_0 hx.1 l.toNat
      obtain ⟨e1, e2⟩ := tm10 hd.1
      have e3 : dgs x l.toNat / 10 = dgs x (l + 1).toNat := by rw [show (l + 1).toNat = l.toNat + 1 by omega]; rfl
      have e : w32 (w32 (5 * q) + l) = 5 * q + l := by rw [w32_add, w32_i (by omega) (by omega)]
      rw [s_X12_table_133, if_pos hl, hq, e, if_pos (by omega), e1, e2, w32_i (by omega) (by omega), w32_i (by omega) (by omega), e3, ih _ (l + 1) q (by omega) (by omega) (by omega) (by exact hq) h2 h3, show 5 * q + (l + 1) = (5 * q + l) + 1 by omega]
      have := xff_s V 105 0 (5 * q + l) (5 * q + b) (fun j => dgs x (j - (5 * q).toNat) % 10) (by omega) (by omega)
      have ev : dgs x ((5 * q + l).toNat - (5 * q).toNat) = dgs x l.toNat := by rw [show (5 * q + l).toNat - (5 * q).toNat = l.toNat by omega]
      rw [ev] at this
      rw [this]
    · rw [s_X12_table_133, if_neg (by omega), show l = b by omega, xff_0, x_r174 _ 80 _ 0 q (by omega) (by omega) (by omega) hq h2 h3, show 80 * q + 0 = 80 * q by omega]
theorem x_r41 (d : Nat) (V : XM) (a b x : Int) (ha : 1 ≤ a ∧ a ≤ 16) (hb : 1 ≤ b ∧ b ≤ 5) (hx : 0 ≤ x ∧ x < 2147483648) (q1 : 0 ≤ (V 14 0 45)) (q2 : (V 14 0 45) ≤ 6) : ∀ (m : Nat) (l y : Int), (b - l).toNat = m → 0 ≤ l → l ≤ b → 0 ≤ y → y < 2147483648 → Xf d 286 41 [xr 14 0, xi a, xi b, xi x, xi 1, xi y, xi l] [] V = if lnB m y = true then (if (V 14 0 45) = 6 then some (xi (-4), V) else some (xi (V 14 0 45), rTab V (V 14 0 45) a b x)) else some (xi (-2), V) := by
  intro m
  induction m with
  | zero =>
    intro l y hm h0 h1 hy hy2
    rw [s_X12_table_41, if_neg (by omega), if_neg (by omega)]
    unfold lnB
    simp only [decide_eq_true_eq]
    by_cases hz : y = 0
    · rw [if_neg (by omega), if_pos hz]
      by_cases h6 : (V 14 0 45) = 6
      · rw [if_pos h6, if_pos h6]
      · have := x_r133 d x b hx hb.2 5 (xu (xu V 103 0 (V 14 0 45).toNat a) 104 0 (V 14 0 45).toNat b) 0 (V 14 0 45) (by omega) (by omega) (by omega) rfl q1 (by omega)
        rw [if_neg h6, if_neg h6, if_pos (by omega), if_pos (by omega)]
        refine this.trans ?_
        rw [show 5 * (V 14 0 45) + 0 = 5 * (V 14 0 45) by omega]
        rfl
    · rw [if_pos (by omega), if_neg hz]
  | succ m ih =>
    intro l y hm h0 h1 hy hy2
    obtain ⟨e1, e2⟩ := tm10 hy
    rw [s_X12_table_41, if_pos (by omega), if_neg (by omega), e1, e2, w32_i (by omega) (by omega), w32_i (by omega) (by omega)]
    unfold lnB
    by_cases hl : y % 10 < 8
    · rw [if_pos hl, if_pos hl]
      exact ih (l + 1) (y / 10) (by omega) (by omega) (by omega) (by omega) (by omega)
    · rw [if_neg hl, if_neg hl, if_neg (by simp), s_X12_table_41]
      by_cases hl2 : l + 1 < b
      · rw [if_pos hl2, if_pos rfl, if_pos rfl]
      · rw [if_neg hl2, if_pos rfl]
