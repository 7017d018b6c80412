/-! settle: the class, up to the way that is found -/
theorem x_cWays (d : Nat) (V : XM) (h : Inv V) {N : Nat} (hN : (V 14 0 9) = (N : Int)) : ∀ (m t : Nat), N - t ≤ m → t ≤ N → Xf (d + 2) 67 4 [xr 8 0, xi (wyN V t), xi (t : Int)] [] V = some (xi (wyN V N), V) := by
  have t2 : (V 14 0 9) ≤ 64 := h.1.2.2.2.2.2.2.2.1
  have t3 : (V 4 0 7) = (V 14 0 9) := h.1.2.2.2.2.2.2.2.2.1
  intro m
  induction m with
  | zero =>
    intro t hm ht
    have : t = N := by omega
    subst this
    rw [s_X5_ways_4, t3, hN, if_neg (by omega)]
  | succ m ih =>
    intro t hm ht
    by_cases hlt : t < N
    · have ih := ih (t + 1) (by omega) (by omega)
      have hb := wyN_b V t
      have hc := cnt_b (bt (V 81 0 t)) 64
      have wt : Unit → w32 ((t : Int) + 1) = ((t + 1 : Nat) : Int) := fun _ => by rw [w32_i (by omega) (by omega)]; omega
      have F := y_cUns d V h (t := (t : Int)) (by omega) (by omega)
      rw [Int.toNat_natCast] at F
      have e41 : V 41 0 t = (V 81 0 t) := by
        obtain ⟨⟨ck1, ck2, ck3, cp1, cp2, cp3, ct1, ct2, ct3, cs1, cs2, cs3, cq1, cq2, cq3, cr1, cr2, cr3, cf1, cf2, cf3, cb1, cb2, cb3, cw1, cw2, cw3, clf, clc⟩, hkin, hpro, husu, hgiv, hthg, hhom, hput, hrin, hsen, hbar, hset, hmos, hpai, hrel, hmap, hdoo, hshe, htab, hwor⟩ := h
        have := (hset (t : Int) (by omega) (by omega)).1
        rw [Int.toNat_natCast] at this
        exact this
      rw [s_X5_ways_4, t3, hN, if_pos (by omega)]
      by_cases c0 : 3000 < wyN V t
      · have hbig := wyN_big c0 (N - t)
        rw [show t + (N - t) = N by omega] at hbig
        rw [if_pos c0, hbig]
      · rw [if_neg c0, F, ci_r, ite_b2, wt (), ← ih, wyN_s]
        by_cases c1 : unsB V t = true
        · have h2 : wyN V t * cnt (bt (V 81 0 t)) 64 ≤ 3000 * 64 := Int.mul_le_mul (by omega) hc.2 hc.1 (by decide)
          have h1 : 0 ≤ wyN V t * cnt (bt (V 81 0 t)) 64 := Int.mul_nonneg hb.1 hc.1
          rw [if_pos c1, s_X1_setOf, if_pos (by omega), cl_r, Int.toNat_natCast, e41, y_bits, ci_r, if_pos ⟨c1, by omega⟩, w32_i (by omega) (by omega)]
        · rw [if_neg c1, if_neg (fun z => c1 z.1)]
    · have : t = N := by omega
      subst this
      rw [s_X5_ways_4, t3, hN, if_neg (by omega)]
def fS (V : XM) (F : Nat → Int) (c : Int) : XM := fun a b j => if a = 50 ∧ b = 0 then F j else if a = 8 ∧ b = 0 ∧ j = 3 then c else V a b j
theorem fS_u (V : XM) (F : Nat → Int) (c x y : Int) (j : Nat) : xu (xu (fS V F c) 8 0 3 x) 50 0 j y = fS V (zup F j y) x := by
  funext a b k; unfold xu fS zup
  (repeat' split) <;> first | rfl | (exfalso; omega)
theorem fS_0 (V : XM) : xu V 8 0 3 0 = fS V (V 50 0) 0 := by
  funext a b c
  show (if a = 8 ∧ b = 0 ∧ c = 3 then 0 else V a b c) = (if a = 50 ∧ b = 0 then V 50 0 c else if a = 8 ∧ b = 0 ∧ c = 3 then 0 else V a b c)
  by_cases h1 : a = 50 ∧ b = 0
  · rw [if_pos h1, if_neg (by omega), h1.1, h1.2]
  · rw [if_neg h1]
theorem Inv.fs {V : XM} (h : Inv V) (F : Nat → Int) (c : Int) : Inv (fS V F c) := by
  obtain ⟨h1, h2, h3, h4, h5, h6, h7, h8, h9, h10, h11, h12, h13, h14, h15, h16, h17, h18, h19, h20⟩ := h
  exact ⟨h1, h2, h3, h4, h5, h6, h7, h8, h9, h10, h11, h12, h13, h14, h15, h16, h17, h18, h19, h20⟩
/-- the unsettled things below t, in their order -/
def EN (V : XM) (t m : Nat) (F : Nat → Int) : Prop := (∀ i, i < m → 0 ≤ F i ∧ (F i).toNat < t ∧ unsB V (F i).toNat = true) ∧ (∀ i j, i < j → j < m → F i < F j) ∧ (∀ k, k < t → unsB V k = true → ∃ i, i < m ∧ F i = (k : Int)) ∧ (m : Int) = cnt (unsB V) t
theorem cnt_zero {f : Nat → Bool} {n i : Nat} (h : cnt f n ≤ 0) (hi : i < n) : f i = false := by
  cases hz : f i with
  | false => rfl
  | true =>
    have := cnt_lt (f := fun _ => false) (g := f) (j := i) (n := n) (fun k _ hk => by cases hk) hi rfl hz
    have := (cnt_b (fun _ => false) n).1
    omega
theorem x_tl7 (d : Nat) (V : XM) (h : Inv V) {N : Nat} (n0 : Int) (hN : (V 14 0 9) = (N : Int)) (h7 : cnt (unsB V) N ≤ 7) : ∀ (s t m : Nat) (F : Nat → Int), N - t ≤ s → t ≤ N → EN V t m F → ∃ (F' : Nat → Int) (m' : Nat), EN V N m' F' ∧ Xf (d + 2) 69 7 [xr 8 0, xi n0, xi (t : Int)] [] (fS V F (m : Int)) = ci (Yf (d + 2) 70 [xr 8 0, xi 0, xi n0] (fS V F' (m' : Int))) (fun x6 V5 => if x6 = 0 ∨ x6 = 1 then some (xi x6, V5) else none) := by
  have t2 : (V 14 0 9) ≤ 64 := h.1.2.2.2.2.2.2.2.1
  have t3 : (V 4 0 7) = (V 14 0 9) := h.1.2.2.2.2.2.2.2.2.1
  have e4 : ∀ F c, (fS V F c) 4 0 7 = (N : Int) := fun F c => by show V 4 0 7 = _; omega
  have e8 : ∀ F c, (fS V F c) 8 0 3 = c := fun F c => rfl
  intro s
  induction s with
  | zero =>
    intro t m F hs ht hE
    have : t = N := by omega
    subst this
    exact ⟨F, m, hE, by rw [s_X5_takeLeastWay_7, e4, if_neg (by omega)]⟩
  | succ s ih =>
    intro t m F hs ht hE
    by_cases hlt : t < N
    · obtain ⟨E1, E2, E3, E4⟩ := id hE
      have hadd := cnt_add (unsB V) t (N - t)
      rw [show t + (N - t) = N by omega] at hadd
      have hnn := (cnt_b (fun i => unsB V (t + i)) (N - t)).1
      by_cases c7 : m < 7
      · have wt : Unit → w32 ((t : Int) + 1) = ((t + 1 : Nat) : Int) := fun _ => by rw [w32_i (by omega) (by omega)]; omega
        have wm : Unit → w32 ((m : Int) + 1) = ((m + 1 : Nat) : Int) := fun _ => by rw [w32_i (by omega) (by omega)]; omega
        have U := y_cUns d (fS V F (m : Int)) (h.fs F m) (t := (t : Int)) (by omega) (by show (t : Int) < V 14 0 9; omega)
        rw [Int.toNat_natCast] at U
        have es : cnt (unsB V) (t + 1) = cnt (unsB V) t + (if unsB V t = true then 1 else 0) := rfl
        rw [s_X5_takeLeastWay_7, e4, if_pos (by omega), e8, if_pos (by omega), U, ci_r, ite_b2, wt ()]
        by_cases c1 : unsB V t = true
        · have c1' : unsB (fS V F (m : Int)) t = true := c1
          rw [if_pos c1', e8, if_pos (by omega), wm (), Int.toNat_natCast, fS_u]
          refine ih (t + 1) (m + 1) _ (by omega) (by omega) ⟨fun i hi => ?_, fun i j hij hj => ?_, fun k hk hu => ?_, ?_⟩
          · by_cases c : i = m
            · subst c; rw [zup_eq, Int.toNat_natCast]; exact ⟨by omega, by omega, c1⟩
            · rw [zup_ne c]
              obtain ⟨z1, z2, z3⟩ := E1 i (by omega)
              exact ⟨z1, by omega, z3⟩
          · by_cases c : j = m
            · subst c
              rw [zup_eq, zup_ne (by omega)]
              have := E1 i (by omega)
              omega
            · rw [zup_ne c, zup_ne (by omega)]
              exact E2 i j hij (by omega)
          · by_cases c : k = t
            · exact ⟨m, by omega, by rw [zup_eq, c]⟩
            · obtain ⟨i, i1, i2⟩ := E3 k (by omega) hu
              exact ⟨i, by omega, by rw [zup_ne (by omega)]; exact i2⟩
          · rw [es, if_pos c1]; omega
        · have c1' : ¬ unsB (fS V F (m : Int)) t = true := c1
          rw [if_neg c1']
          refine ih (t + 1) m F (by omega) (by omega) ⟨fun i hi => ?_, E2, fun k hk hu => ?_, ?_⟩
          · obtain ⟨z1, z2, z3⟩ := E1 i hi
            exact ⟨z1, by omega, z3⟩
          · by_cases c : k = t
            · rw [c] at hu; exact absurd hu c1
            · exact E3 k (by omega) hu
          · rw [es, if_neg c1]; omega
      · refine ⟨F, m, ⟨fun i hi => ?_, E2, fun k hk hu => ?_, by omega⟩, ?_⟩
        · obtain ⟨z1, z2, z3⟩ := E1 i hi
          exact ⟨z1, by omega, z3⟩
        · by_cases c : k < t
          · exact E3 k c hu
          · have := cnt_zero (f := fun i => unsB V (t + i)) (n := N - t) (i := k - t) (by omega) (by omega)
            have this : unsB V (t + (k - t)) = false := this
            rw [show t + (k - t) = k by omega, hu] at this
            cases this
        · rw [s_X5_takeLeastWay_7, e4, if_pos (by omega), e8, if_neg (by omega)]
    · have : t = N := by omega
      subst this
      exact ⟨F, m, hE, by rw [s_X5_takeLeastWay_7, e4, if_neg (by omega)]⟩
/-- the class's sentences of a way -/
def cT (W : XM) (un : Nat → Nat) (q : Nat → Int) (n0 : Int) : Nat → XM
  | 0 => W
  | i + 1 => cTell (cT W un q n0 i) (n0 + i) 0 (un i : Int) (q (un i)) (-9)
theorem cTell_ne (X : XM) (n s a b c : Int) {g : Nat} (h : g ≠ 33 ∧ g ≠ 34 ∧ g ≠ 35 ∧ g ≠ 36 ∧ g ≠ 6) : (cTell X n s a b c) g = X g := by
  unfold cTell
  rw [xu_ne h.2.2.2.2, xu_ne h.2.2.2.1, xu_ne h.2.2.1, xu_ne h.2.1, xu_ne h.1]
theorem cT_ne (W : XM) (un : Nat → Nat) (q : Nat → Int) (n0 : Int) {g : Nat} (h : g ≠ 33 ∧ g ≠ 34 ∧ g ≠ 35 ∧ g ≠ 36 ∧ g ≠ 6) : ∀ i, (cT W un q n0 i) g = W g := by
  intro i
  induction i with
  | zero => rfl
  | succ i ih =>
    show (cTell (cT W un q n0 i) (n0 + i) 0 (un i : Int) (q (un i)) (-9)) g = W g
    rw [cTell_ne _ _ _ _ _ _ h, ih]
theorem x_s70 (d : Nat) {Z W : XM} (h : Inv Z) {N m : Nat} {un : Nat → Nat} {n0 : Int} {q : Nat → Int} (hN : (Z 14 0 9) = (N : Int)) (hU : UN Z N m un) (hn0 : (Z 6 0 4) = n0 ∧ 0 ≤ n0 ∧ n0 + m ≤ 300) (hq : ∀ k, k < N → unsB Z k = false → q k = bp Z k) (hq9 : ∀ i, i < m → q (un i) ≠ -9) (hB3 : ∀ i, i < m → (Z 21 0 (un i)) ≠ 3) (hC : CM Z N m un n0 q W) : ∀ (s i : Nat), m - i ≤ s → i ≤ m → Xf (d + 3) 146 70 [xr 2 0, xi (m : Int), xi (i : Int), xr 0 0] [] (cT W un q n0 i) = some (xi (m : Int), cT W un q n0 m) := by
  obtain ⟨u1, u2, u3, u4, u5⟩ := id hU
  obtain ⟨G, P, e, hG, hP1, hP2⟩ := hC
  have t2 : (Z 14 0 9) ≤ 64 := h.1.2.2.2.2.2.2.2.1
  have num : ∀ i, i ≤ m → (cT W un q n0 i) 6 0 4 = n0 + i := by
    intro i hi
    cases i with
    | zero => show W 6 0 4 = _; rw [e]; show Z 6 0 4 = _; omega
    | succ i => show n0 + (i : Int) + 1 = n0 + ((i + 1 : Nat) : Int); omega
  intro s
  induction s with
  | zero =>
    intro i hs hi
    have : i = m := by omega
    subst this
    rw [s_X11_settle_70, if_neg (by omega)]
  | succ s ih =>
    intro i hs hi
    by_cases hlt : i < m
    · have ih := ih (i + 1) (by omega) (by omega)
      obtain ⟨a1, a2, a3⟩ := u3 i hlt
      obtain ⟨c1, c2, c3, c4⟩ := cm_home h hN hq hG a2 (hB3 i hlt)
      have wi' : Unit → w32 ((i : Int) + 1) = ((i + 1 : Nat) : Int) := fun _ => by rw [w32_i (by omega) (by omega)]; omega
      have e50 : (cT W un q n0 i) 50 0 i = (un i : Int) := by
        rw [cT_ne W un q n0 (by decide) i, e]
        exact a1
      have e38 : (cT W un q n0 i) 38 0 ((un i : Int).toNat) = hcF Z N q (un i) := by
        rw [cT_ne W un q n0 (by decide) i, e, Int.toNat_natCast]
        rfl
      have e37 : (cT W un q n0 i) 37 0 ((6 * (un i : Int) + 0).toNat) = q (un i) := by
        rw [cT_ne W un q n0 (by decide) i, e, show (6 * (un i : Int) + 0).toNat = 6 * un i by omega]
        exact c4 (hq9 i hlt)
      have hp := c3.mpr (hq9 i hlt)
      have F1 := y_homeAt (d + 1) (cT W un q n0 i) (t := (un i : Int)) 0 (by omega) (by omega) (by rw [e38]; omega)
      rw [e38, e37, if_pos (by omega)] at F1
      have F2 := y_sadd (d + 2) (cT W un q n0 i) 0 (un i : Int) (q (un i)) (-9) (num i hi) (by omega) (by omega)
      rw [s_X11_settle_70, if_pos (by omega), s_X5_thingAt, if_pos (by omega), ci_r, Int.toNat_natCast, e50, F1, ci_r, F2, ci_r, wi' ()]
      exact ih
    · have : i = m := by omega
      subst this
      rw [s_X11_settle_70, if_neg (by omega)]
