/-! rank -/
theorem insN_congr {ah ah' : Int → Int → Bool} {n row : Nat} (h : ∀ a b : Int, 0 ≤ a → a < n → 0 ≤ b → b < n → ah a b = ah' a b) (hr : row < n) : ∀ (k : Nat) (O : Nat → Int), (∀ j, j < k → 0 ≤ O j ∧ O j < n) → insN ah (row : Int) k O = insN ah' (row : Int) k O := by
  intro k
  induction k with
  | zero => intro O _; rfl
  | succ k ih =>
    intro O hO
    obtain ⟨o1, o2⟩ := hO k (by omega)
    rw [insN_s, insN_s, h (row : Int) (O k) (by omega) (by omega) o1 o2, ih (zup O (k + 1) (O k)) (fun j hj => by rw [zup_ne (by omega)]; exact hO j (by omega))]
theorem ordN_congr {ah ah' : Int → Int → Bool} {n : Nat} (O : Nat → Int) (h : ∀ a b : Int, 0 ≤ a → a < n → 0 ≤ b → b < n → ah a b = ah' a b) : ∀ m : Nat, m ≤ n → ordN ah m O = ordN ah' m O := by
  intro m
  induction m with
  | zero => intro _; rfl
  | succ m ih =>
    intro hm
    show insN ah (m : Int) m (ordN ah m O) = insN ah' (m : Int) m (ordN ah' m O)
    rw [← ih (by omega)]
    exact insN_congr h (by omega) m _ (fun j hj => by have := ordN_in (ah := ah) O m j hj; omega)
theorem r_rank (d : Nat) (V : XM) {t n col : Nat} (fal : Int) (ct : 0 ≤ (V 14 0 45) ∧ (V 14 0 45) ≤ 6) (ht : (t : Int) < (V 14 0 45)) (hn : (V 103 0 t) = (n : Int)) (h16 : n ≤ 16) (hm : 1 ≤ (V 104 0 t) ∧ (V 104 0 t) ≤ 5) (hc : (col : Int) < (V 104 0 t)) (ho : rlO V t n col) : ∃ B C D b c e : Nat → Int, (∀ j x, j < n → x < 5 → B (80 * t + 5 * j + x) = V 106 0 (80 * t + 5 * (ordN (fun a b => decide (ahR V t col fal a b)) n (V 109 0) j).toNat + x) % 2 % 2 ∧ C (80 * t + 5 * j + x) = V 107 0 (80 * t + 5 * (ordN (fun a b => decide (ahR V t col fal a b)) n (V 109 0) j).toNat + x) ∧ D (80 * t + 5 * j + x) = V 108 0 (80 * t + 5 * (ordN (fun a b => decide (ahR V t col fal a b)) n (V 109 0) j).toNat + x)) ∧ (∀ i, (i < 80 * t ∨ 80 * t + 80 ≤ i) → B i = V 106 0 i ∧ C i = V 107 0 i ∧ D i = V 108 0 i) ∧ Yf (d + 30) 295 [xr 14 0, xi (t : Int), xi (col : Int), xi fal] V = some (xi (cnt (fun j => decide (ordN (fun a b => decide (ahR V t col fal a b)) n (V 109 0) j ≠ (j : Int))) n), kS (xrow V 109 (ordN (fun a b => decide (ahR V t col fal a b)) n (V 109 0))) B C D b c e) := by
  have q1 := x_rk29 (d + 27) V (fal := fal) (V 109 0) (by omega) hn h16 (by omega) ho n 0 (by omega) (by omega)
  have e0 : ordN (fun a b => decide (ahR V t col fal a b)) 0 (V 109 0) = V 109 0 := rfl
  rw [e0, xrow_self] at q1
  have hO := ordN_in (ah := fun a b => decide (ahR V t col fal a b)) (V 109 0) n
  generalize hW : ordN (fun a b => decide (ahR V t col fal a b)) n (V 109 0) = O at *
  obtain ⟨b, c, e, q2, q3⟩ := x_rk110 (d + 29) (xrow V 109 O) (t := t) (by omega) (V 106 0) (V 107 0) (V 108 0) 80 0 ((xrow V 109 O) 110 0) ((xrow V 109 O) 111 0) ((xrow V 109 O) 112 0) (by omega) (by omega) (fun j hj => by omega)
  have ks : kS (xrow V 109 O) (V 106 0) (V 107 0) (V 108 0) ((xrow V 109 O) 110 0) ((xrow V 109 O) 111 0) ((xrow V 109 O) 112 0) = xrow V 109 O := kS_self (xrow V 109 O)
  rw [ks] at q3
  obtain ⟨B, C, D, q4, q5⟩ := x_rk186 (d + 29) (xrow V 109 O) (t := t) (n := n) (O := O) (b := b) (c := c) (e := e) (B0 := V 106 0) (C0 := V 107 0) (D0 := V 108 0) (by omega) h16 (by exact hn) (fun j => rfl) hO n 0 (V 106 0) (V 107 0) (V 108 0) (by omega) (by omega) ⟨fun j x hj => by omega, fun i _ => ⟨rfl, rfl, rfl⟩⟩
  refine ⟨B, C, D, b, c, e, fun j x hj hx => ?_, q4.2, ?_⟩
  · obtain ⟨z1, z2, z3⟩ := q4.1 j x hj hx
    obtain ⟨o1, o2⟩ := hO j hj
    obtain ⟨y1, y2, y3⟩ := q2 (5 * (O j).toNat + x) (by omega)
    rw [z1, z2, z3, y1, y2, y3, ← Nat.add_assoc]
    exact ⟨rfl, rfl, rfl⟩
  · have q1' : Xf (d + 29) 295 29 [xr 14 0, xi (t : Int), xi (col : Int), xi fal, xi 0, xr 0 0, xr 0 0] [] V = _ := q1
    have q3' : Xf (d + 29) 295 110 [xr 14 0, xi (t : Int), xr 0 0, xr 0 0, xi 0, xr 0 0, xr 0 0] [] (xrow V 109 O) = _ := q3
    have q5' : Xf (d + 29) 295 186 [xr 14 0, xi (t : Int), xr 0 0, xr 0 0, xi 0, xi 0, xr 0 0] [] (kS (xrow V 109 O) (V 106 0) (V 107 0) (V 108 0) b c e) = _ := q5
    have hmt : 1 ≤ (V 104 0 ((t : Int).toNat)) ∧ (V 104 0 ((t : Int).toNat)) ≤ 5 := by rw [Int.toNat_natCast]; exact hm
    rw [s_X12_rank, y_isTable _ V _ ct, ci_r, ite_b2, if_pos (by omega), y_isColumn _ V _ (by omega) hmt, ci_r, ite_b2, Int.toNat_natCast, if_pos (by omega), q1', q3', q5']
theorem I_tab.rank {V W : XM} (h : I_tab V) {t n m : Nat} {O : Nat → Int} (hn : (V 103 0 t) = (n : Int)) (hm : (V 104 0 t) = (m : Int)) (h5 : m ≤ 5) (hO : ∀ j, j < n → 0 ≤ O j ∧ O j < n)
    (e13 : W 13 = V 13) (e65 : W 65 = V 65) (e103 : W 103 = V 103) (e104 : W 104 = V 104) (e105 : W 105 = V 105) (et : (W 14 0 45) = (V 14 0 45))
    (h63 : ∀ q, q ≠ t → W 63 q = V 63 q ∧ W 64 q = V 64 q) (hr : ∀ j x, j < n → x < m → W 63 t (5 * j + x) = V 63 t (5 * (O j).toNat + x) ∧ W 64 t (5 * j + x) = V 64 t (5 * (O j).toNat + x))
    (hk : ∀ j x, j < n → x < m → W 106 0 (80 * t + 5 * j + x) = V 106 0 (80 * t + 5 * (O j).toNat + x) ∧ W 107 0 (80 * t + 5 * j + x) = V 107 0 (80 * t + 5 * (O j).toNat + x) ∧ W 108 0 (80 * t + 5 * j + x) = V 108 0 (80 * t + 5 * (O j).toNat + x))
    (ho : ∀ i, (i < 80 * t ∨ 80 * t + 80 ≤ i) → W 106 0 i = V 106 0 i ∧ W 107 0 i = V 107 0 i ∧ W 108 0 i = V 108 0 i) : I_tab W := by
  intro q k1 k2
  rw [et] at k2
  obtain ⟨u1, u2, u3, u4, u5, u6, u7⟩ := h q k1 k2
  rw [e13, e65, e103, e104, e105]
  refine ⟨u1, u2, u3, u4, u5, u6, fun c c0 c1 => ?_⟩
  obtain ⟨v1, v2, v3, v4⟩ := u7 c c0 c1
  refine ⟨v1, v2, v3, fun r r0 r1 => ?_⟩
  by_cases hq : q = (t : Int)
  · subst hq
    rw [Int.toNat_natCast] at r1 c1 v1 ⊢
    rw [hn] at r1
    rw [hm] at c1
    obtain ⟨o1, o2⟩ := hO r.toNat (by omega)
    have old := v4 (O r.toNat) o1 (by rw [Int.toNat_natCast, hn]; exact o2)
    rw [Int.toNat_natCast] at old
    have a1 := hr r.toNat c.toNat (by omega) (by omega)
    have a2 := hk r.toNat c.toNat (by omega) (by omega)
    have i1 : (5 * r + c).toNat = 5 * r.toNat + c.toNat := by omega
    have i2 : (80 * (t : Int) + 5 * r + c).toNat = 80 * t + 5 * r.toNat + c.toNat := by omega
    have i3 : (5 * O r.toNat + c).toNat = 5 * (O r.toNat).toNat + c.toNat := by omega
    have i4 : (80 * (t : Int) + 5 * O r.toNat + c).toNat = 80 * t + 5 * (O r.toNat).toNat + c.toNat := by omega
    rw [i3, i4] at old
    rw [i1, i2, a1.1, a1.2, a2.1, a2.2.1, a2.2.2]
    exact old
  · have a1 := h63 q.toNat (by omega)
    have a2 := ho (80 * q + 5 * r + c).toNat (by omega)
    rw [a1.1, a1.2, a2.1, a2.2.1, a2.2.2]
    exact v4 r r0 r1
theorem g_rank (d : Nat) (V : XM) (h : Inv V) (a b c : Int) : AG d 173 295 [xi a, xi b, xi c] V := by
  have h' := h
  obtain ⟨⟨ck1, ck2, ck3, cp1, cp2, cp3, ct1, ct2, ct3, cs1, cs2, cs3, cq1, cq2, cq3, cr1, cr2, cr3, cf1, cf2, cf3, cb1, cb2, cb3, cw1, cw2, cw3, clf, clc⟩, hkin, hpro, husu, hgiv, hthg, hhom, hput, hrin, hsen, hbar, hset, hmos, hpai, hrel, hmap, hdoo, hshe, htab, hwor⟩ := h'
  by_cases i1 : ¬ (0 ≤ a ∧ a < (V 14 0 45))
  · exact AG.no (x := xi (-1)) h (by rw [s_X11_rank, y_inRange, ci_r, ite_b2, if_neg (by omega)]) (by rw [s_X12_rank, y_isTable _ V _ (by omega), ci_r, ite_b2, if_neg i1])
  have i1' : 0 ≤ a ∧ a < (V 14 0 45) := by omega
  clear i1
  obtain ⟨t, et⟩ : ∃ t : Nat, a = (t : Int) := ⟨a.toNat, by omega⟩
  subst et
  obtain ⟨u1, u2, u3, u4, u5, u6, u7⟩ := htab (t : Int) i1'.1 i1'.2
  rw [Int.toNat_natCast] at u1 u2 u3 u4 u5 u6 u7
  have cm : 1 ≤ (V 104 0 ((t : Int).toNat)) ∧ (V 104 0 ((t : Int).toNat)) ≤ 5 := by rw [Int.toNat_natCast]; exact ⟨u5, u6⟩
  by_cases i2 : ¬ (0 ≤ b ∧ b < (V 104 0 t))
  · refine AG.flt (x := xi (-12)) (f := 2) h ?_ ?_
    · rw [s_X11_rank, y_inRange, ci_r, ite_b2, if_pos (by omega), if_pos (by omega), y_inRange, ci_r, ite_b2, Int.toNat_natCast, u4, if_neg i2, s_X11_faulted, ci_r]
      rfl
    · rw [s_X12_rank, y_isTable _ _ _ (by exact ⟨cb1, cb2⟩), ci_r, ite_b2, if_pos (by exact i1'), y_isColumn _ _ _ (by omega) (by exact cm), ci_r, ite_b2, if_neg (by rw [Int.toNat_natCast]; exact i2), s_X12_faulty, ci_r]
      rfl
  have i2' : 0 ≤ b ∧ b < (V 104 0 t) := by omega
  clear i2
  obtain ⟨col, eb⟩ : ∃ n : Nat, b = (n : Int) := ⟨b.toNat, by omega⟩
  subst eb
  obtain ⟨n, hn⟩ : ∃ n : Nat, (V 103 0 t) = (n : Int) := ⟨(V 103 0 t).toNat, by omega⟩
  obtain ⟨m, hm⟩ : ∃ m : Nat, (V 104 0 t) = (m : Int) := ⟨(V 104 0 t).toNat, by omega⟩
  have cell : ∀ j x : Nat, j < n → x < m → (V 106 0 (80 * t + 5 * j + x) = 0 ∨ V 106 0 (80 * t + 5 * j + x) = 1) ∧ V 64 t (5 * j + x) = 1 - V 106 0 (80 * t + 5 * j + x) ∧ (V 106 0 (80 * t + 5 * j + x) = 0 → V 63 t (5 * j + x) = V 107 0 (80 * t + 5 * j + x) ∧ (6 ≤ V 105 0 (5 * t + x) → isReal (V 105 0 (5 * t + x)) (V 107 0 (80 * t + 5 * j + x)) (V 108 0 (80 * t + 5 * j + x)))) := fun j x hj hx => by
    obtain ⟨_, _, _, w⟩ := u7 (x : Int) (by omega) (by omega)
    obtain ⟨w1, w2, w3⟩ := w (j : Int) (by omega) (by omega)
    have f1 : (80 * (t : Int) + 5 * (j : Int) + (x : Int)).toNat = 80 * t + 5 * j + x := by omega
    have f2 : (5 * (j : Int) + (x : Int)).toNat = 5 * j + x := by omega
    have f3 : (5 * (t : Int) + (x : Int)).toNat = 5 * t + x := by omega
    rw [f1] at w1 w2 w3
    rw [f2] at w2 w3
    rw [f3] at w3
    exact ⟨w1, w2, fun z => ⟨(w3 z).1, (w3 z).2.2⟩⟩
  clear u7
  have h01 : ∀ j x, j < n → x < m → V 64 t (5 * j + x) = 0 ∨ V 64 t (5 * j + x) = 1 := fun j x hj hx => by
    obtain ⟨w1, w2, _⟩ := cell j x hj hx
    omega
  have colm : col < m := by omega
  obtain ⟨C, F, G, p1, p2, p3⟩ := y_order (d + 26) V t (n := n) (m := m) (col := col) c (V 109 0) (by omega) (by omega) (by omega) (by omega) (by omega) colm h01
  have ahE : ∀ x y : Int, 0 ≤ x → x < n → 0 ≤ y → y < n → decide (ahC (V 63 t) (V 64 t) col c x y) = decide (ahR V t col c x y) := fun x y x0 x1 y0 y1 => by
    obtain ⟨a1, a2, a3⟩ := cell x.toNat col (by omega) colm
    obtain ⟨b1, b2, b3⟩ := cell y.toNat col (by omega) colm
    have f1 : (80 * (t : Int) + 5 * x + (col : Int)).toNat = 80 * t + 5 * x.toNat + col := by omega
    have f2 : (80 * (t : Int) + 5 * y + (col : Int)).toNat = 80 * t + 5 * y.toNat + col := by omega
    have f3 : (5 * x + (col : Int)).toNat = 5 * x.toNat + col := by omega
    have f4 : (5 * y + (col : Int)).toNat = 5 * y.toNat + col := by omega
    refine decide_eq_decide.mpr ?_
    unfold ahC ahR
    rw [f1, f2, f3, f4, a2, b2]
    generalize V 106 0 (80 * t + 5 * x.toNat + col) = ba at *
    generalize V 106 0 (80 * t + 5 * y.toNat + col) = bb at *
    by_cases z1 : ba = 0
    · rw [(a3 z1).1]
      by_cases z2 : bb = 0
      · rw [(b3 z2).1]
        constructor
        · rintro ⟨g1, g2⟩
          exact ⟨z1, by rcases g2 with g2 | g2; omega; exact .inr g2⟩
        · rintro ⟨g1, g2⟩
          exact ⟨by omega, by rcases g2 with g2 | g2; exact absurd z2 g2; exact .inr g2⟩
      · exact ⟨fun _ => ⟨z1, .inl z2⟩, fun _ => ⟨by omega, .inl (by omega)⟩⟩
    · exact ⟨fun g => by have := g.1; omega, fun g => absurd g.1 z1⟩
  have hord := ordN_congr (V 109 0) ahE n (Nat.le_refl n)
  rw [hord] at p1
  have ho : rlO V t n col := fun x x0 x1 hb hl => by
    obtain ⟨a1, a2, a3⟩ := cell x.toNat col (by omega) colm
    have f1 : (80 * (t : Int) + 5 * x + (col : Int)).toNat = 80 * t + 5 * x.toNat + col := by omega
    rw [f1] at hb ⊢
    exact (a3 hb).2 (by omega)
  obtain ⟨B, C', D, b', c', e', q1, q2, q3⟩ := r_rank d (tS V t C F G) (t := t) (n := n) (col := col) c (by exact ⟨cb1, cb2⟩) (by exact i1'.2) (by exact hn) (by omega) (by exact ⟨u5, u6⟩) (by exact i2'.2) (by exact ho)
  have hO := ordN_in (ah := fun a b => decide (ahR V t col c a b)) (V 109 0) n
  have ecnt : cnt (fun j => decide (G j ≠ (j : Int))) n = cnt (fun j => decide (ordN (fun a b => decide (ahR V t col c a b)) n (V 109 0) j ≠ (j : Int))) n := cnt_congr (fun k hk => by rw [p1 k hk])
  rw [ecnt] at p3
  refine AG.mk (V1 := tS V t C F G) ?_ q3 ?_ rfl
  · rw [s_X11_rank, y_inRange, ci_r, ite_b2, if_pos (by omega), if_pos (by omega), y_inRange, ci_r, ite_b2, Int.toNat_natCast, u4, if_pos i2', if_pos (by omega), p3, ci_r]
    rfl
  · refine ⟨⟨ck1, ck2, ck3, cp1, cp2, cp3, ct1, ct2, ct3, cs1, cs2, cs3, cq1, cq2, cq3, cr1, cr2, cr3, cf1, cf2, cf3, cb1, cb2, cb3, cw1, cw2, cw3, clf, clc⟩, hkin, hpro, husu, hgiv, hthg, hhom, hput, hrin, hsen, hbar, hset, hmos, hpai, hrel, hmap, hdoo, hshe, ?_, hwor⟩
    refine I_tab.rank htab hn hm (by omega) hO rfl rfl rfl rfl rfl rfl (fun q hq => ?_) (fun j x hj hx => ?_) (fun j x hj hx => ?_) (fun i hi => ?_)
    · constructor
      · funext z
        show (tS V t C F G) 63 q z = V 63 q z
        unfold tS
        rw [if_neg (by omega), if_neg (by omega), if_neg (by omega)]
      · funext z
        show (tS V t C F G) 64 q z = V 64 q z
        unfold tS
        rw [if_neg (by omega), if_neg (by omega), if_neg (by omega)]
    · obtain ⟨z1, z2⟩ := p2 j x hj hx
      rw [p1 j hj] at z1 z2
      constructor
      · show (tS V t C F G) 63 t (5 * j + x) = _
        rw [tS_63]; exact z1
      · show (tS V t C F G) 64 t (5 * j + x) = _
        rw [tS_64]; exact z2
    · obtain ⟨z1, z2, z3⟩ := q1 j x hj (by omega)
      obtain ⟨o1, o2⟩ := hO j hj
      have b01 := (cell (ordN (fun a b => decide (ahR V t col c a b)) n (V 109 0) j).toNat x (by omega) hx).1
      refine ⟨?_, z2, z3⟩
      have z1' : B (80 * t + 5 * j + x) = V 106 0 (80 * t + 5 * (ordN (fun a b => decide (ahR V t col c a b)) n (V 109 0) j).toNat + x) % 2 % 2 := z1
      show B (80 * t + 5 * j + x) = _
      rw [z1']
      omega
    · exact q2 i hi
