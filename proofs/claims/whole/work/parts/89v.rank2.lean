/-! rank: the reference -/
abbrev ahR (V : XM) (t col : Nat) (fal a b : Int) : Prop := (V 106 0 ((80 * t + 5 * a + col).toNat)) = 0 ∧ ((V 106 0 ((80 * t + 5 * b + col).toNat)) ≠ 0 ∨ (fal = 0 ∧ (V 107 0 ((80 * t + 5 * a + col).toNat)) < (V 107 0 ((80 * t + 5 * b + col).toNat))) ∨ (fal ≠ 0 ∧ (V 107 0 ((80 * t + 5 * b + col).toNat)) < (V 107 0 ((80 * t + 5 * a + col).toNat))))
/-- cells and reals of a column are of one order -/
def rlO (V : XM) (t n col : Nat) : Prop := ∀ a : Int, 0 ≤ a → a < n → (V 106 0 ((80 * t + 5 * a + col).toNat)) = 0 → (V 105 0 ((5 * t + col))) = 6 ∨ (V 105 0 ((5 * t + col))) = 7 → isReal (V 105 0 ((5 * t + col))) (V 107 0 ((80 * t + 5 * a + col).toNat)) (V 108 0 ((80 * t + 5 * a + col).toNat))
theorem y_rAhead (d : Nat) (V : XM) {t n col : Nat} {a b : Int} (fal : Int) (ht : t < 6) (h16 : n ≤ 16) (hc : col < 5) (ha : 0 ≤ a ∧ a < n) (hb : 0 ≤ b ∧ b < n) (ho : rlO V t n col) : Yf (d + 2) 294 [xr 14 0, xi (t : Int), xi (col : Int), xi a, xi b, xi fal] V = some (xi (b2 (ahR V t col fal a b)), V) := by
  have oa := ho a ha.1 ha.2
  have ob := ho b hb.1 hb.2
  have A1 := fun e => y_cellAt e V (t := (t : Int)) (r := a) (c := (col : Int)) (by omega) (by omega) (by omega)
  have A2 := fun e => y_cellAt e V (t := (t : Int)) (r := b) (c := (col : Int)) (by omega) (by omega) (by omega)
  have wl : Unit → w32 (w32 (5 * (t : Int)) + (col : Int)) = ((5 * t + col : Nat) : Int) := fun _ => by rw [w32_add, w32_i (by omega) (by omega)]; omega
  have r1 : 0 ≤ 80 * (t : Int) + 5 * a + (col : Int) ∧ 80 * (t : Int) + 5 * a + (col : Int) < 480 := by omega
  have r2 : 0 ≤ 80 * (t : Int) + 5 * b + (col : Int) ∧ 80 * (t : Int) + 5 * b + (col : Int) < 480 := by omega
  have r3 : 0 ≤ ((5 * t + col : Nat) : Int) ∧ ((5 * t + col : Nat) : Int) < 30 := by omega
  have e203 : ∀ y0 y1 : Int, (y0 = 0 ∨ y0 = 1) → (y1 = 0 ∨ y1 = 1) → Xf (d + 1) 294 203 [xr 0 0, xr 0 0, xr 0 0, xr 0 0, xr 0 0, xi fal, xr 0 0, xr 0 0, xr 0 0, xi y0, xr 0 0] [xi y1] V = some (xi (if fal = 0 then y0 else y1), V) := fun y0 y1 h0 h1 => by
    rw [s_X12_isAhead_203]
    by_cases c : fal = 0
    · rw [if_pos c, if_pos c, s_X12_isAhead_217, if_pos h0]
    · rw [if_neg c, if_neg c, s_X12_isAhead_217, if_pos h1]
  have e62 : ∀ y : Int, (y = 0 ∨ y = 1) → Xf (d + 1) 294 62 [xr 0 0, xr 0 0, xr 0 0, xr 0 0, xr 0 0, xr 0 0, xr 0 0, xr 0 0, xr 0 0, xr 0 0, xr 0 0] [xi y] V = some (xi y, V) := fun y hy => by
    rw [s_X12_isAhead_62, if_pos hy]
  rw [s_X12_isAhead, A1, ci_r, A2, ci_r, if_pos r1, wl (), Int.toNat_natCast]
  have e138 : ∀ y0 : Int, (y0 = 0 ∨ y0 = 1) → Xf (d + 1) 294 138 [xr 14 0, xr 0 0, xr 0 0, xr 0 0, xr 0 0, xi fal, xi (80 * (t : Int) + 5 * a + (col : Int)), xi (80 * (t : Int) + 5 * b + (col : Int)), xi (V 105 0 (5 * t + col)), xr 0 0, xr 0 0] [xi y0] V = some (xi (if fal = 0 then y0 else b2 (if (V 105 0 (5 * t + col)) = 6 ∨ (V 105 0 (5 * t + col)) = 7 then 0 < fDcmp .l (V 108 0 ((80 * t + 5 * a + col).toNat)) (V 108 0 ((80 * t + 5 * b + col).toNat)) else (V 107 0 ((80 * t + 5 * b + col).toNat)) < (V 107 0 ((80 * t + 5 * a + col).toNat)))), V) := fun y0 h0 => by
    rw [s_X12_isAhead_138]
    simp only [cmp3_gt]
    by_cases l6 : (V 105 0 (5 * t + col)) = 6
    · rw [if_pos l6, if_pos r1, if_pos r2, e203 _ _ h0 (.inr rfl), e203 _ _ h0 (.inl rfl)]
      simp only [if_pos (Or.inl l6 : (V 105 0 (5 * t + col)) = 6 ∨ (V 105 0 (5 * t + col)) = 7)]
      unfold b2
      (repeat' split) <;> rfl
    · rw [if_neg l6]
      by_cases l7 : (V 105 0 (5 * t + col)) = 7
      · rw [if_pos l7, if_pos r1, if_pos r2, e203 _ _ h0 (.inr rfl), e203 _ _ h0 (.inl rfl)]
        simp only [if_pos (Or.inr l7 : (V 105 0 (5 * t + col)) = 6 ∨ (V 105 0 (5 * t + col)) = 7)]
        unfold b2
        (repeat' split) <;> rfl
      · have ln : ¬ ((V 105 0 (5 * t + col)) = 6 ∨ (V 105 0 (5 * t + col)) = 7) := fun z => by rcases z with z | z; exact l6 z; exact l7 z
        rw [if_neg l7, if_pos r1, if_pos r2, e203 _ _ h0 (.inr rfl), e203 _ _ h0 (.inl rfl)]
        simp only [if_neg ln]
        unfold b2
        (repeat' split) <;> rfl
  unfold ahR
  generalize hl : (V 105 0 (5 * t + col)) = l at *
  generalize (V 106 0 ((80 * t + 5 * a + col).toNat)) = ba at *
  generalize (V 106 0 ((80 * t + 5 * b + col).toNat)) = bb at *
  generalize (V 107 0 ((80 * t + 5 * a + col).toNat)) = ca at *
  generalize (V 107 0 ((80 * t + 5 * b + col).toNat)) = cb at *
  generalize (V 108 0 ((80 * t + 5 * a + col).toNat)) = ra at *
  generalize (V 108 0 ((80 * t + 5 * b + col).toNat)) = rb at *
  by_cases c1 : ba = 0
  · rw [if_pos c1, if_pos r2]
    by_cases c2 : bb = 0
    · have key : ∀ op, (l = 6 ∨ l = 7) → (fDcmp op ra rb < 0 ↔ ca < cb) ∧ (0 < fDcmp op ra rb ↔ cb < ca) := fun op hl => dcmp_real (oa c1 hl) (ob c2 hl) op
      have fin : ∀ y0 : Int, y0 = b2 (ca < cb) → some (xi (if fal = 0 then y0 else b2 (if l = 6 ∨ l = 7 then 0 < fDcmp .l ra rb else cb < ca)), V) = (some (xi (b2 (ba = 0 ∧ (bb ≠ 0 ∨ (fal = 0 ∧ ca < cb) ∨ (fal ≠ 0 ∧ cb < ca)))), V) : XR) := fun y0 hy => by
        have h2 : (if l = 6 ∨ l = 7 then 0 < fDcmp .l ra rb else cb < ca) ↔ cb < ca := by
          by_cases hl : l = 6 ∨ l = 7
          · rw [if_pos hl]; exact (key .l hl).2
          · rw [if_neg hl]
        rw [hy]
        by_cases cf : fal = 0
        · rw [if_pos cf]
          refine someb ⟨fun z => ⟨c1, .inr (.inl ⟨cf, z⟩)⟩, fun z => ?_⟩
          rcases z.2 with z | z | z
          · exact absurd c2 z
          · exact z.2
          · exact absurd cf z.1
        · rw [if_neg cf]
          refine someb (h2.trans ⟨fun z => ⟨c1, .inr (.inr ⟨cf, z⟩)⟩, fun z => ?_⟩)
          rcases z.2 with z | z | z
          · exact absurd c2 z
          · exact absurd z.1 cf
          · exact z.2
      rw [if_pos c2, if_pos r3]
      simp only [cmp3_lt]
      by_cases l6 : l = 6
      · rw [if_pos l6, if_pos r1, if_pos r2, e138 _ (.inr rfl), e138 _ (.inl rfl)]
        have k := (key .g (.inl l6)).1
        by_cases c3 : ca < cb
        · rw [if_pos (k.mpr c3)]; exact fin 1 (b2_1.mpr c3).symm
        · rw [if_neg (fun z => c3 (k.mp z))]; exact fin 0 (b2_0.mpr c3).symm
      · rw [if_neg l6]
        by_cases l7 : l = 7
        · rw [if_pos l7, if_pos r1, if_pos r2, e138 _ (.inr rfl), e138 _ (.inl rfl)]
          have k := (key .g (.inr l7)).1
          by_cases c3 : ca < cb
          · rw [if_pos (k.mpr c3)]; exact fin 1 (b2_1.mpr c3).symm
          · rw [if_neg (fun z => c3 (k.mp z))]; exact fin 0 (b2_0.mpr c3).symm
        · rw [if_neg l7, if_pos r1, if_pos r2, e138 _ (.inr rfl), e138 _ (.inl rfl)]
          by_cases c3 : ca < cb
          · rw [if_pos c3]; exact fin 1 (b2_1.mpr c3).symm
          · rw [if_neg c3]; exact fin 0 (b2_0.mpr c3).symm
    · rw [if_neg c2, if_pos r1, if_pos c1, if_pos r2, if_neg c2, e62 _ (.inr rfl), b2_1.mpr ⟨c1, .inl c2⟩]
  · rw [if_neg c1, if_pos r1, if_neg c1, e62 _ (.inl rfl), b2_0.mpr (fun z => c1 z.1)]
theorem x_rk44 (d : Nat) (V : XM) {t n col row : Nat} {fal : Int} (ht : t < 6) (h16 : n ≤ 16) (hc : col < 5) (hr : row < n) (ho : rlO V t n col) : ∀ (k : Nat) (O : Nat → Int), k ≤ row → (∀ j, j ≤ row → j ≠ k → 0 ≤ O j ∧ O j < n) → Xf (d + 2) 295 44 [xr 14 0, xi (t : Int), xi (col : Int), xi fal, xi (row : Int), xi (k : Int), xr 0 0] [] (xrow V 109 O) = Xf (d + 2) 295 29 [xr 14 0, xi (t : Int), xi (col : Int), xi fal, xi ((row + 1 : Nat) : Int), xr 0 0, xr 0 0] [] (xrow V 109 (insN (fun a b => decide (ahR V t col fal a b)) (row : Int) k O)) := by
  have wr : Unit → w32 ((row : Int) + 1) = ((row + 1 : Nat) : Int) := fun _ => by rw [w32_i (by omega) (by omega)]; omega
  have e109 : ∀ O j, (xrow V 109 O) 109 0 j = O j := fun O j => rfl
  intro k
  induction k with
  | zero =>
    intro O hk hO
    have e0 : insN (fun a b => decide (ahR V t col fal a b)) (row : Int) 0 O = zup O 0 (row : Int) := rfl
    rw [s_X12_rank_44, if_neg (by omega), if_pos (by omega), wr (), xrow_u, e0]
    rfl
  | succ k ih =>
    intro O hk hO
    have w1 : Unit → w32 (((k + 1 : Nat) : Int) - 1) = (k : Int) := fun _ => by rw [w32_i (by omega) (by omega)]; omega
    have w2 : Unit → w32 (((k + 1 : Nat) : Int) + -1) = (k : Int) := fun _ => by rw [w32_i (by omega) (by omega)]; omega
    obtain ⟨o1, o2⟩ := hO k (by omega) (by omega)
    have hA := y_rAhead d (xrow V 109 O) (t := t) (n := n) (col := col) (a := (row : Int)) (b := O k) fal ht h16 hc (by omega) ⟨o1, o2⟩ (by exact ho)
    have hA' : Yf (d + 2) 294 [xr 14 0, xi (t : Int), xi (col : Int), xi (row : Int), xi (O k), xi fal] (xrow V 109 O) = some (xi (b2 (ahR V t col fal (row : Int) (O k))), xrow V 109 O) := hA
    rw [s_X12_rank_44, if_pos (by omega), w1 (), if_pos (by omega), Int.toNat_natCast, e109, hA', ci_r, ite_b2, insN_s]
    by_cases c1 : ahR V t col fal (row : Int) (O k)
    · rw [if_pos c1, if_pos (decide_eq_true c1), if_pos (by omega), if_pos (by omega), w2 (), Int.toNat_natCast, xrow_u]
      refine ih _ (by omega) (fun j hj hjk => ?_)
      by_cases c : j = k + 1
      · rw [c, zup_eq]; exact ⟨o1, o2⟩
      · rw [zup_ne c]; exact hO j hj c
    · rw [if_neg c1, if_neg (c := decide (ahR V t col fal (row : Int) (O k)) = true) (by rw [decide_eq_true_eq]; exact c1), if_pos (by omega), wr (), Int.toNat_natCast, xrow_u]
theorem x_rk29 (d : Nat) (V : XM) {t n col : Nat} {fal : Int} (O0 : Nat → Int) (ht : t < 6) (hn : (V 103 0 t) = (n : Int)) (h16 : n ≤ 16) (hc : col < 5) (ho : rlO V t n col) : ∀ (s row : Nat), n - row ≤ s → row ≤ n → Xf (d + 2) 295 29 [xr 14 0, xi (t : Int), xi (col : Int), xi fal, xi (row : Int), xr 0 0, xr 0 0] [] (xrow V 109 (ordN (fun a b => decide (ahR V t col fal a b)) row O0)) = Xf (d + 2) 295 110 [xr 14 0, xi (t : Int), xr 0 0, xr 0 0, xi 0, xr 0 0, xr 0 0] [] (xrow V 109 (ordN (fun a b => decide (ahR V t col fal a b)) n O0)) := by
  have e103 : ∀ O, (xrow V 109 O) 103 0 t = (n : Int) := fun O => hn
  intro s
  induction s with
  | zero =>
    intro row hs hr
    have : row = n := by omega
    subst this
    rw [s_X12_rank_29, if_pos (by omega), Int.toNat_natCast, e103, if_neg (by omega)]
  | succ s ih =>
    intro row hs hr
    by_cases hl : row < n
    · have q := x_rk44 d V (fal := fal) ht h16 hc hl ho row (ordN (fun a b => decide (ahR V t col fal a b)) row O0) (Nat.le_refl row) (fun j hj hjr => by have := ordN_in (ah := fun a b => decide (ahR V t col fal a b)) O0 row j (by omega); omega)
      rw [s_X12_rank_29, if_pos (by omega), Int.toNat_natCast, e103, if_pos (by omega), q]
      exact ih (row + 1) (by omega) (by omega)
    · have : row = n := by omega
      subst this
      rw [s_X12_rank_29, if_pos (by omega), Int.toNat_natCast, e103, if_neg (by omega)]
/-- the reference's rows while a table is put in order -/
def kS (V : XM) (B C D b c e : Nat → Int) : XM := fun x y z => if x = 106 ∧ y = 0 then B z else if x = 107 ∧ y = 0 then C z else if x = 108 ∧ y = 0 then D z else if x = 110 ∧ y = 0 then b z else if x = 111 ∧ y = 0 then c z else if x = 112 ∧ y = 0 then e z else V x y z
theorem kS_self (V : XM) : kS V (V 106 0) (V 107 0) (V 108 0) (V 110 0) (V 111 0) (V 112 0) = V := by
  funext x y z; unfold kS
  by_cases h1 : x = 106 ∧ y = 0
  · rw [if_pos h1, h1.1, h1.2]
  · rw [if_neg h1]
    by_cases h2 : x = 107 ∧ y = 0
    · rw [if_pos h2, h2.1, h2.2]
    · rw [if_neg h2]
      by_cases h3 : x = 108 ∧ y = 0
      · rw [if_pos h3, h3.1, h3.2]
      · rw [if_neg h3]
        by_cases h4 : x = 110 ∧ y = 0
        · rw [if_pos h4, h4.1, h4.2]
        · rw [if_neg h4]
          by_cases h5 : x = 111 ∧ y = 0
          · rw [if_pos h5, h5.1, h5.2]
          · rw [if_neg h5]
            by_cases h6 : x = 112 ∧ y = 0
            · rw [if_pos h6, h6.1, h6.2]
            · rw [if_neg h6]
theorem kS_106 (V : XM) (B C D b c e : Nat → Int) (j : Nat) : (kS V B C D b c e) 106 0 j = B j := rfl
theorem kS_107 (V : XM) (B C D b c e : Nat → Int) (j : Nat) : (kS V B C D b c e) 107 0 j = C j := rfl
theorem kS_108 (V : XM) (B C D b c e : Nat → Int) (j : Nat) : (kS V B C D b c e) 108 0 j = D j := rfl
theorem kS_110 (V : XM) (B C D b c e : Nat → Int) (j : Nat) : (kS V B C D b c e) 110 0 j = b j := rfl
theorem kS_111 (V : XM) (B C D b c e : Nat → Int) (j : Nat) : (kS V B C D b c e) 111 0 j = c j := rfl
theorem kS_112 (V : XM) (B C D b c e : Nat → Int) (j : Nat) : (kS V B C D b c e) 112 0 j = e j := rfl
theorem kS_u106 (V : XM) (B C D b c e : Nat → Int) (j : Nat) (v : Int) : xu (kS V B C D b c e) 106 0 j v = kS V (zup B j v) C D b c e := by
  funext x y z; unfold xu kS zup
  (repeat' split) <;> first | rfl | (exfalso; omega)
theorem kS_u107 (V : XM) (B C D b c e : Nat → Int) (j : Nat) (v : Int) : xu (kS V B C D b c e) 107 0 j v = kS V B (zup C j v) D b c e := by
  funext x y z; unfold xu kS zup
  (repeat' split) <;> first | rfl | (exfalso; omega)
theorem kS_u108 (V : XM) (B C D b c e : Nat → Int) (j : Nat) (v : Int) : xu (kS V B C D b c e) 108 0 j v = kS V B C (zup D j v) b c e := by
  funext x y z; unfold xu kS zup
  (repeat' split) <;> first | rfl | (exfalso; omega)
theorem kS_u110 (V : XM) (B C D b c e : Nat → Int) (j : Nat) (v : Int) : xu (kS V B C D b c e) 110 0 j v = kS V B C D (zup b j v) c e := by
  funext x y z; unfold xu kS zup
  (repeat' split) <;> first | rfl | (exfalso; omega)
theorem kS_u111 (V : XM) (B C D b c e : Nat → Int) (j : Nat) (v : Int) : xu (kS V B C D b c e) 111 0 j v = kS V B C D b (zup c j v) e := by
  funext x y z; unfold xu kS zup
  (repeat' split) <;> first | rfl | (exfalso; omega)
theorem kS_u112 (V : XM) (B C D b c e : Nat → Int) (j : Nat) (v : Int) : xu (kS V B C D b c e) 112 0 j v = kS V B C D b c (zup e j v) := by
  funext x y z; unfold xu kS zup
  (repeat' split) <;> first | rfl | (exfalso; omega)
theorem x_rk110 (d : Nat) (V : XM) {t : Nat} (ht : t < 6) (B C D : Nat → Int) : ∀ (s l : Nat) (b c e : Nat → Int), 80 - l ≤ s → l ≤ 80 → (∀ j, j < l → b j = B (80 * t + j) % 2 ∧ c j = C (80 * t + j) ∧ e j = D (80 * t + j)) → ∃ b' c' e' : Nat → Int, (∀ j, j < 80 → b' j = B (80 * t + j) % 2 ∧ c' j = C (80 * t + j) ∧ e' j = D (80 * t + j)) ∧ Xf d 295 110 [xr 14 0, xi (t : Int), xr 0 0, xr 0 0, xi (l : Int), xr 0 0, xr 0 0] [] (kS V B C D b c e) = Xf d 295 186 [xr 14 0, xi (t : Int), xr 0 0, xr 0 0, xi 0, xi 0, xr 0 0] [] (kS V B C D b' c' e') := by
  intro s
  induction s with
  | zero =>
    intro l b c e hs hl h
    have : l = 80 := by omega
    subst this
    exact ⟨b, c, e, h, by rw [s_X12_rank_110, if_neg (by omega)]⟩
  | succ s ih =>
    intro l b c e hs hl h
    by_cases hlt : l < 80
    · have wi : Unit → w32 (w32 (80 * (t : Int)) + (l : Int)) = ((80 * t + l : Nat) : Int) := fun _ => by rw [w32_add, w32_i (by omega) (by omega)]; omega
      have wl : Unit → w32 ((l : Int) + 1) = ((l + 1 : Nat) : Int) := fun _ => by rw [w32_i (by omega) (by omega)]; omega
      have r1 : 0 ≤ ((80 * t + l : Nat) : Int) ∧ ((80 * t + l : Nat) : Int) < 480 := by omega
      have r2 : 0 ≤ (l : Int) ∧ (l : Int) < 80 := by omega
      obtain ⟨b', c', e', q1, q2⟩ := ih (l + 1) (zup b l (B (80 * t + l) % 2)) (zup c l (C (80 * t + l))) (zup e l (D (80 * t + l))) (by omega) (by omega) (fun j hj => by
        by_cases k : j = l
        · subst k; rw [zup_eq, zup_eq, zup_eq]; exact ⟨rfl, rfl, rfl⟩
        · rw [zup_ne k, zup_ne k, zup_ne k]; exact h j (by omega))
      refine ⟨b', c', e', q1, ?_⟩
      rw [s_X12_rank_110, if_pos (by omega), wi (), if_pos r1, if_pos r2, if_pos r1, if_pos r2, if_pos r1, if_pos r2, wl ()]
      simp only [Int.toNat_natCast, kS_106, kS_107, kS_108, kS_u110, kS_u111, kS_u112]
      exact q2
    · have : l = 80 := by omega
      subst this
      exact ⟨b, c, e, h, by rw [s_X12_rank_110, if_neg (by omega)]⟩
/-- the rows up to r have come -/
def kI (t : Nat) (O b c e B0 C0 D0 B C D : Nat → Int) (P : Nat → Nat → Prop) : Prop :=
  (∀ j x, P j x → x < 5 → B (80 * t + 5 * j + x) = b (5 * (O j).toNat + x) % 2 ∧ C (80 * t + 5 * j + x) = c (5 * (O j).toNat + x) ∧ D (80 * t + 5 * j + x) = e (5 * (O j).toNat + x)) ∧ (∀ i, (i < 80 * t ∨ 80 * t + 80 ≤ i) → B i = B0 i ∧ C i = C0 i ∧ D i = D0 i)
theorem x_rk222 (d : Nat) (V : XM) {t n r : Nat} {O b c e B0 C0 D0 : Nat → Int} (ht : t < 6) (h16 : n ≤ 16) (hr : r < n) (hV : ∀ j, V 109 0 j = O j) (hO : ∀ j, j < n → 0 ≤ O j ∧ O j < n) (mv : Int) : ∀ (s l : Nat) (B C D : Nat → Int), 5 - l ≤ s → l ≤ 5 → kI t O b c e B0 C0 D0 B C D (fun j x => j < r ∨ (j = r ∧ x < l)) → ∃ B' C' D' : Nat → Int, kI t O b c e B0 C0 D0 B' C' D' (fun j _ => j < r + 1) ∧ Xf d 295 222 [xr 14 0, xi (t : Int), xr 0 0, xr 0 0, xi mv, xi (r : Int), xi (l : Int)] [] (kS V B C D b c e) = Xf d 295 186 [xr 14 0, xi (t : Int), xr 0 0, xr 0 0, xi mv, xi ((r + 1 : Nat) : Int), xr 0 0] [] (kS V B' C' D' b c e) := by
  have wr : Unit → w32 ((r : Int) + 1) = ((r + 1 : Nat) : Int) := fun _ => by rw [w32_i (by omega) (by omega)]; omega
  have last : ∀ (B C D : Nat → Int), kI t O b c e B0 C0 D0 B C D (fun j x => j < r ∨ (j = r ∧ x < 5)) → ∃ B' C' D' : Nat → Int, kI t O b c e B0 C0 D0 B' C' D' (fun j _ => j < r + 1) ∧ Xf d 295 222 [xr 14 0, xi (t : Int), xr 0 0, xr 0 0, xi mv, xi (r : Int), xi ((5 : Nat) : Int)] [] (kS V B C D b c e) = Xf d 295 186 [xr 14 0, xi (t : Int), xr 0 0, xr 0 0, xi mv, xi ((r + 1 : Nat) : Int), xr 0 0] [] (kS V B' C' D' b c e) := fun B C D h =>
    ⟨B, C, D, ⟨fun j x hj hx => h.1 j x (by omega) hx, h.2⟩, by rw [s_X12_rank_222, if_neg (by omega), wr ()]⟩
  intro s
  induction s with
  | zero =>
    intro l B C D hs hl h
    have : l = 5 := by omega
    subst this
    exact last B C D h
  | succ s ih =>
    intro l B C D hs hl h
    by_cases hlt : l < 5
    · obtain ⟨o1, o2⟩ := hO r hr
      obtain ⟨q, hq⟩ : ∃ q : Nat, O r = (q : Int) := ⟨(O r).toNat, by omega⟩
      have w1 : Unit → w32 (w32 (5 * (q : Int)) + (l : Int)) = ((5 * q + l : Nat) : Int) := fun _ => by rw [w32_add, w32_i (by omega) (by omega)]; omega
      have w2 : Unit → w32 (w32 (w32 (80 * (t : Int)) + w32 (5 * (r : Int))) + (l : Int)) = ((80 * t + 5 * r + l : Nat) : Int) := fun _ => by
        rw [w32_add, w32_i (x := 80 * (t : Int)) (by omega) (by omega), w32_i (x := 5 * (r : Int)) (by omega) (by omega), w32_i (by omega) (by omega)]; omega
      have wl : Unit → w32 ((l : Int) + 1) = ((l + 1 : Nat) : Int) := fun _ => by rw [w32_i (by omega) (by omega)]; omega
      have r1 : 0 ≤ ((5 * q + l : Nat) : Int) ∧ ((5 * q + l : Nat) : Int) < 80 := by omega
      have r2 : 0 ≤ ((80 * t + 5 * r + l : Nat) : Int) ∧ ((80 * t + 5 * r + l : Nat) : Int) < 480 := by omega
      have r3 : 0 ≤ (r : Int) ∧ (r : Int) < 16 := by omega
      have e109 : ∀ B C D, (kS V B C D b c e) 109 0 r = (q : Int) := fun B C D => by
        show V 109 0 r = _
        rw [hV, hq]
      obtain ⟨B', C', D', p1, p2⟩ := ih (l + 1) (zup B (80 * t + 5 * r + l) (b (5 * q + l) % 2)) (zup C (80 * t + 5 * r + l) (c (5 * q + l))) (zup D (80 * t + 5 * r + l) (e (5 * q + l))) (by omega) (by omega) ⟨fun j x hj hx => by
        by_cases k : j = r ∧ x = l
        · obtain ⟨k1, k2⟩ := k
          subst k1; subst k2
          rw [zup_eq, zup_eq, zup_eq, hq, Int.toNat_natCast]
          exact ⟨rfl, rfl, rfl⟩
        · rw [zup_ne (by omega), zup_ne (by omega), zup_ne (by omega)]
          exact h.1 j x (by omega) hx, fun i hi => by
        rw [zup_ne (by omega), zup_ne (by omega), zup_ne (by omega)]
        exact h.2 i hi⟩
      refine ⟨B', C', D', p1, ?_⟩
      rw [s_X12_rank_222, if_pos (by omega), if_pos r3, Int.toNat_natCast, e109, w1 (), w2 (), if_pos r1, if_pos r2, if_pos r3, if_pos r1, if_pos r2, if_pos r3, if_pos r1, if_pos r2, wl ()]
      simp only [Int.toNat_natCast, kS_110, kS_111, kS_112, kS_u106, kS_u107, kS_u108]
      exact p2
    · have : l = 5 := by omega
      subst this
      exact last B C D h
theorem x_rk186 (d : Nat) (V : XM) {t n : Nat} {O b c e B0 C0 D0 : Nat → Int} (ht : t < 6) (h16 : n ≤ 16) (hn : (V 103 0 t) = (n : Int)) (hV : ∀ j, V 109 0 j = O j) (hO : ∀ j, j < n → 0 ≤ O j ∧ O j < n) : ∀ (s r : Nat) (B C D : Nat → Int), n - r ≤ s → r ≤ n → kI t O b c e B0 C0 D0 B C D (fun j _ => j < r) → ∃ B' C' D' : Nat → Int, kI t O b c e B0 C0 D0 B' C' D' (fun j _ => j < n) ∧ Xf d 295 186 [xr 14 0, xi (t : Int), xr 0 0, xr 0 0, xi (cnt (fun j => decide (O j ≠ (j : Int))) r), xi (r : Int), xr 0 0] [] (kS V B C D b c e) = some (xi (cnt (fun j => decide (O j ≠ (j : Int))) n), kS V B' C' D' b c e) := by
  have e103 : ∀ B C D, (kS V B C D b c e) 103 0 t = (n : Int) := fun B C D => hn
  have e109 : ∀ B C D j, (kS V B C D b c e) 109 0 j = O j := fun B C D j => hV j
  intro s
  induction s with
  | zero =>
    intro r B C D hs hr h
    have : r = n := by omega
    subst this
    exact ⟨B, C, D, h, by rw [s_X12_rank_186, if_pos (by omega), Int.toNat_natCast, e103, if_neg (by omega)]⟩
  | succ s ih =>
    intro r B C D hs hr h
    by_cases hlt : r < n
    · have hb := cnt_b (fun j => decide (O j ≠ (j : Int))) r
      have ec : cnt (fun j => decide (O j ≠ (j : Int))) (r + 1) = cnt (fun j => decide (O j ≠ (j : Int))) r + (if decide (O r ≠ (r : Int)) = true then 1 else 0) := rfl
      obtain ⟨B1, C1, D1, p1, p2⟩ := x_rk222 d V ht h16 hlt hV hO (cnt (fun j => decide (O j ≠ (j : Int))) (r + 1)) 5 0 B C D (by omega) (by omega) ⟨fun j x hj hx => h.1 j x (by omega) hx, h.2⟩
      obtain ⟨B2, C2, D2, p3, p4⟩ := ih (r + 1) B1 C1 D1 (by omega) (by omega) p1
      refine ⟨B2, C2, D2, p3, ?_⟩
      have p2' : Xf d 295 222 [xr 14 0, xi (t : Int), xr 0 0, xr 0 0, xi (cnt (fun j => decide (O j ≠ (j : Int))) (r + 1)), xi (r : Int), xi 0] [] (kS V B C D b c e) = _ := p2
      rw [s_X12_rank_186, if_pos (by omega), Int.toNat_natCast, e103, if_pos (by omega), if_pos (by omega), Int.toNat_natCast, e109, ← p4, ← p2', ec]
      by_cases k : O r = (r : Int)
      · rw [if_pos k, if_neg (by simp [k]), w32_i (by omega) (by omega)]
      · rw [if_neg k, if_pos (decide_eq_true k), w32_i (by omega) (by omega)]
    · have : r = n := by omega
      subst this
      exact ⟨B, C, D, h, by rw [s_X12_rank_186, if_pos (by omega), Int.toNat_natCast, e103, if_neg (by omega)]⟩
