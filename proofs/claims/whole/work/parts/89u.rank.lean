/-! rank: the order, and the class's rows -/
def insN (ah : Int → Int → Bool) (row : Int) : Nat → (Nat → Int) → (Nat → Int)
  | 0, O => zup O 0 row
  | k + 1, O => if ah row (O k) = true then insN ah row k (zup O (k + 1) (O k)) else zup O (k + 1) row
def ordN (ah : Int → Int → Bool) : Nat → (Nat → Int) → (Nat → Int)
  | 0, O => O
  | n + 1, O => insN ah (n : Int) n (ordN ah n O)
theorem insN_s (ah : Int → Int → Bool) (row : Int) (k : Nat) (O : Nat → Int) : insN ah row (k + 1) O = if ah row (O k) = true then insN ah row k (zup O (k + 1) (O k)) else zup O (k + 1) row := rfl
theorem insN_in {ah : Int → Int → Bool} {n : Nat} : ∀ (k : Nat) (O : Nat → Int), k ≤ n → (∀ j, j ≤ n → j ≠ k → 0 ≤ O j ∧ O j ≤ n) → ∀ j, j ≤ n → 0 ≤ insN ah (n : Int) k O j ∧ insN ah (n : Int) k O j ≤ n := by
  intro k
  induction k with
  | zero =>
    intro O hk hO j hj
    show 0 ≤ zup O 0 (n : Int) j ∧ zup O 0 (n : Int) j ≤ n
    by_cases c : j = 0
    · rw [c, zup_eq]; omega
    · rw [zup_ne c]; exact hO j hj c
  | succ k ih =>
    intro O hk hO j hj
    rw [insN_s]
    by_cases c : ah (n : Int) (O k) = true
    · rw [if_pos c]
      refine ih _ (by omega) (fun i hi hik => ?_) j hj
      by_cases c2 : i = k + 1
      · rw [c2, zup_eq]; exact hO k (by omega) (by omega)
      · rw [zup_ne c2]; exact hO i hi c2
    · rw [if_neg c]
      by_cases c2 : j = k + 1
      · rw [c2, zup_eq]; omega
      · rw [zup_ne c2]; exact hO j hj c2
theorem ordN_in {ah : Int → Int → Bool} (O : Nat → Int) : ∀ (n j : Nat), j < n → 0 ≤ ordN ah n O j ∧ ordN ah n O j < n := by
  intro n
  induction n with
  | zero => intro j hj; omega
  | succ n ih =>
    intro j hj
    have := insN_in (ah := ah) n (ordN ah n O) (Nat.le_refl n) (fun i hi hin => by have := ih i (by omega); omega) j (by omega)
    show 0 ≤ insN ah (n : Int) n (ordN ah n O) j ∧ insN ah (n : Int) n (ordN ah n O) j < ((n + 1 : Nat) : Int)
    omega
/-! the class's table while it is put in order -/
def tS (V : XM) (p : Nat) (C F G : Nat → Int) : XM := fun a b c => if a = 63 ∧ b = p then C c else if a = 64 ∧ b = p then F c else if a = 66 ∧ b = p then G c else V a b c
theorem tS_self (V : XM) (p : Nat) : tS V p (V 63 p) (V 64 p) (V 66 p) = V := by
  funext a b c; unfold tS
  by_cases h1 : a = 63 ∧ b = p
  · rw [if_pos h1, h1.1, h1.2]
  · rw [if_neg h1]
    by_cases h2 : a = 64 ∧ b = p
    · rw [if_pos h2, h2.1, h2.2]
    · rw [if_neg h2]
      by_cases h3 : a = 66 ∧ b = p
      · rw [if_pos h3, h3.1, h3.2]
      · rw [if_neg h3]
theorem tS_63 (V : XM) (p : Nat) (C F G : Nat → Int) (j : Nat) : (tS V p C F G) 63 p j = C j := if_pos ⟨rfl, rfl⟩
theorem tS_64 (V : XM) (p : Nat) (C F G : Nat → Int) (j : Nat) : (tS V p C F G) 64 p j = F j := by
  unfold tS; rw [if_neg (by omega), if_pos ⟨rfl, rfl⟩]
theorem tS_66 (V : XM) (p : Nat) (C F G : Nat → Int) (j : Nat) : (tS V p C F G) 66 p j = G j := by
  unfold tS; rw [if_neg (by omega), if_neg (by omega), if_pos ⟨rfl, rfl⟩]
theorem tS_13 (V : XM) (p : Nat) (C F G : Nat → Int) (q j : Nat) : (tS V p C F G) 13 q j = V 13 q j := by
  unfold tS; rw [if_neg (by omega), if_neg (by omega), if_neg (by omega)]
theorem tS_u63 (V : XM) (p : Nat) (C F G : Nat → Int) (j : Nat) (x : Int) : xu (tS V p C F G) 63 p j x = tS V p (zup C j x) F G := by
  funext a b c; unfold xu tS zup
  (repeat' split) <;> first | rfl | (exfalso; omega)
theorem tS_u64 (V : XM) (p : Nat) (C F G : Nat → Int) (j : Nat) (x : Int) : xu (tS V p C F G) 64 p j x = tS V p C (zup F j x) G := by
  funext a b c; unfold xu tS zup
  (repeat' split) <;> first | rfl | (exfalso; omega)
theorem tS_u66 (V : XM) (p : Nat) (C F G : Nat → Int) (j : Nat) (x : Int) : xu (tS V p C F G) 66 p j x = tS V p C F (zup G j x) := by
  funext a b c; unfold xu tS zup
  (repeat' split) <;> first | rfl | (exfalso; omega)
/-- two rows change places -/
def swp (a b j : Nat) : Nat := if j = a then b else if j = b then a else j
theorem x_sw (d : Nat) (V : XM) (p : Nat) {a b m : Nat} (G : Nat → Int) (hm : (V 13 p 5) = (m : Int)) (h5 : m ≤ 5) (ha : a < 16) (hb : b < 16) (hab : a ≠ b) : ∀ (s l : Nat) (C F : Nat → Int), m - l ≤ s → l ≤ m → (∀ x, x < m → (F (5 * a + x) = 0 ∨ F (5 * a + x) = 1) ∧ (F (5 * b + x) = 0 ∨ F (5 * b + x) = 1)) → ∃ C' F' : Nat → Int, (∀ j x, j < 16 → x < 5 → (l ≤ x ∧ x < m → C' (5 * j + x) = C (5 * swp a b j + x) ∧ F' (5 * j + x) = F (5 * swp a b j + x)) ∧ (¬ (l ≤ x ∧ x < m) → C' (5 * j + x) = C (5 * j + x) ∧ F' (5 * j + x) = F (5 * j + x))) ∧ Xf d 85 29 [xr 13 p, xi (a : Int), xi (b : Int), xr 0 0, xi (l : Int), xr 0 0, xr 0 0, xr 0 0, xr 0 0, xr 0 0] [] (tS V p C F G) = some (xi 0, tS V p C' F' G) := by
  intro s
  induction s with
  | zero =>
    intro l C F hs hl _
    refine ⟨C, F, fun j x _ _ => ⟨fun h => by omega, fun _ => ⟨rfl, rfl⟩⟩, ?_⟩
    rw [s_X7_swap_29, tS_13, hm, if_neg (by omega)]
  | succ s ih =>
    intro l C F hs hl hF
    by_cases hlt : l < m
    · have wa : Unit → w32 (w32 ((a : Int) * 5) + (l : Int)) = ((5 * a + l : Nat) : Int) := fun _ => by rw [w32_add, w32_i (by omega) (by omega)]; omega
      have wb : Unit → w32 (w32 ((b : Int) * 5) + (l : Int)) = ((5 * b + l : Nat) : Int) := fun _ => by rw [w32_add, w32_i (by omega) (by omega)]; omega
      have ra : 0 ≤ ((5 * a + l : Nat) : Int) ∧ ((5 * a + l : Nat) : Int) < 80 := by omega
      have rb : 0 ≤ ((5 * b + l : Nat) : Int) ∧ ((5 * b + l : Nat) : Int) < 80 := by omega
      have wl : Unit → w32 ((l : Int) + 1) = ((l + 1 : Nat) : Int) := fun _ => by rw [w32_i (by omega) (by omega)]; omega
      obtain ⟨f1, f2⟩ := hF l hlt
      have m1 : F (5 * a + l) % 2 = F (5 * a + l) := by omega
      have m2 : F (5 * b + l) % 2 = F (5 * b + l) := by omega
      have nab : 5 * a + l ≠ 5 * b + l := by omega
      obtain ⟨C', F', q1, q2⟩ := ih (l + 1) (zup (zup C (5 * a + l) (C (5 * b + l))) (5 * b + l) (C (5 * a + l))) (zup (zup F (5 * a + l) (F (5 * b + l))) (5 * b + l) (F (5 * a + l))) (by omega) (by omega) (fun x hx => by
        by_cases c : x = l
        · subst c
          rw [zup_ne nab, zup_eq, zup_eq]
          exact ⟨f2, f1⟩
        · rw [zup_ne (by omega), zup_ne (by omega), zup_ne (by omega), zup_ne (by omega)]
          exact hF x hx)
      refine ⟨C', F', fun j x hj hx => ?_, ?_⟩
      · obtain ⟨z1, z2⟩ := q1 j x hj hx
        refine ⟨fun h => ?_, fun h => ?_⟩
        · by_cases c : x = l
          · subst c
            obtain ⟨y1, y2⟩ := z2 (by omega)
            rw [y1, y2]
            unfold swp
            by_cases ja : j = a
            · subst ja; rw [if_pos rfl, zup_ne nab, zup_ne nab, zup_eq, zup_eq]; exact ⟨rfl, rfl⟩
            · rw [if_neg ja]
              by_cases jb : j = b
              · subst jb; rw [if_pos rfl, zup_eq, zup_eq]; exact ⟨rfl, rfl⟩
              · rw [if_neg jb, zup_ne (by omega), zup_ne (by omega), zup_ne (by omega), zup_ne (by omega)]; exact ⟨rfl, rfl⟩
          · obtain ⟨y1, y2⟩ := z1 (by omega)
            rw [y1, y2, zup_ne (by omega), zup_ne (by omega), zup_ne (by omega), zup_ne (by omega)]
            exact ⟨rfl, rfl⟩
        · obtain ⟨y1, y2⟩ := z2 (by omega)
          rw [y1, y2, zup_ne (by omega), zup_ne (by omega), zup_ne (by omega), zup_ne (by omega)]
          exact ⟨rfl, rfl⟩
      · rw [s_X7_swap_29, tS_13, hm, if_pos (by omega), wa (), wb (), if_pos ra, if_pos ra, if_pos rb, if_pos ra, if_pos rb, if_pos ra, if_pos rb, if_pos rb, wl ()]
        simp only [Int.toNat_natCast, tS_63, tS_64, tS_u63, tS_u64, m1, m2]
        exact q2
    · refine ⟨C, F, fun j x _ _ => ⟨fun h => by omega, fun _ => ⟨rfl, rfl⟩⟩, ?_⟩
      rw [s_X7_swap_29, tS_13, hm, if_neg (by omega)]
theorem y_swap (d : Nat) (V : XM) (p : Nat) {a b m : Nat} (C F G : Nat → Int) (hm : (V 13 p 5) = (m : Int)) (h5 : m ≤ 5) (ha : a < 16) (hb : b < 16) (hab : a ≠ b) (hF : ∀ x, x < m → (F (5 * a + x) = 0 ∨ F (5 * a + x) = 1) ∧ (F (5 * b + x) = 0 ∨ F (5 * b + x) = 1)) : ∃ C' F' : Nat → Int, (∀ j x, j < 16 → x < m → C' (5 * j + x) = C (5 * swp a b j + x) ∧ F' (5 * j + x) = F (5 * swp a b j + x)) ∧ Yf (d + 1) 85 [xr 13 p, xi (a : Int), xi (b : Int)] (tS V p C F G) = some (xi 0, tS V p C' F' (zup (zup G a (G b)) b (G a))) := by
  obtain ⟨C', F', q1, q2⟩ := x_sw d V p (zup (zup G a (G b)) b (G a)) hm h5 ha hb hab m 0 C F (by omega) (by omega) hF
  refine ⟨C', F', fun j x hj hx => (q1 j x hj (by omega)).1 (by omega), ?_⟩
  have ra : 0 ≤ (a : Int) ∧ (a : Int) < 16 := by omega
  have rb : 0 ≤ (b : Int) ∧ (b : Int) < 16 := by omega
  rw [s_X7_swap, if_pos ra, if_pos rb, if_pos ra, if_pos rb]
  simp only [Int.toNat_natCast, tS_66, tS_u66]
  exact q2
/-- a row is ahead of another, by cells and by whether they are filled -/
abbrev ahC (C F : Nat → Int) (col : Nat) (fal a b : Int) : Prop := F (5 * a + col).toNat ≠ 0 ∧ (F (5 * b + col).toNat = 0 ∨ (fal = 0 ∧ C (5 * a + col).toNat < C (5 * b + col).toNat) ∨ (fal ≠ 0 ∧ C (5 * b + col).toNat < C (5 * a + col).toNat))
theorem y_cAhead (d : Nat) (V : XM) (p : Nat) (C F G : Nat → Int) {a b col : Nat} (fal : Int) (ha : a < 16) (hb : b < 16) (hc : col < 5) : Yf (d + 2) 84 [xr 13 p, xi (a : Int), xi (b : Int), xi (col : Int), xi fal] (tS V p C F G) = some (xi (b2 (ahC C F col fal (a : Int) (b : Int))), tS V p C F G) := by
  have A1 := fun e => y_cBlank e (tS V p C F G) p (r := (a : Int)) (c := (col : Int)) (by omega) (by omega)
  have A2 := fun e => y_cBlank e (tS V p C F G) p (r := (b : Int)) (c := (col : Int)) (by omega) (by omega)
  have A3 := fun e => y_cTold e (tS V p C F G) p (r := (a : Int)) (c := (col : Int)) (by omega) (by omega)
  have A4 := fun e => y_cTold e (tS V p C F G) p (r := (b : Int)) (c := (col : Int)) (by omega) (by omega)
  rw [tS_64] at A1 A2
  rw [tS_63] at A3 A4
  rw [s_X7_isAhead, A1, ci_r, ite_b2]
  unfold ahC
  generalize F (5 * (a : Int) + (col : Int)).toNat = fa at *
  generalize F (5 * (b : Int) + (col : Int)).toNat = fb at *
  generalize C (5 * (a : Int) + (col : Int)).toNat = ca at *
  generalize C (5 * (b : Int) + (col : Int)).toNat = cb at *
  by_cases c1 : fa = 0
  · rw [if_pos c1, b2_0.mpr (fun z => z.1 c1)]
  · rw [if_neg c1, A2, ci_r, ite_b2]
    by_cases c2 : fb = 0
    · rw [if_pos c2, b2_1.mpr ⟨c1, .inl c2⟩]
    · rw [if_neg c2]
      by_cases c3 : fal = 0
      · rw [if_pos c3, A3, cl_r, A4, cl_r]
        simp only [cmp3_lt]
        by_cases c4 : ca < cb
        · rw [if_pos c4, b2_1.mpr ⟨c1, .inr (.inl ⟨c3, c4⟩)⟩]
        · rw [if_neg c4, b2_0.mpr (fun z => by
            rcases z.2 with z | z | z
            · exact c2 z
            · exact c4 z.2
            · exact z.1 c3)]
      · rw [if_neg c3, A3, cl_r, A4, cl_r]
        simp only [cmp3_gt]
        by_cases c4 : cb < ca
        · rw [if_pos c4, b2_1.mpr ⟨c1, .inr (.inr ⟨c3, c4⟩)⟩]
        · rw [if_neg c4, b2_0.mpr (fun z => by
            rcases z.2 with z | z | z
            · exact c2 z
            · exact c3 z.1
            · exact c4 z.2)]
/-- what stands where, in the middle of an insertion: row stands at k, the rest as O says -/
def rkI (n m : Nat) (C0 F0 C F G O : Nat → Int) (row k : Nat) : Prop :=
  (∀ j, j < n → G j = if j = k then (row : Int) else if j ≤ row then O j else (j : Int)) ∧ (∀ j x, j < n → x < m → C (5 * j + x) = C0 (5 * (G j).toNat + x) ∧ F (5 * j + x) = F0 (5 * (G j).toNat + x))
theorem x_or36 (d : Nat) (V : XM) (p : Nat) {n m col row : Nat} {fal : Int} {C0 F0 : Nat → Int} (hn : (V 13 p 4) = (n : Int)) (h16 : n ≤ 16) (hm : (V 13 p 5) = (m : Int)) (h5 : m ≤ 5) (hc : col < m) (hr : row < n) (h01 : ∀ j x, j < n → x < m → F0 (5 * j + x) = 0 ∨ F0 (5 * j + x) = 1) : ∀ (k : Nat) (C F G O : Nat → Int), k ≤ row → (∀ j, j ≤ row → j ≠ k → 0 ≤ O j ∧ O j < n) → rkI n m C0 F0 C F G O row k → ∃ C' F' G' : Nat → Int, rkI n m C0 F0 C' F' G' (insN (fun a b => decide (ahC C0 F0 col fal a b)) (row : Int) k O) (row + 1) (row + 1) ∧ Xf (d + 2) 83 36 [xr 13 p, xi (col : Int), xi fal, xi (row : Int), xi (k : Int)] [] (tS V p C F G) = Xf (d + 2) 83 25 [xr 13 p, xi (col : Int), xi fal, xi ((row + 1 : Nat) : Int), xr 0 0] [] (tS V p C' F' G') := by
  have wr : Unit → w32 ((row : Int) + 1) = ((row + 1 : Nat) : Int) := fun _ => by rw [w32_i (by omega) (by omega)]; omega
  have fin : ∀ (k : Nat) (C F G O : Nat → Int), k ≤ row → rkI n m C0 F0 C F G O row k → rkI n m C0 F0 C F G (zup O k (row : Int)) (row + 1) (row + 1) := by
    intro k C F G O hk h
    refine ⟨fun j hj => ?_, h.2⟩
    rw [h.1 j hj]
    by_cases c1 : j = k
    · subst c1
      rw [if_pos rfl, if_neg (by omega), if_pos (by omega), zup_eq]
    · rw [if_neg c1, zup_ne c1]
      by_cases c2 : j = row + 1
      · rw [if_pos c2, if_neg (by omega), c2]
      · rw [if_neg c2]
        by_cases c3 : j ≤ row
        · rw [if_pos c3, if_pos (by omega)]
        · rw [if_neg c3, if_neg (by omega)]
  intro k
  induction k with
  | zero =>
    intro C F G O hk hO h
    refine ⟨C, F, G, fin 0 C F G O hk h, ?_⟩
    rw [s_X7_order_36, if_neg (by omega), wr ()]
  | succ k ih =>
    intro C F G O hk hO h
    have w1 : Unit → w32 (((k + 1 : Nat) : Int) - 1) = (k : Int) := fun _ => by rw [w32_i (by omega) (by omega)]; omega
    have w2 : Unit → w32 (((k + 1 : Nat) : Int) + -1) = (k : Int) := fun _ => by rw [w32_i (by omega) (by omega)]; omega
    have g1 : G (k + 1) = (row : Int) := by rw [h.1 (k + 1) (by omega), if_pos rfl]
    have g0 : G k = O k := by rw [h.1 k (by omega), if_neg (by omega), if_pos (by omega)]
    obtain ⟨o1, o2⟩ := hO k (by omega) (by omega)
    have eah : ahC C F col fal ((k + 1 : Nat) : Int) (k : Int) ↔ ahC C0 F0 col fal (row : Int) (O k) := by
      have a1 := h.2 (k + 1) col (by omega) hc
      have a2 := h.2 k col (by omega) hc
      rw [g1, Int.toNat_natCast] at a1
      rw [g0] at a2
      have e1 : (5 * ((k + 1 : Nat) : Int) + (col : Int)).toNat = 5 * (k + 1) + col := by omega
      have e2 : (5 * (k : Int) + (col : Int)).toNat = 5 * k + col := by omega
      have e3 : (5 * (row : Int) + (col : Int)).toNat = 5 * row + col := by omega
      have e4 : (5 * O k + (col : Int)).toNat = 5 * (O k).toNat + col := by omega
      unfold ahC
      rw [e1, e2, e3, e4, a1.1, a1.2, a2.1, a2.2]
    rw [s_X7_order_36, if_pos (by omega), w1 (), w2 (), y_cAhead d V p C F G fal (by omega) (by omega) (by omega), ci_r, ite_b2, insN_s]
    by_cases c1 : ahC C F col fal ((k + 1 : Nat) : Int) (k : Int)
    · rw [if_pos c1, if_pos (decide_eq_true (eah.mp c1))]
      have hb01 : ∀ j, j < n → ∀ x, x < m → F (5 * j + x) = 0 ∨ F (5 * j + x) = 1 := fun j hj x hx => by
        have a1 := (h.2 j x hj hx).2
        rw [a1]
        have gj := h.1 j hj
        have : 0 ≤ G j ∧ G j < n := by
          rw [gj]
          by_cases c : j = k + 1
          · rw [if_pos c]; omega
          · rw [if_neg c]
            by_cases c' : j ≤ row
            · rw [if_pos c']; exact hO j c' c
            · rw [if_neg c']; omega
        exact h01 _ x (by omega) hx
      obtain ⟨C', F', q1, q2⟩ := y_swap (d + 1) V p C F G hm h5 (a := k + 1) (b := k) (by omega) (by omega) (by omega) (fun x hx => ⟨hb01 (k + 1) (by omega) x hx, hb01 k (by omega) x hx⟩)
      rw [q2, cv_r, g1, g0]
      refine ih C' F' _ _ (by omega) (fun j hj hjk => ?_) ⟨fun j hj => ?_, fun j x hj hx => ?_⟩
      · by_cases c : j = k + 1
        · rw [c, zup_eq]; exact ⟨o1, o2⟩
        · rw [zup_ne c]; exact hO j hj c
      · by_cases c : j = k
        · rw [c, zup_eq, if_pos rfl]
        · rw [zup_ne c, if_neg c]
          by_cases c2 : j = k + 1
          · rw [c2, zup_eq, if_pos (by omega), zup_eq]
          · rw [zup_ne c2, zup_ne c2, h.1 j hj, if_neg c2]
      · obtain ⟨y1, y2⟩ := q1 j x (by omega) hx
        rw [y1, y2]
        by_cases c : j = k
        · subst c
          have a1 := h.2 (j + 1) x (by omega) hx
          rw [g1] at a1
          unfold swp
          rw [if_neg (by omega), if_pos rfl, zup_eq]
          exact a1
        · rw [zup_ne c]
          by_cases c2 : j = k + 1
          · subst c2
            have a1 := h.2 k x (by omega) hx
            rw [g0] at a1
            unfold swp
            rw [if_pos rfl, zup_eq]
            exact a1
          · have a1 := h.2 j x hj hx
            unfold swp
            rw [if_neg c2, if_neg c, zup_ne c2]
            exact a1
    · rw [if_neg c1, if_neg (by rw [decide_eq_true_eq]; exact fun z => c1 (eah.mpr z)), wr ()]
      exact ⟨C, F, G, fin (k + 1) C F G O hk h, rfl⟩
theorem x_or25 (d : Nat) (V : XM) (p : Nat) {n m col : Nat} {fal : Int} {C0 F0 : Nat → Int} (O0 : Nat → Int) (hn : (V 13 p 4) = (n : Int)) (h16 : n ≤ 16) (hm : (V 13 p 5) = (m : Int)) (h5 : m ≤ 5) (hc : col < m) (h01 : ∀ j x, j < n → x < m → F0 (5 * j + x) = 0 ∨ F0 (5 * j + x) = 1) : ∀ (s row : Nat) (C F G : Nat → Int), n - row ≤ s → row ≤ n → rkI n m C0 F0 C F G (ordN (fun a b => decide (ahC C0 F0 col fal a b)) row O0) row row → ∃ C' F' G' : Nat → Int, rkI n m C0 F0 C' F' G' (ordN (fun a b => decide (ahC C0 F0 col fal a b)) n O0) n n ∧ Xf (d + 2) 83 25 [xr 13 p, xi (col : Int), xi fal, xi (row : Int), xr 0 0] [] (tS V p C F G) = Xf (d + 2) 83 83 [xr 13 p, xr 0 0, xr 0 0, xi 0, xi 0] [] (tS V p C' F' G') := by
  intro s
  induction s with
  | zero =>
    intro row C F G hs hr h
    have : row = n := by omega
    subst this
    exact ⟨C, F, G, h, by rw [s_X7_order_25, tS_13, hn, if_neg (by omega)]⟩
  | succ s ih =>
    intro row C F G hs hr h
    by_cases hl : row < n
    · obtain ⟨C1, F1, G1, q1, q2⟩ := x_or36 d V p (fal := fal) hn h16 hm h5 hc hl h01 row C F G _ (Nat.le_refl row) (fun j hj hjr => by have := ordN_in (ah := fun a b => decide (ahC C0 F0 col fal a b)) O0 row j (by omega); omega) h
      obtain ⟨C2, F2, G2, q3, q4⟩ := ih (row + 1) C1 F1 G1 (by omega) (by omega) q1
      refine ⟨C2, F2, G2, q3, ?_⟩
      rw [s_X7_order_25, tS_13, hn, if_pos (by omega), q2, q4]
    · have : row = n := by omega
      subst this
      exact ⟨C, F, G, h, by rw [s_X7_order_25, tS_13, hn, if_neg (by omega)]⟩
theorem x_or83 (d : Nat) (V : XM) (p : Nat) {n : Nat} (hn : (V 13 p 4) = (n : Int)) (h16 : n ≤ 16) (C F G : Nat → Int) : ∀ (s l : Nat), n - l ≤ s → l ≤ n → Xf d 83 83 [xr 13 p, xr 0 0, xr 0 0, xi (cnt (fun j => decide (G j ≠ (j : Int))) l), xi (l : Int)] [] (tS V p C F G) = some (xi (cnt (fun j => decide (G j ≠ (j : Int))) n), tS V p C F G) := by
  intro s
  induction s with
  | zero =>
    intro l hs hl
    have : l = n := by omega
    subst this
    rw [s_X7_order_83, tS_13, hn, if_neg (by omega)]
  | succ s ih =>
    intro l hs hl
    by_cases hlt : l < n
    · have ih := ih (l + 1) (by omega) (by omega)
      have hb := cnt_b (fun j => decide (G j ≠ (j : Int))) l
      have wl : Unit → w32 ((l : Int) + 1) = ((l + 1 : Nat) : Int) := fun _ => by rw [w32_i (by omega) (by omega)]; omega
      have e : cnt (fun j => decide (G j ≠ (j : Int))) (l + 1) = cnt (fun j => decide (G j ≠ (j : Int))) l + (if decide (G l ≠ (l : Int)) = true then 1 else 0) := rfl
      rw [s_X7_order_83, tS_13, hn, if_pos (by omega), if_pos (by omega), Int.toNat_natCast, tS_66, wl (), ← ih, e]
      by_cases c : G l = (l : Int)
      · rw [if_pos c, if_neg (by simp [c]), Int.add_zero]
      · rw [if_neg c, if_pos (decide_eq_true c), w32_i (by omega) (by omega)]
    · have : l = n := by omega
      subst this
      rw [s_X7_order_83, tS_13, hn, if_neg (by omega)]
theorem x_or2 (d : Nat) (V : XM) (p : Nat) {n : Nat} (col : Nat) (fal : Int) (hn : (V 13 p 4) = (n : Int)) (h16 : n ≤ 16) (C F : Nat → Int) : ∀ (s l : Nat) (G : Nat → Int), n - l ≤ s → l ≤ n → (∀ j, j < l → G j = (j : Int)) → ∃ G' : Nat → Int, (∀ j, j < n → G' j = (j : Int)) ∧ Xf d 83 2 [xr 13 p, xi (col : Int), xi fal, xi (l : Int), xr 0 0] [] (tS V p C F G) = Xf d 83 25 [xr 13 p, xi (col : Int), xi fal, xi 1, xr 0 0] [] (tS V p C F G') := by
  intro s
  induction s with
  | zero =>
    intro l G hs hl hG
    have : l = n := by omega
    subst this
    exact ⟨G, hG, by rw [s_X7_order_2, tS_13, hn, if_neg (by omega)]⟩
  | succ s ih =>
    intro l G hs hl hG
    by_cases hlt : l < n
    · have wl : Unit → w32 ((l : Int) + 1) = ((l + 1 : Nat) : Int) := fun _ => by rw [w32_i (by omega) (by omega)]; omega
      obtain ⟨G', q1, q2⟩ := ih (l + 1) (zup G l (l : Int)) (by omega) (by omega) (fun j hj => by
        by_cases c : j = l
        · rw [c, zup_eq]
        · rw [zup_ne c]; exact hG j (by omega))
      refine ⟨G', q1, ?_⟩
      rw [s_X7_order_2, tS_13, hn, if_pos (by omega), if_pos (by omega), Int.toNat_natCast, tS_u66, wl (), q2]
    · have : l = n := by omega
      subst this
      exact ⟨G, hG, by rw [s_X7_order_2, tS_13, hn, if_neg (by omega)]⟩
/-- the class's order -/
theorem y_order (d : Nat) (V : XM) (p : Nat) {n m col : Nat} (fal : Int) (O0 : Nat → Int) (hn : (V 13 p 4) = (n : Int)) (h1 : 1 ≤ n) (h16 : n ≤ 16) (hm : (V 13 p 5) = (m : Int)) (h5 : m ≤ 5) (hc : col < m) (h01 : ∀ j x, j < n → x < m → V 64 p (5 * j + x) = 0 ∨ V 64 p (5 * j + x) = 1) : ∃ C F G : Nat → Int, (∀ j, j < n → G j = ordN (fun a b => decide (ahC (V 63 p) (V 64 p) col fal a b)) n O0 j) ∧ (∀ j x, j < n → x < m → C (5 * j + x) = V 63 p (5 * (G j).toNat + x) ∧ F (5 * j + x) = V 64 p (5 * (G j).toNat + x)) ∧ Yf (d + 3) 83 [xr 13 p, xi (col : Int), xi fal] V = some (xi (cnt (fun j => decide (G j ≠ (j : Int))) n), tS V p C F G) := by
  obtain ⟨G1, a1, a2⟩ := x_or2 (d + 2) V p col fal hn h16 (V 63 p) (V 64 p) n 0 (V 66 p) (by omega) (by omega) (fun j hj => by omega)
  have e1 : ordN (fun a b => decide (ahC (V 63 p) (V 64 p) col fal a b)) 1 O0 = zup O0 0 0 := rfl
  obtain ⟨C, F, G, b1, b2⟩ := x_or25 d V p (fal := fal) (C0 := V 63 p) (F0 := V 64 p) O0 hn h16 hm h5 hc h01 n 1 (V 63 p) (V 64 p) G1 (by omega) (by omega) ⟨fun j hj => by
    rw [a1 j hj, e1]
    by_cases c : j = 1
    · rw [if_pos c, c]
    · rw [if_neg c]
      by_cases c2 : j ≤ 1
      · rw [if_pos c2, show j = 0 by omega, zup_eq]; rfl
      · rw [if_neg c2], fun j x hj _ => by rw [a1 j hj, Int.toNat_natCast]; exact ⟨rfl, rfl⟩⟩
  refine ⟨C, F, G, fun j hj => ?_, b1.2, ?_⟩
  · rw [b1.1 j hj, if_neg (by omega), if_pos (by omega)]
  · rw [tS_self] at a2
    have a2' : Xf (d + 2) 83 2 [xr 13 p, xi (col : Int), xi fal, xi 0, xr 0 0] [] V = Xf (d + 2) 83 25 [xr 13 p, xi (col : Int), xi fal, xi 1, xr 0 0] [] (tS V p (V 63 p) (V 64 p) G1) := a2
    have c := x_or83 (d + 2) V p hn h16 C F G n 0 (by omega) (by omega)
    have b2' : Xf (d + 2) 83 25 [xr 13 p, xi (col : Int), xi fal, xi 1, xr 0 0] [] (tS V p (V 63 p) (V 64 p) G1) = _ := b2
    rw [s_X7_order, a2', b2']
    exact c
