/-! the reference's couples -/
def xrow (V : XM) (g : Nat) (F : Nat → Int) : XM := fun a b c => if a = g ∧ b = 0 then F c else V a b c
theorem xrow_self (V : XM) (g : Nat) : xrow V g (V g 0) = V := by
  funext a b c; unfold xrow
  by_cases h1 : a = g ∧ b = 0
  · rw [if_pos h1, h1.1, h1.2]
  · rw [if_neg h1]
theorem xrow_u (V : XM) (g : Nat) (F : Nat → Int) (j : Nat) (x : Int) : xu (xrow V g F) g 0 j x = xrow V g (zup F j x) := by
  funext a b c; unfold xu xrow zup
  (repeat' split) <;> first | rfl | (exfalso; omega)
theorem xrow_e (V : XM) (g : Nat) (F : Nat → Int) (j : Nat) : (xrow V g F) g 0 j = F j := if_pos ⟨rfl, rfl⟩
def v01 (x : Int) (P : Prop) : Prop := (x = 0 ∧ ¬ P) ∨ (x = 1 ∧ P)
theorem v01.iff {x : Int} {P : Prop} (h : v01 x P) : x ≠ 0 ↔ P := by
  rcases h with ⟨h1, h2⟩ | ⟨h1, h2⟩
  · exact ⟨fun k => absurd h1 k, fun k => absurd k h2⟩
  · exact ⟨fun _ => h2, fun _ => by omega⟩
theorem v01.bit {x : Int} {P : Prop} (h : v01 x P) : x = 0 ∨ x = 1 := by
  rcases h with ⟨h1, _⟩ | ⟨h1, _⟩
  · exact .inl h1
  · exact .inr h1
theorem v01.to {x : Int} {P Q : Prop} (h : v01 x P) (k : P ↔ Q) : v01 x Q := by
  rcases h with ⟨h1, h2⟩ | ⟨h1, h2⟩
  · exact .inl ⟨h1, fun q => h2 (k.mpr q)⟩
  · exact .inr ⟨h1, k.mp h2⟩
def cpQ (W : XM) (r : Int) (x y : Nat) : Prop := (W 90 0 (r.toNat)) = 5 ∧ x ≠ y ∧ W 91 0 x = W 91 0 y
theorem x_c31 (d : Nat) (W : XM) {r : Int} {N a : Nat} (ir : 0 ≤ r ∧ r < 8) (hN : (W 14 0 9) = (N : Int)) (h64 : N ≤ 64) (ha : a < N) : ∀ (m b : Nat) (C : Nat → Int), N - b ≤ m → b ≤ N → (∀ x y, x < N → y < N → x < a ∨ (x = a ∧ y < b) → v01 (C (64 * x + y)) (cpQ W r x y)) → ∃ C' : Nat → Int, (∀ x y, x < N → y < N → x < a + 1 → v01 (C' (64 * x + y)) (cpQ W r x y)) ∧ Xf d 264 31 [xr 14 0, xi r, xi (a : Int), xi (b : Int)] [] (xrow W 94 C) = Xf d 264 21 [xr 14 0, xi r, xi ((a + 1 : Nat) : Int), xr 0 0] [] (xrow W 94 C') := by
  have eN : ∀ C, (xrow W 94 C) 14 0 9 = (N : Int) := fun C => hN
  have e90 : ∀ C, (xrow W 94 C) 90 0 r.toNat = (W 90 0 (r.toNat)) := fun C => rfl
  have e91 : ∀ C j, (xrow W 94 C) 91 0 j = W 91 0 j := fun C j => rfl
  have ea : Unit → w32 ((a : Int) + 1) = ((a + 1 : Nat) : Int) := fun _ => by rw [w32_i (by omega) (by omega)]; omega
  have a64 : 0 ≤ (a : Int) ∧ (a : Int) < 64 := by omega
  intro m
  induction m with
  | zero =>
    intro b C hm hb hC
    refine ⟨C, fun x y x1 y1 x2 => hC x y x1 y1 (by omega), ?_⟩
    rw [s_X12_couples_31, eN, if_neg (by omega), ea ()]
  | succ m ih =>
    intro b C hm hb hC
    by_cases hl : b < N
    · have eb : Unit → w32 ((b : Int) + 1) = ((b + 1 : Nat) : Int) := fun _ => by rw [w32_i (by omega) (by omega)]; omega
      have ei : Unit → w32 (w32 (64 * (a : Int)) + (b : Int)) = 64 * (a : Int) + (b : Int) := fun _ => by rw [w32_add, w32_i (by omega) (by omega)]
      have en : (64 * (a : Int) + (b : Int)).toNat = 64 * a + b := by omega
      have b64 : 0 ≤ (b : Int) ∧ (b : Int) < 64 := by omega
      have ib : 0 ≤ 64 * (a : Int) + (b : Int) ∧ 64 * (a : Int) + (b : Int) < 4096 := by omega
      have stp : ∀ v : Int, v01 v (cpQ W r a b) → ∃ C' : Nat → Int, (∀ x y, x < N → y < N → x < a + 1 → v01 (C' (64 * x + y)) (cpQ W r x y)) ∧ Xf d 264 31 [xr 14 0, xi r, xi (a : Int), xi ((b + 1 : Nat) : Int)] [] (xrow W 94 (zup C (64 * a + b) v)) = Xf d 264 21 [xr 14 0, xi r, xi ((a + 1 : Nat) : Int), xr 0 0] [] (xrow W 94 C') := by
        intro v hv
        refine ih (b + 1) _ (by omega) (by omega) (fun x y x1 y1 h => ?_)
        by_cases c : x = a ∧ y = b
        · rw [c.1, c.2, zup_eq]; exact hv
        · rw [zup_ne (by omega)]
          exact hC x y x1 y1 (by omega)
      rw [s_X12_couples_31, eN, if_pos (by omega), if_pos ir, e90, eb (), ei (), en, Int.toNat_natCast, Int.toNat_natCast, e91, e91, xrow_u, xrow_u]
      by_cases c1 : (W 90 0 (r.toNat)) = 5
      · rw [if_pos c1]
        by_cases c2 : a = b
        · rw [if_pos (by omega), if_pos ib]
          exact stp 0 (.inl ⟨rfl, fun k => k.2.1 c2⟩)
        · rw [if_neg (by omega), if_pos a64, if_pos b64]
          by_cases c3 : W 91 0 a = W 91 0 b
          · rw [if_pos c3, if_pos ib]
            exact stp 1 (.inr ⟨rfl, c1, c2, c3⟩)
          · rw [if_neg c3, if_pos ib]
            exact stp 0 (.inl ⟨rfl, fun k => c3 k.2.2⟩)
      · rw [if_neg c1, if_pos ib]
        exact stp 0 (.inl ⟨rfl, fun k => c1 k.1⟩)
    · refine ⟨C, fun x y x1 y1 x2 => hC x y x1 y1 (by omega), ?_⟩
      rw [s_X12_couples_31, eN, if_neg (by omega), ea ()]
theorem x_c21 (d : Nat) (W : XM) {r : Int} {N : Nat} (ir : 0 ≤ r ∧ r < 8) (hN : (W 14 0 9) = (N : Int)) (h64 : N ≤ 64) : ∀ (m a : Nat) (C : Nat → Int), N - a ≤ m → a ≤ N → (∀ x y, x < N → y < N → x < a → v01 (C (64 * x + y)) (cpQ W r x y)) → ∃ C' : Nat → Int, (∀ x y, x < N → y < N → v01 (C' (64 * x + y)) (cpQ W r x y)) ∧ Xf d 264 21 [xr 14 0, xi r, xi (a : Int), xr 0 0] [] (xrow W 94 C) = Xf d 264 99 [xr 14 0, xi r, xi 0, xr 0 0] [] (xrow W 94 C') := by
  have eN : ∀ C, (xrow W 94 C) 14 0 9 = (N : Int) := fun C => hN
  intro m
  induction m with
  | zero =>
    intro a C hm ha hC
    exact ⟨C, fun x y x1 y1 => hC x y x1 y1 (by omega), by rw [s_X12_couples_21, eN, if_neg (by omega)]⟩
  | succ m ih =>
    intro a C hm ha hC
    by_cases hl : a < N
    · obtain ⟨C1, c1, q1⟩ := x_c31 d W ir hN h64 hl N 0 C (by omega) (by omega) (fun x y x1 y1 h => hC x y x1 y1 (by omega))
      obtain ⟨C2, c2, q2⟩ := ih (a + 1) C1 (by omega) (by omega) c1
      refine ⟨C2, c2, ?_⟩
      rw [s_X12_couples_21, eN, if_pos (by omega), ← q2, ← q1]
      rfl
    · exact ⟨C, fun x y x1 y1 => hC x y x1 y1 (by omega), by rw [s_X12_couples_21, eN, if_neg (by omega)]⟩
def cpT (W : XM) (r : Int) (k x y : Nat) : Prop := ∃ s, s < k ∧ (W 85 0 s) = 6 ∧ (W 86 0 s) = r ∧ (((W 87 0 s) = x ∧ (W 88 0 s) = y) ∨ ((W 90 0 (r.toNat)) = 4 ∧ (W 87 0 s) = y ∧ (W 88 0 s) = x))
theorem iOr_1 {x : Int} (h : x = 0 ∨ x = 1) : iOr x 1 % 2 = 1 := by
  rcases h with h | h
  · subst h; decide
  · subst h; decide
theorem iOr_0 {x : Int} (h : x = 0 ∨ x = 1) : iOr x 0 % 2 = x := by
  rcases h with h | h
  · subst h; decide
  · subst h; decide
theorem x_c99 (d : Nat) (W : XM) {r : Int} {N S : Nat} (ir : 0 ≤ r ∧ r < 8) (hN : (W 14 0 9) = (N : Int)) (h64 : N ≤ 64) (hS : (W 14 0 22) = (S : Int)) (h300 : S ≤ 300) (hg : ∀ s, s < S → (W 85 0 s) = 6 → 0 ≤ (W 87 0 s) ∧ (W 87 0 s) < N ∧ 0 ≤ (W 88 0 s) ∧ (W 88 0 s) < N) (h5 : (W 90 0 (r.toNat)) ≠ 5) : ∀ (m k : Nat) (C : Nat → Int), S - k ≤ m → k ≤ S → (∀ x y, x < N → y < N → v01 (C (64 * x + y)) (cpT W r k x y)) → ∃ C' : Nat → Int, (∀ x y, x < N → y < N → v01 (C' (64 * x + y)) (cpT W r S x y)) ∧ Xf d 264 99 [xr 14 0, xi r, xi (k : Int), xr 0 0] [] (xrow W 94 C) = some (xi 0, xrow W 94 C') := by
  have eS : ∀ C, (xrow W 94 C) 14 0 22 = (S : Int) := fun C => hS
  have e90 : ∀ C, (xrow W 94 C) 90 0 r.toNat = (W 90 0 (r.toNat)) := fun C => rfl
  have e85 : ∀ C j, (xrow W 94 C) 85 0 j = (W 85 0 j) := fun C j => rfl
  have e86 : ∀ C j, (xrow W 94 C) 86 0 j = (W 86 0 j) := fun C j => rfl
  have e87 : ∀ C j, (xrow W 94 C) 87 0 j = (W 87 0 j) := fun C j => rfl
  have e88 : ∀ C j, (xrow W 94 C) 88 0 j = (W 88 0 j) := fun C j => rfl
  have e94 : ∀ C j, (xrow W 94 C) 94 0 j = C j := fun C j => rfl
  intro m
  induction m with
  | zero =>
    intro k C hm hk hC
    have : k = S := by omega
    subst this
    exact ⟨C, hC, by rw [s_X12_couples_99, eS, if_neg (by omega)]⟩
  | succ m ih =>
    intro k C hm hk hC
    by_cases hl : k < S
    · have ek : Unit → w32 ((k : Int) + 1) = ((k + 1 : Nat) : Int) := fun _ => by rw [w32_i (by omega) (by omega)]; omega
      have k3 : 0 ≤ (k : Int) ∧ (k : Int) < 300 := by omega
      have same : ¬ ((W 85 0 k) = 6 ∧ (W 86 0 k) = r) → ∀ x y, cpT W r k x y ↔ cpT W r (k + 1) x y := fun hn x y => by
        constructor
        · rintro ⟨s, s1, s2⟩; exact ⟨s, by omega, s2⟩
        · rintro ⟨s, s1, s2, s3, s4⟩
          refine ⟨s, ?_, s2, s3, s4⟩
          by_cases c : s = k
          · subst c; exact absurd ⟨s2, s3⟩ hn
          · omega
      rw [s_X12_couples_99, eS, if_pos (by omega), if_pos ir, e90, if_neg h5, if_pos k3, Int.toNat_natCast, e85, e86, e87, e88, ek ()]
      by_cases c1 : (W 85 0 k) = 6
      · rw [if_pos c1, if_pos k3]
        by_cases c2 : (W 86 0 k) = r
        · obtain ⟨g1, g2, g3, g4⟩ := hg k hl c1
          obtain ⟨p, hp⟩ : ∃ p : Nat, (W 87 0 k) = (p : Int) := ⟨(W 87 0 k).toNat, by omega⟩
          obtain ⟨q, hq⟩ : ∃ q : Nat, (W 88 0 k) = (q : Int) := ⟨(W 88 0 k).toNat, by omega⟩
          have pN : p < N := by omega
          have qN : q < N := by omega
          have i1 : Unit → w32 (w32 (64 * (p : Int)) + (q : Int)) = 64 * (p : Int) + (q : Int) := fun _ => by rw [w32_add, w32_i (by omega) (by omega)]
          have i2 : Unit → w32 (w32 (64 * (q : Int)) + (p : Int)) = 64 * (q : Int) + (p : Int) := fun _ => by rw [w32_add, w32_i (by omega) (by omega)]
          have r1 : 0 ≤ 64 * (p : Int) + (q : Int) ∧ 64 * (p : Int) + (q : Int) < 4096 := by omega
          have r2 : 0 ≤ 64 * (q : Int) + (p : Int) ∧ 64 * (q : Int) + (p : Int) < 4096 := by omega
          have n1 : (64 * (p : Int) + (q : Int)).toNat = 64 * p + q := by omega
          have n2 : (64 * (q : Int) + (p : Int)).toNat = 64 * q + p := by omega
          have b1 : zup C (64 * p + q) 1 (64 * q + p) = 0 ∨ zup C (64 * p + q) 1 (64 * q + p) = 1 := by
            by_cases c : 64 * q + p = 64 * p + q
            · rw [c, zup_eq]; exact .inr rfl
            · rw [zup_ne c]; exact (hC q p qN pN).bit
          have tp : ∀ x y, cpT W r (k + 1) x y ↔ cpT W r k x y ∨ (p = x ∧ q = y) ∨ ((W 90 0 (r.toNat)) = 4 ∧ p = y ∧ q = x) := fun x y => by
            constructor
            · rintro ⟨s, s1, s2, s3, s4⟩
              by_cases c : s = k
              · subst c
                rw [hp, hq] at s4
                rcases s4 with s4 | s4
                · exact .inr (.inl (by omega))
                · exact .inr (.inr ⟨s4.1, by omega⟩)
              · exact .inl ⟨s, by omega, s2, s3, s4⟩
            · rintro (⟨s, s1, s2⟩ | h | h)
              · exact ⟨s, by omega, s2⟩
              · exact ⟨k, by omega, c1, c2, .inl (by rw [hp, hq]; omega)⟩
              · exact ⟨k, by omega, c1, c2, .inr ⟨h.1, by rw [hp, hq]; omega⟩⟩
          rw [if_pos c2, if_pos k3, if_pos k3, hp, hq, i1 (), i2 (), if_pos r1, if_pos k3, if_pos k3, if_pos r2, if_pos ir, if_pos r2, if_pos r2, n1, n2]
          simp only [xrow_u, e94]
          by_cases c4 : (W 90 0 (r.toNat)) = 4
          · rw [if_pos c4, iOr_1 b1]
            refine ih (k + 1) _ (by omega) (by omega) (fun x y x1 y1 => ?_)
            by_cases d2 : 64 * x + y = 64 * q + p
            · rw [d2, zup_eq]
              exact .inr ⟨rfl, (tp x y).mpr (.inr (.inr ⟨c4, by omega⟩))⟩
            · rw [zup_ne d2]
              by_cases d1 : 64 * x + y = 64 * p + q
              · rw [d1, zup_eq]
                exact .inr ⟨rfl, (tp x y).mpr (.inr (.inl (by omega)))⟩
              · rw [zup_ne d1]
                exact (hC x y x1 y1).to ((tp x y).trans ⟨fun h => by
                  rcases h with h | h | h
                  · exact h
                  · exact absurd (show 64 * x + y = 64 * p + q by omega) d1
                  · exact absurd (show 64 * x + y = 64 * q + p by omega) d2, .inl⟩).symm
          · rw [if_neg c4, iOr_0 b1]
            refine ih (k + 1) _ (by omega) (by omega) (fun x y x1 y1 => ?_)
            have ez : zup (zup C (64 * p + q) 1) (64 * q + p) (zup C (64 * p + q) 1 (64 * q + p)) (64 * x + y) = zup C (64 * p + q) 1 (64 * x + y) := by
              by_cases d2 : 64 * x + y = 64 * q + p
              · rw [d2, zup_eq]
              · rw [zup_ne d2]
            rw [ez]
            by_cases d1 : 64 * x + y = 64 * p + q
            · rw [d1, zup_eq]
              exact .inr ⟨rfl, (tp x y).mpr (.inr (.inl (by omega)))⟩
            · rw [zup_ne d1]
              exact (hC x y x1 y1).to ((tp x y).trans ⟨fun h => by
                rcases h with h | h | h
                · exact h
                · exact absurd (show 64 * x + y = 64 * p + q by omega) d1
                · exact absurd h.1 c4, .inl⟩).symm
        · rw [if_neg c2]
          exact ih (k + 1) C (by omega) (by omega) (fun x y x1 y1 => (hC x y x1 y1).to (same (fun h => c2 h.2) x y))
      · rw [if_neg c1]
        exact ih (k + 1) C (by omega) (by omega) (fun x y x1 y1 => (hC x y x1 y1).to (same (fun h => c1 h.1) x y))
    · have : k = S := by omega
      subst this
      exact ⟨C, hC, by rw [s_X12_couples_99, eS, if_neg (by omega)]⟩
/-- which couples there are, in the reference's words -/
def rE (V : XM) (r : Int) (x y : Nat) : Prop := ((V 90 0 (r.toNat)) = 5 ∧ x ≠ y ∧ gF V r (V 14 0 22).toNat x = gF V r (V 14 0 22).toNat y) ∨ ((V 90 0 (r.toNat)) ≠ 5 ∧ cpT V r (V 14 0 22).toNat x y)
theorem y_couples (d : Nat) (V : XM) (h : GR V) {r : Int} (ir : 0 ≤ r ∧ r < 8) : ∃ (W : XM) (C : Nat → Int), GW V r W ∧ (∀ x y : Nat, (x : Int) < (V 14 0 9) → (y : Int) < (V 14 0 9) → v01 (C (64 * x + y)) (rE V r x y)) ∧ Yf (d + 2) 264 [xr 14 0, xi r] V = some (xi 0, xrow W 94 C) := by
  obtain ⟨t1, t2, s1, s2, hh⟩ := id h
  by_cases c5 : (V 90 0 (r.toNat)) = 5
  · refine ⟨gS V r (V 14 0 22).toNat, ?_⟩
    have hx := x_c21 (d + 1) (gS V r (V 14 0 22).toNat) (r := r) (N := (V 14 0 9).toNat) ir (by show (V 14 0 9) = _; omega) (by omega) (V 14 0 9).toNat 0 ((gS V r (V 14 0 22).toNat) 94 0) (by omega) (by omega) (fun x y _ _ h => by omega)
    obtain ⟨C, c1, c2⟩ := hx
    refine ⟨C, .inr ⟨_, rfl⟩, fun x y x1 y1 => ?_, ?_⟩
    · refine (c1 x y (by omega) (by omega)).to ?_
      have ex := gs_row V r (V 14 0 22).toNat (a := (x : Int)) (by omega) x1
      have ey := gs_row V r (V 14 0 22).toNat (a := (y : Int)) (by omega) y1
      rw [Int.toNat_natCast] at ex ey
      unfold cpQ
      rw [ex, ey]
      constructor
      · rintro ⟨k1, k2, k3⟩; exact .inl ⟨k1, k2, k3⟩
      · rintro (⟨k1, k2, k3⟩ | ⟨k1, _⟩)
        · exact ⟨k1, k2, k3⟩
        · exact absurd c5 k1
    · rw [xrow_self] at c2
      have c2' : Xf (d + 1) 264 21 [xr 14 0, xi r, xi 0, xr 0 0] [] (gS V r (V 14 0 22).toNat) = _ := c2
      have e90 : (xrow (gS V r (V 14 0 22).toNat) 94 C) 90 0 r.toNat = (V 90 0 (r.toNat)) := rfl
      rw [s_X12_couples, if_pos ir, if_pos c5, y_groupUp _ V h r _ s1 (by omega), cv_r, c2', s_X12_couples_99, if_pos ir, e90, if_pos c5]
      split <;> rfl
  · refine ⟨V, ?_⟩
    have hx := x_c21 (d + 1) V (r := r) (N := (V 14 0 9).toNat) ir (by omega) (by omega) (V 14 0 9).toNat 0 (V 94 0) (by omega) (by omega) (fun x y _ _ h => by omega)
    obtain ⟨C, c1, c2⟩ := hx
    have hy := x_c99 (d + 1) V (r := r) (N := (V 14 0 9).toNat) (S := (V 14 0 22).toNat) ir (by omega) (by omega) (by omega) (by omega) (fun s hs h6 => by
      have := hh s (by omega) (by omega) (.inl (by rw [Int.toNat_natCast]; exact h6))
      rw [Int.toNat_natCast] at this
      omega) c5 (V 14 0 22).toNat 0 C (by omega) (by omega) (fun x y x1 y1 => (c1 x y x1 y1).to ⟨fun k => absurd k.1 c5, fun k => by obtain ⟨s, s1, _⟩ := k; omega⟩)
    obtain ⟨C', c3, c4⟩ := hy
    refine ⟨C', .inl rfl, fun x y x1 y1 => ?_, ?_⟩
    · refine (c3 x y (by omega) (by omega)).to ⟨fun k => .inr ⟨c5, k⟩, fun k => ?_⟩
      rcases k with k | k
      · exact absurd k.1 c5
      · exact k.2
    · rw [xrow_self] at c2
      have c2' : Xf (d + 1) 264 21 [xr 14 0, xi r, xi 0, xr 0 0] [] V = _ := c2
      have c4' : Xf (d + 1) 264 99 [xr 14 0, xi r, xi 0, xr 0 0] [] (xrow V 94 C) = _ := c4
      rw [s_X12_couples, if_pos ir, if_neg c5, c2', c4']
