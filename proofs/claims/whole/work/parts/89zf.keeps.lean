/-! settle: the reference's keeps -/
def lwN (s : Int) : Nat := (ff (bt s) 64 0).toNat
theorem lw_spec {s : Int} (h : ∃ x, x < 64 ∧ bt s x = true) : lwN s < 64 ∧ bt s (lwN s) = true ∧ ∀ x, x < lwN s → bt s x = false := by
  obtain ⟨x, h1, h2⟩ := h
  unfold lwN
  rcases ff_spec (bt s) 64 0 with ⟨y1, y2⟩ | ⟨b, y1, y2, y3, y4, y5⟩
  · have := y2 x (by omega) (by omega)
    rw [h2] at this; cases this
  · rw [y1, Int.toNat_natCast]
    exact ⟨by omega, y4, fun z hz => y5 z (by omega) hz⟩
theorem low_t (s : Int) {w : Nat} (h : w < 64) : lAnd (lUshr s (w : Int)) 1 = if bt s w = true then 1 else 0 := by
  have := bt_rtest s (w := (w : Int)) (by omega) (by omega)
  rw [Int.toNat_natCast] at this
  exact this
theorem x_low (d : Nat) (V : XM) {s : Int} {b : Nat} (hb : b < 64) (h1 : bt s b = true) : ∀ (m w : Nat), b - w ≤ m → w ≤ b → (∀ x, w ≤ x → x < b → bt s x = false) → Xf d 246 2 [xl s, xr 0 0, xi (w : Int)] [] V = some (xi (b : Int), V) := by
  have one : (1 : Int) ≠ 0 := by decide
  intro m
  induction m with
  | zero =>
    intro w hm hw hf
    have : w = b := by omega
    subst this
    rw [s_X12_lowest_2]
    simp only [cmp3_eq]
    rw [low_t s hb, if_pos h1, if_neg one]
  | succ m ih =>
    intro w hm hw hf
    by_cases e : w = b
    · subst e
      rw [s_X12_lowest_2]
      simp only [cmp3_eq]
      rw [low_t s hb, if_pos h1, if_neg one]
    · have ww : Unit → w32 ((w : Int) + 1) = ((w + 1 : Nat) : Int) := fun _ => by rw [w32_i (by omega) (by omega)]; omega
      have hw64 : w < 64 := by omega
      have hz : ¬ bt s w = true := by rw [hf w (by omega) (by omega)]; simp
      have ih := ih (w + 1) (by omega) (by omega) (fun x x1 x2 => hf x (by omega) x2)
      rw [s_X12_lowest_2]
      simp only [cmp3_eq]
      rw [low_t s hw64, if_neg hz, if_pos rfl, ww ()]
      exact ih
theorem y_low (d : Nat) (V : XM) {s : Int} (h : ∃ x, x < 64 ∧ bt s x = true) : Yf (d + 1) 246 [xl s] V = some (xi (lwN s : Int), V) := by
  obtain ⟨h1, h2, h3⟩ := lw_spec h
  rw [s_X12_lowest]
  exact x_low d V h1 h2 (lwN s) 0 (by omega) (by omega) (fun x _ hx => h3 x hx)
theorem x_many (d : Nat) (V : XM) (s : Int) : ∀ (m k : Nat), 64 - k ≤ m → k ≤ 64 → Xf d 247 4 [xl s, xr 0 0, xi (cnt (bt s) k), xi (k : Int)] [] V = some (xi (cnt (bt s) 64), V) := by
  intro m
  induction m with
  | zero =>
    intro k hm hk
    have : k = 64 := by omega
    subst this
    rw [s_X12_many_4, if_neg (by omega)]
  | succ m ih =>
    intro k hm hk
    by_cases hlt : k < 64
    · have ih := ih (k + 1) (by omega) (by omega)
      have hb := cnt_b (bt s) k
      have wk' : Unit → w32 ((k : Int) + 1) = ((k + 1 : Nat) : Int) := fun _ => by rw [w32_i (by omega) (by omega)]; omega
      have es : cnt (bt s) (k + 1) = cnt (bt s) k + (if bt s k = true then 1 else 0) := rfl
      have w0 : Unit → w32 (cnt (bt s) k + 0) = cnt (bt s) k + 0 := fun _ => w32_i (by omega) (by omega)
      have w1 : Unit → w32 (cnt (bt s) k + 1) = cnt (bt s) k + 1 := fun _ => w32_i (by omega) (by omega)
      have p1 : (k : Int) < 64 := by omega
      have z01 : ¬ (0 : Int) = 1 := by decide
      rw [s_X12_many_4, if_pos p1]
      simp only [cmp3_eq]
      rw [low_t s hlt, wk' (), w0 (), w1 (), ← ih, es]
      by_cases c : bt s k = true
      · rw [if_pos c, if_pos rfl]
      · rw [if_neg c, if_neg z01]
    · have : k = 64 := by omega
      subst this
      rw [s_X12_many_4, if_neg (by omega)]
theorem y_many (d : Nat) (V : XM) (s : Int) : Yf (d + 1) 247 [xl s] V = some (xi (cnt (bt s) 64), V) := by
  rw [s_X12_many]
  exact x_many d V s 64 0 (by omega) (by omega)
/-- what keeps needs of the reference's rows -/
def KR (V : XM) (B : Nat → Int) (N : Nat) : Prop := RB V B ∧ (V 14 0 9) = (N : Int) ∧ (0 ≤ (V 14 0 22) ∧ (V 14 0 22) ≤ 300) ∧ (∀ t, t < N → (V 82 0 t) = -9 ∨ (0 ≤ (V 82 0 t) ∧ (V 82 0 t) < 300)) ∧ (∀ s, s < (V 14 0 22).toNat → (V 85 0 s) = 4 → 0 ≤ (V 86 0 s) ∧ (V 86 0 s) < N ∧ 0 ≤ (V 87 0 s) ∧ (V 87 0 s) < N)
/-- places are things or none -/
def vp (N : Nat) (p : Nat → Int) : Prop := ∀ k, k < N → p k = -9 ∨ (0 ≤ p k ∧ p k < N)
theorem x_k67 (d : Nat) (V : XM) {B p : Nat → Int} {N t : Nat} (h : KR V B N) (ht : t < N) (hm : (V 82 0 t) ≠ -9) : ∀ (m k : Nat), N - k ≤ m → k ≤ N → Xf (d + 3) 245 67 [xr 14 0, xi (t : Int), xr 0 0, xi (cnt (fun k => decide (B k ≠ 3 ∧ p k = (t : Int))) k), xi (k : Int)] [] (xrow V 89 p) = if (V 87 0 ((V 82 0 t).toNat)) < inC B p N (t : Int) then some (xi 0, xrow V 89 p) else Xf (d + 3) 245 2 [xr 14 0, xi ((t + 1 : Nat) : Int), xr 0 0, xr 0 0, xr 0 0] [] (xrow V 89 p) := by
  obtain ⟨hb, hN, hs, hmb, hpr⟩ := h
  have t2 := hb.2.2.1
  have m2 := (hmb t ht).resolve_left hm
  have e9 : (xrow V 89 p) 14 0 9 = (N : Int) := hN
  have e82 : (xrow V 89 p) 82 0 t = (V 82 0 t) := rfl
  have e87 : ∀ j, (xrow V 89 p) 87 0 j = (V 87 0 j) := fun j => rfl
  have e89 : ∀ j, (xrow V 89 p) 89 0 j = p j := fun j => rfl
  have wt : Unit → w32 ((t : Int) + 1) = ((t + 1 : Nat) : Int) := fun _ => by rw [w32_i (by omega) (by omega)]; omega
  have last : Xf (d + 3) 245 67 [xr 14 0, xi (t : Int), xr 0 0, xi (cnt (fun k => decide (B k ≠ 3 ∧ p k = (t : Int))) N), xi (N : Int)] [] (xrow V 89 p) = if (V 87 0 ((V 82 0 t).toNat)) < inC B p N (t : Int) then some (xi 0, xrow V 89 p) else Xf (d + 3) 245 2 [xr 14 0, xi ((t + 1 : Nat) : Int), xr 0 0, xr 0 0, xr 0 0] [] (xrow V 89 p) := by
    rw [s_X12_keeps_67, e9, if_neg (by omega), if_pos (by omega), Int.toNat_natCast, e82, if_pos (by omega), e87, wt ()]
    rfl
  intro m
  induction m with
  | zero =>
    intro k hm hk
    have : k = N := by omega
    subst this
    exact last
  | succ m ih =>
    intro k hm' hk
    by_cases hlt : k < N
    · have ih := ih (k + 1) (by omega) (by omega)
      have hc := cnt_b (fun k => decide (B k ≠ 3 ∧ p k = (t : Int))) k
      have es : cnt (fun k => decide (B k ≠ 3 ∧ p k = (t : Int))) (k + 1) = cnt (fun k => decide (B k ≠ 3 ∧ p k = (t : Int))) k + (if decide (B k ≠ 3 ∧ p k = (t : Int)) = true then 1 else 0) := rfl
      have wk' : Unit → w32 ((k : Int) + 1) = ((k + 1 : Nat) : Int) := fun _ => by rw [w32_i (by omega) (by omega)]; omega
      have F1 := y_rBackdrop d (xrow V 89 p) (B := B) (by exact hb) (t := (k : Int)) (by omega) (by rw [e9]; omega)
      rw [Int.toNat_natCast] at F1
      rw [s_X12_keeps_67, e9, if_pos (by omega), F1, ci_r, ite_b2, wk' (), ← ih, es, Int.toNat_natCast, e89]
      by_cases c1 : B k = 3
      · rw [if_pos c1, if_neg (by rw [decide_eq_true_eq]; exact fun z => z.1 c1), w32_i (by omega) (by omega)]
      · rw [if_neg c1, if_pos (by omega)]
        by_cases c2 : p k = (t : Int)
        · rw [if_pos c2, if_pos (decide_eq_true ⟨c1, c2⟩), w32_i (by omega) (by omega)]
        · rw [if_neg c2, if_neg (by rw [decide_eq_true_eq]; exact fun z => c2 z.2), w32_i (by omega) (by omega)]
    · have : k = N := by omega
      subst this
      exact last
theorem x_k19 (d : Nat) (V : XM) {B p : Nat → Int} {N t : Nat} (h : KR V B N) (hv : vp N p) (ht : t < N) : ∀ (m l : Nat) (x : Int), l + m = 65 → (x = -9 ∨ (0 ≤ x ∧ x < N)) → Xf (d + 3) 245 19 [xr 14 0, xi (t : Int), xi x, xi (l : Int), xr 0 0] [] (xrow V 89 p) = if rg p (t : Int) m x = true then some (xi 0, xrow V 89 p) else if (V 82 0 t) ≠ -9 ∧ (V 87 0 ((V 82 0 t).toNat)) < inC B p N (t : Int) then some (xi 0, xrow V 89 p) else Xf (d + 3) 245 2 [xr 14 0, xi ((t + 1 : Nat) : Int), xr 0 0, xr 0 0, xr 0 0] [] (xrow V 89 p) := by
  have t2 : N ≤ 64 := by have := h.1.2.2.1; have := h.2.1; omega
  have e82 : (xrow V 89 p) 82 0 t = (V 82 0 t) := rfl
  have e89 : ∀ j, (xrow V 89 p) 89 0 j = p j := fun j => rfl
  have wt : Unit → w32 ((t : Int) + 1) = ((t + 1 : Nat) : Int) := fun _ => by rw [w32_i (by omega) (by omega)]; omega
  have aft : (if 0 ≤ (t : Int) ∧ (t : Int) < 64 then (if (xrow V 89 p) 82 0 ((t : Int).toNat) = -9 then Xf (d + 3) 245 2 [xr 14 0, xi (w32 ((t : Int) + 1)), xr 0 0, xr 0 0, xr 0 0] [] (xrow V 89 p) else Xf (d + 3) 245 67 [xr 14 0, xi (t : Int), xr 0 0, xi 0, xi 0] [] (xrow V 89 p)) else none) = (if (V 82 0 t) ≠ -9 ∧ (V 87 0 ((V 82 0 t).toNat)) < inC B p N (t : Int) then some (xi 0, xrow V 89 p) else Xf (d + 3) 245 2 [xr 14 0, xi ((t + 1 : Nat) : Int), xr 0 0, xr 0 0, xr 0 0] [] (xrow V 89 p)) := by
    rw [if_pos (by omega), Int.toNat_natCast, e82, wt ()]
    by_cases c : (V 82 0 t) = -9
    · rw [if_pos c, if_neg (fun z => z.1 c)]
    · have hx := x_k67 d V (p := p) h ht c N 0 (by omega) (by omega)
      have hx' : Xf (d + 3) 245 67 [xr 14 0, xi (t : Int), xr 0 0, xi 0, xi 0] [] (xrow V 89 p) = _ := hx
      rw [if_neg c, hx']
      by_cases c2 : (V 87 0 ((V 82 0 t).toNat)) < inC B p N (t : Int)
      · rw [if_pos c2, if_pos ⟨c, c2⟩]
      · rw [if_neg c2, if_neg (fun z => c2 z.2)]
  intro m
  induction m with
  | zero =>
    intro l x hl hx
    rw [s_X12_keeps_19, if_neg (by omega), aft]
    exact (if_neg (fun z => by cases z)).symm
  | succ m ih =>
    intro l x hl hx
    have wl : Unit → w32 ((l : Int) + 1) = ((l + 1 : Nat) : Int) := fun _ => by rw [w32_i (by omega) (by omega)]; omega
    have es : rg p (t : Int) (m + 1) x = if x = -9 then false else if x = (t : Int) then true else rg p (t : Int) m (p x.toNat) := rfl
    rw [s_X12_keeps_19, if_pos (by omega), aft, es]
    by_cases c1 : x = -9
    · rw [if_pos c1, if_pos c1, if_neg (c := false = true) (fun z => by cases z)]
    · obtain ⟨x0, x1⟩ := hx.resolve_left c1
      rw [if_neg c1, if_neg c1]
      by_cases c2 : x = (t : Int)
      · rw [if_pos c2, if_pos c2, if_pos rfl]
      · rw [if_neg c2, if_neg c2, if_pos (by omega), wl (), e89]
        exact ih (l + 1) (p x.toNat) (by omega) (hv x.toNat (by omega))
theorem y_keeps (d : Nat) (V : XM) {B p : Nat → Int} {N : Nat} (h : KR V B N) (hv : vp N p) : Yf (d + 4) 245 [xr 14 0] (xrow V 89 p) = some (xi (if kpB V B N p = true then 1 else 0), xrow V 89 p) := by
  have h' := h
  obtain ⟨hb, hN, hs, hmb, hpr⟩ := h'
  have t2 : N ≤ 64 := by have := hb.2.2.1; omega
  have e9 : (xrow V 89 p) 14 0 9 = (N : Int) := hN
  have e22 : (xrow V 89 p) 14 0 22 = (V 14 0 22) := rfl
  have e85 : ∀ j, (xrow V 89 p) 85 0 j = (V 85 0 j) := fun j => rfl
  have e86 : ∀ j, (xrow V 89 p) 86 0 j = (V 86 0 j) := fun j => rfl
  have e87 : ∀ j, (xrow V 89 p) 87 0 j = (V 87 0 j) := fun j => rfl
  have e88 : ∀ j, (xrow V 89 p) 88 0 j = (V 88 0 j) := fun j => rfl
  have e89 : ∀ j, (xrow V 89 p) 89 0 j = p j := fun j => rfl
  have q1 := loop_find (F := fun l => Xf (d + 3) 245 2 [xr 14 0, xi l, xr 0 0, xr 0 0, xr 0 0] [] (xrow V 89 p)) (f := badT V B N p) (A := fun _ => some (xi 0, xrow V 89 p)) (Z := Xf (d + 3) 245 135 [xr 14 0, xi 0, xr 0 0, xr 0 0, xr 0 0] [] (xrow V 89 p)) (N := (N : Int)) (fun l h0 h1 => by
    show Xf (d + 3) 245 2 [xr 14 0, xi l, xr 0 0, xr 0 0, xr 0 0] [] (xrow V 89 p) = if _ then (if _ then _ else Xf (d + 3) 245 2 [xr 14 0, xi (l + 1), xr 0 0, xr 0 0, xr 0 0] [] (xrow V 89 p)) else _
    rw [s_X12_keeps_2, e9]
    by_cases hl : l < (N : Int)
    · obtain ⟨t, et⟩ : ∃ t : Nat, l = (t : Int) := ⟨l.toNat, by omega⟩
      subst et
      have x19 := x_k19 d V (p := p) (t := t) h hv (by omega) 65 0 (p t) (by omega) (hv t (by omega))
      have x19' : Xf (d + 3) 245 19 [xr 14 0, xi (t : Int), xi (p t), xi 0, xr 0 0] [] (xrow V 89 p) = _ := x19
      have ec : ((t + 1 : Nat) : Int) = (t : Int) + 1 := by omega
      rw [if_pos hl, if_pos hl, if_pos (by omega), Int.toNat_natCast, e89, x19', ec]
      unfold badT
      by_cases c1 : rg p (t : Int) 65 (p t) = true
      · rw [if_pos c1, c1, Bool.true_or, if_pos rfl]
      · have c1' : rg p (t : Int) 65 (p t) = false := by cases hz : rg p (t : Int) 65 (p t) with
          | false => rfl
          | true => exact absurd hz c1
        rw [if_neg c1, c1', Bool.false_or]
        by_cases c2 : (V 82 0 t) ≠ -9 ∧ (V 87 0 ((V 82 0 t).toNat)) < inC B p N (t : Int)
        · rw [if_pos c2, if_pos (decide_eq_true c2)]
        · rw [if_neg c2, if_neg (by rw [decide_eq_true_eq]; exact c2)]
    · rw [if_neg hl, if_neg hl]) N 0 (by omega) (by omega) (by omega)
  have q1' : Xf (d + 3) 245 2 [xr 14 0, xi 0, xr 0 0, xr 0 0, xr 0 0] [] (xrow V 89 p) = if ff (badT V B N p) N 0 = -9 then Xf (d + 3) 245 135 [xr 14 0, xi 0, xr 0 0, xr 0 0, xr 0 0] [] (xrow V 89 p) else some (xi 0, xrow V 89 p) := q1
  have q2 := loop_find (F := fun l => Xf (d + 3) 245 135 [xr 14 0, xi l, xr 0 0, xr 0 0, xr 0 0] [] (xrow V 89 p)) (f := badP V p) (A := fun _ => some (xi 0, xrow V 89 p)) (Z := some (xi 1, xrow V 89 p)) (N := (V 14 0 22)) (fun l h0 h1 => by
    show Xf (d + 3) 245 135 [xr 14 0, xi l, xr 0 0, xr 0 0, xr 0 0] [] (xrow V 89 p) = if _ then (if _ then _ else Xf (d + 3) 245 135 [xr 14 0, xi (l + 1), xr 0 0, xr 0 0, xr 0 0] [] (xrow V 89 p)) else _
    rw [s_X12_keeps_135, e22]
    by_cases hl : l < (V 14 0 22)
    · have i3 : 0 ≤ l ∧ l < 300 := by omega
      rw [if_pos hl, if_pos hl, if_pos i3, e85, e86, e87, e88, w32_i (by omega) (by omega)]
      unfold badP
      simp only [decide_eq_true_eq]
      by_cases c4 : (V 85 0 (l.toNat)) = 4
      · obtain ⟨o1, o2, o3, o4⟩ := hpr l.toNat (by omega) c4
        rw [if_pos c4, if_pos i3, if_pos (by omega), if_pos i3, if_pos (by omega), e89, e89]
        by_cases a1 : p ((V 86 0 (l.toNat)).toNat) = -9
        · rw [if_pos a1, if_neg (fun z => z.2.1 a1)]
        · rw [if_neg a1]
          by_cases a2 : p ((V 87 0 (l.toNat)).toNat) = -9
          · rw [if_pos a2, if_neg (fun z => z.2.2.1 a2)]
          · rw [if_neg a2]
            by_cases a3 : p ((V 86 0 (l.toNat)).toNat) = p ((V 87 0 (l.toNat)).toNat)
            · rw [if_pos a3, if_pos i3]
              by_cases a4 : (V 88 0 (l.toNat)) = 1
              · rw [if_pos a4, if_neg (fun z => z.2.2.2 ⟨fun _ => a4, fun _ => a3⟩)]
              · rw [if_neg a4, if_pos ⟨c4, a1, a2, fun z => a4 (z.mp a3)⟩]
            · rw [if_neg a3, if_pos i3]
              by_cases a4 : (V 88 0 (l.toNat)) = 1
              · rw [if_pos a4, if_pos ⟨c4, a1, a2, fun z => a3 (z.mpr a4)⟩]
              · rw [if_neg a4, if_neg (fun z => z.2.2.2 ⟨fun y => absurd y a3, fun y => absurd y a4⟩)]
      · rw [if_neg c4, if_neg (fun z => c4 z.1)]
    · rw [if_neg hl, if_neg hl]) (V 14 0 22).toNat 0 (by omega) (by omega) hs.1
  have q2' : Xf (d + 3) 245 135 [xr 14 0, xi 0, xr 0 0, xr 0 0, xr 0 0] [] (xrow V 89 p) = if ff (badP V p) (V 14 0 22).toNat 0 = -9 then some (xi 1, xrow V 89 p) else some (xi 0, xrow V 89 p) := q2
  rw [s_X12_keeps, q1', q2']
  unfold kpB
  by_cases c1 : ff (badT V B N p) N 0 = -9
  · rw [if_pos c1]
    by_cases c2 : ff (badP V p) (V 14 0 22).toNat 0 = -9
    · rw [if_pos c2, if_pos (decide_eq_true ⟨c1, c2⟩)]
    · rw [if_neg c2, if_neg (by rw [decide_eq_true_eq]; exact fun z => c2 z.2)]
  · rw [if_neg c1, if_neg (by rw [decide_eq_true_eq]; exact fun z => c1 z.1)]
