/-! settle: the reference, up to the way that is found -/
def wyN (V : XM) : Nat → Int
  | 0 => 1
  | t + 1 => if unsB V t = true ∧ wyN V t ≤ 3000 then wyN V t * cnt (bt (V 81 0 t)) 64 else wyN V t
theorem wyN_s (V : XM) (t : Nat) : wyN V (t + 1) = if unsB V t = true ∧ wyN V t ≤ 3000 then wyN V t * cnt (bt (V 81 0 t)) 64 else wyN V t := rfl
theorem wyN_b (V : XM) : ∀ t, 0 ≤ wyN V t ∧ wyN V t ≤ 192000 := by
  intro t
  induction t with
  | zero => exact ⟨by show (0 : Int) ≤ 1; decide, by show (1 : Int) ≤ 192000; decide⟩
  | succ t ih =>
    rw [wyN_s]
    by_cases c : unsB V t = true ∧ wyN V t ≤ 3000
    · rw [if_pos c]
      have hb := cnt_b (bt (V 81 0 t)) 64
      have h1 : 0 ≤ wyN V t * cnt (bt (V 81 0 t)) 64 := Int.mul_nonneg ih.1 hb.1
      have h2 : wyN V t * cnt (bt (V 81 0 t)) 64 ≤ 3000 * 64 := Int.mul_le_mul c.2 hb.2 hb.1 (by decide)
      omega
    · rw [if_neg c]; exact ih
theorem wyN_big {V : XM} {t : Nat} (h : 3000 < wyN V t) : ∀ n, wyN V (t + n) = wyN V t := by
  intro n
  induction n with
  | zero => rfl
  | succ n ih =>
    rw [show t + (n + 1) = (t + n) + 1 by omega, wyN_s, ih, if_neg (by omega)]
theorem x_rWays (d : Nat) (V : XM) {N : Nat} (n : Int) (hN : (V 14 0 9) = (N : Int)) (h64 : N ≤ 64) : ∀ (m t : Nat), N - t ≤ m → t ≤ N → Xf (d + 1) 249 10 [xr 14 0, xi n, xl (wyN V t), xr 0 0, xi (t : Int), xr 0 0, xr 0 0] [] V = Xf (d + 1) 249 10 [xr 14 0, xi n, xl (wyN V N), xr 0 0, xi (N : Int), xr 0 0, xr 0 0] [] V := by
  intro m
  induction m with
  | zero => intro t hm ht; rw [show t = N by omega]
  | succ m ih =>
    intro t hm ht
    by_cases hlt : t < N
    · have ih := ih (t + 1) (by omega) (by omega)
      have hb := wyN_b V t
      have hc := cnt_b (bt (V 81 0 t)) 64
      have wt : Unit → w32 ((t : Int) + 1) = ((t + 1 : Nat) : Int) := fun _ => by rw [w32_i (by omega) (by omega)]; omega
      have F := y_rUns d V (t := (t : Int)) (by omega) (by omega)
      rw [Int.toNat_natCast] at F
      rw [← ih, s_X12_settle_10, hN, if_pos (by omega), F, ci_r, ite_b2, wt (), wyN_s]
      by_cases c1 : unsB V t = true
      · rw [if_pos c1]
        simp only [cmp3_gt]
        by_cases c2 : wyN V t ≤ 3000
        · have h2 : wyN V t * cnt (bt (V 81 0 t)) 64 ≤ 3000 * 64 := Int.mul_le_mul c2 hc.2 hc.1 (by decide)
          have h1 : 0 ≤ wyN V t * cnt (bt (V 81 0 t)) 64 := Int.mul_nonneg hb.1 hc.1
          rw [if_neg (by omega), if_pos (by omega), Int.toNat_natCast, y_many, ci_r, if_pos ⟨c1, c2⟩, w64_i (by omega) (by omega)]
        · rw [if_pos (by omega), if_neg (fun z => c2 z.2)]
      · rw [if_neg c1, if_neg (fun z => c1 z.1)]
    · rw [show t = N by omega]
def p0F (V : XM) (B : Nat → Int) (N k : Nat) : Int := if k < N then (if B k = 3 then -9 else if (V 80 0 k) = 0 then -9 else (V 78 0 (6 * k))) else V 89 0 k
theorem x_r95 (d : Nat) (V : XM) {B : Nat → Int} {N : Nat} (n : Int) (hb : RB V B) (hN : (V 14 0 9) = (N : Int)) (hne : ∀ k, k < N → unsB V k = true → ∃ x, x < 64 ∧ bt (V 81 0 k) x = true) : ∀ (m t : Nat), N - t ≤ m → t ≤ N → Xf (d + 3) 249 95 [xr 14 0, xi n, xr 0 0, xr 0 0, xi (t : Int), xr 0 0, xr 0 0] [] (xrow V 89 (fun k => if k < t then lowT (unsB V) (V 81 0) N (p0F V B N) 0 k else V 89 0 k)) = Xf (d + 3) 249 162 [xr 14 0, xi n, xr 0 0, xr 0 0, xi 1, xr 0 0, xr 0 0] [] (xrow V 89 (lowT (unsB V) (V 81 0) N (p0F V B N) 0)) := by
  have t2 : N ≤ 64 := by have := hb.2.2.1; omega
  have e9 : ∀ q, (xrow V 89 q) 14 0 9 = (N : Int) := fun q => hN
  have last : Xf (d + 3) 249 95 [xr 14 0, xi n, xr 0 0, xr 0 0, xi (N : Int), xr 0 0, xr 0 0] [] (xrow V 89 (fun k => if k < N then lowT (unsB V) (V 81 0) N (p0F V B N) 0 k else V 89 0 k)) = Xf (d + 3) 249 162 [xr 14 0, xi n, xr 0 0, xr 0 0, xi 1, xr 0 0, xr 0 0] [] (xrow V 89 (lowT (unsB V) (V 81 0) N (p0F V B N) 0)) := by
    have e : (fun k => if k < N then lowT (unsB V) (V 81 0) N (p0F V B N) 0 k else V 89 0 k) = lowT (unsB V) (V 81 0) N (p0F V B N) 0 := by
      funext k
      by_cases c : k < N
      · rw [if_pos c]
      · rw [if_neg c]
        unfold lowT p0F
        rw [if_neg (fun z => c z.2.1), if_neg c]
    rw [e, s_X12_settle_95, e9, if_neg (by omega)]
  intro m
  induction m with
  | zero =>
    intro t hm ht
    have : t = N := by omega
    subst this
    exact last
  | succ m ih =>
    intro t hm ht
    by_cases hlt : t < N
    · have ih := ih (t + 1) (by omega) (by omega)
      have wt : Unit → w32 ((t : Int) + 1) = ((t + 1 : Nat) : Int) := fun _ => by rw [w32_i (by omega) (by omega)]; omega
      have i6 : 0 ≤ (t : Int) ∧ (t : Int) < 64 := by omega
      have ez : ∀ x : Int, x = lowT (unsB V) (V 81 0) N (p0F V B N) 0 t → zup (fun k => if k < t then lowT (unsB V) (V 81 0) N (p0F V B N) 0 k else V 89 0 k) t x = (fun k => if k < t + 1 then lowT (unsB V) (V 81 0) N (p0F V B N) 0 k else V 89 0 k) := fun x hx => by
        funext k
        by_cases c : k = t
        · subst c; rw [zup_eq, if_pos (by omega), hx]
        · rw [zup_ne c]
          by_cases c2 : k < t
          · rw [if_pos c2, if_pos (by omega)]
          · rw [if_neg c2, if_neg (by omega)]
      have e81 : ∀ q, (xrow V 89 q) 81 0 t = (V 81 0 t) := fun q => rfl
      have F1 := y_rUns (d + 2) (xrow V 89 (fun k => if k < t then lowT (unsB V) (V 81 0) N (p0F V B N) 0 k else V 89 0 k)) (t := (t : Int)) (by omega) (by omega)
      rw [Int.toNat_natCast] at F1
      have F2 := y_rBackdrop d (xrow V 89 (fun k => if k < t then lowT (unsB V) (V 81 0) N (p0F V B N) 0 k else V 89 0 k)) (B := B) (by exact hb) (t := (t : Int)) (by omega) (by rw [e9]; omega)
      rw [Int.toNat_natCast] at F2
      have F3 := y_placeOf (d + 2) (xrow V 89 (fun k => if k < t then lowT (unsB V) (V 81 0) N (p0F V B N) 0 k else V 89 0 k)) (t := (t : Int)) (by omega) (by omega)
      have F3' : Yf (d + 3) 215 [xr 14 0, xi (t : Int)] (xrow V 89 (fun k => if k < t then lowT (unsB V) (V 81 0) N (p0F V B N) 0 k else V 89 0 k)) = some (xi (if (V 80 0 t) = 0 then -9 else (V 78 0 (6 * t))), xrow V 89 (fun k => if k < t then lowT (unsB V) (V 81 0) N (p0F V B N) 0 k else V 89 0 k)) := by
        rw [F3]
        show some (xi (if V 80 0 ((t : Int).toNat) = 0 then -9 else V 78 0 ((6 * (t : Int)).toNat)), _) = _
        rw [Int.toNat_natCast, show (6 * (t : Int)).toNat = 6 * t by omega]
      rw [s_X12_settle_95, e9, if_pos (by omega), F1, ci_r, ite_b2, wt ()]
      by_cases c1 : unsB V t = true
      · have L := y_low (d + 2) (xrow V 89 (fun k => if k < t then lowT (unsB V) (V 81 0) N (p0F V B N) 0 k else V 89 0 k)) (hne t hlt c1)
        have c1' : unsB (xrow V 89 (fun k => if k < t then lowT (unsB V) (V 81 0) N (p0F V B N) 0 k else V 89 0 k)) t = true := c1
        rw [if_pos c1', if_pos i6, Int.toNat_natCast, e81, L, ci_r, if_pos i6, xrow_u, ez _ (by unfold lowT; rw [if_pos ⟨by omega, hlt, c1⟩])]
        exact ih
      · have c1' : ¬ unsB (xrow V 89 (fun k => if k < t then lowT (unsB V) (V 81 0) N (p0F V B N) 0 k else V 89 0 k)) t = true := c1
        rw [if_neg c1', F2, ci_r, ite_b2]
        by_cases c2 : B t = 3
        · rw [if_pos c2, if_pos i6, Int.toNat_natCast, xrow_u, ez _ (by unfold lowT p0F; rw [if_neg (fun z => c1 z.2.2), if_pos hlt, if_pos c2])]
          exact ih
        · rw [if_neg c2, F3', ci_r, if_pos i6, Int.toNat_natCast, xrow_u, ez _ (by unfold lowT p0F; rw [if_neg (c := 0 ≤ t ∧ t < N ∧ unsB V t = true) (fun z => c1 z.2.2), if_pos hlt, if_neg c2])]
          exact ih
    · have : t = N := by omega
      subst this
      exact last
/-- the reference's settle: refused, or no way, or a way -/
theorem r_settle (d : Nat) (V : XM) {B : Nat → Int} {N : Nat} (h : KR V B N) (g : gv V B N (unsB V) (V 81 0)) (hv : vp N (p0F V B N)) (hne : ∀ k, k < N → unsB V k = true → ∃ x, x < 64 ∧ bt (V 81 0 k) x = true) : Yf (d + 30) 249 [xr 14 0] V = if 7 < cnt (unsB V) N ∨ 3000 < wyN V N then some (xi (-3), V) else if 300 < (V 14 0 22) + cnt (unsB V) N then some (xi (-4), V) else odR (sr (kpB V B N) (unsB V) (V 81 0) N 0 (p0F V B N)) (oDone (d + 24) V (cnt (unsB V) N)) (some (xi (-5), xrow V 89 (lowT (unsB V) (V 81 0) N (p0F V B N) 0))) := by
  obtain ⟨hb, hN, hs, hmb, hpr⟩ := id h
  have t1 := hb.2.1
  have t2 := hb.2.2.1
  have U := y_rUnsettled (d + 27) V t1 t2
  rw [show (V 14 0 9).toNat = N by omega] at U
  have hc := cnt_b (unsB V) N
  have x1 := x_rWays (d + 28) V (cnt (unsB V) N) hN (by omega) N 0 (by omega) (by omega)
  have x1' : Xf (d + 29) 249 10 [xr 14 0, xi (cnt (unsB V) N), xl 1, xr 0 0, xi 0, xr 0 0, xr 0 0] [] V = Xf (d + 29) 249 10 [xr 14 0, xi (cnt (unsB V) N), xl (wyN V N), xr 0 0, xi (N : Int), xr 0 0, xr 0 0] [] V := x1
  have ws : Unit → w32 ((V 14 0 22) + cnt (unsB V) N) = (V 14 0 22) + cnt (unsB V) N := fun _ => w32_i (by omega) (by omega)
  have x2 := x_r95 (d + 26) V (cnt (unsB V) N) hb hN hne N 0 (by omega) (by omega)
  have e0 : (fun k => if k < 0 then lowT (unsB V) (V 81 0) N (p0F V B N) 0 k else V 89 0 k) = V 89 0 := by
    funext k; rw [if_neg (by omega)]
  rw [e0, xrow_self] at x2
  have x2' : Xf (d + 29) 249 95 [xr 14 0, xi (cnt (unsB V) N), xr 0 0, xr 0 0, xi 0, xr 0 0, xr 0 0] [] V = oLoop (d + 24) V (cnt (unsB V) N) (lowT (unsB V) (V 81 0) N (p0F V B N) 0) := x2
  have x3 := x_odo (d + 24) V (cnt (unsB V) N) h g hne N 0 (p0F V B N) (by omega) hv
  rw [oCont_0] at x3
  rw [s_X12_settle, U, ci_r, x1', s_X12_settle_10, hN, if_neg (by omega)]
  simp only [cmp3_gt]
  by_cases c1 : 7 < cnt (unsB V) N
  · rw [if_pos c1, if_pos (.inl c1)]
  · rw [if_neg c1]
    by_cases c2 : 3000 < wyN V N
    · rw [if_pos c2, if_pos (.inr c2)]
    · rw [if_neg c2, if_neg (c := 7 < cnt (unsB V) N ∨ 3000 < wyN V N) (fun z => by rcases z with z | z; exact c1 z; exact c2 z), ws ()]
      by_cases c3 : 300 < (V 14 0 22) + cnt (unsB V) N
      · rw [if_pos c3, if_pos c3]
      · rw [if_neg c3, if_neg c3, x2', x3]
