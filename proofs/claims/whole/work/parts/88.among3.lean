/-! among -/
theorem lfN_congr {V W : XM} (e85 : W 85 = V 85) (e86 : W 86 = V 86) (e87 : W 87 = V 87) (t x : Int) : ∀ m l, lfN W t x m l = lfN V t x m l := by
  intro m
  induction m with
  | zero => intro l; rfl
  | succ m ih => intro l; unfold lfN; rw [e85, e86, e87, ih]
theorem lAnd_comm (x y : Int) : lAnd x y = lAnd y x := bt_ext (lAnd_c _ _) (lAnd_c _ _) (fun i _ => by rw [bt_and, bt_and, Bool.and_comm])
def ag3 (V : XM) (t b : Int) : Int := if 0 < (V 80 0 (t.toNat)) ∧ bt b (V 78 0 ((6 * t).toNat)).toNat = false then (V 79 0 ((6 * t).toNat)) else if (V 81 0 (t.toNat)) ≠ 0 ∧ lAnd b (V 81 0 (t.toNat)) = 0 then la (fun k => decide ((V 85 0 k) = 3 ∧ (V 86 0 k) = t)) (V 14 0 22).toNat else if lfN V t (if (V 81 0 (t.toNat)) = 0 then b else lAnd (V 81 0 (t.toNat)) b) (V 14 0 22).toNat 0 = 0 then ff (biB V t b) (V 14 0 22).toNat 0 else -9
theorem r_among (d : Nat) (V : XM) {B : Nat → Int} (hb : RB V B) {a b : Int} (ia : 0 ≤ a ∧ a < (V 14 0 9)) (cs1 : 0 ≤ (V 14 0 22)) (cs2 : (V 14 0 22) ≤ 300) (hh : 0 < (V 80 0 (a.toNat)) → 0 ≤ (V 78 0 ((6 * a).toNat)) ∧ (V 78 0 ((6 * a).toNat)) < 64) (h2 : ∀ s : Nat, (s : Int) < (V 14 0 22) → (V 85 0 s) = 1 → 0 ≤ (V 87 0 s) ∧ (V 87 0 s) < 64) (hag : ag3 V a b = -9 ∨ 0 ≤ ag3 V a b) (hx1 : 0 < (V 80 0 (a.toNat)) → 0 ≤ (V 79 0 ((6 * a).toNat))) (hx2 : (V 81 0 (a.toNat)) ≠ 0 → 0 ≤ la (fun k => decide ((V 85 0 k) = 3 ∧ (V 86 0 k) = a)) (V 14 0 22).toNat) (hx3 : lfN V a (if (V 81 0 (a.toNat)) = 0 then b else lAnd (V 81 0 (a.toNat)) b) (V 14 0 22).toNat 0 = 0 → ¬ ((V 81 0 (a.toNat)) ≠ 0 ∧ lAnd b (V 81 0 (a.toNat)) = 0) → b ≠ 0 → 0 ≤ ff (biB V a b) (V 14 0 22).toNat 0) : Yf (d + 30) 240 [xr 14 0, xi a, xl b] V =
    if knB (V 14 0 9) b 64 = false then some (xi (-1), V) else if b = 0 then some (xi (-2), V) else if B a.toNat = 1 ∨ B a.toNat = 2 ∨ B a.toNat = 3 ∨ hdB B (V 14 0 9) a b 64 = false then some (xi (-3), V) else if (V 14 0 22) = 300 then some (xi (-4), V) else
    if ag3 V a b ≠ -9 then some (xi (w32 (-100 - ag3 V a b)), V) else some (xi (V 14 0 22), rTell (xu V 81 0 a.toNat (lfN V a (if (V 81 0 (a.toNat)) = 0 then b else lAnd (V 81 0 (a.toNat)) b) (V 14 0 22).toNat 0)) (V 14 0 22) 3 a (w32 b) 0) := by
  obtain ⟨hp, ct1, ct2, h6⟩ := id hb
  have i1 : b2 (0 ≤ a ∧ a < (V 14 0 9)) = 1 := b2_1.mpr ia
  have L := x_r15 (d + 25) V hb a b 64 0 (by omega) (by omega)
  have e0 : b2 (knB (V 14 0 9) b 0 = true) = 1 := rfl
  have e1 : b2 (hdB B (V 14 0 9) a b 0 = true) = 1 := rfl
  rw [e0, e1] at L
  rw [s_X12_among, y_isThing _ V _ ⟨ct1, ct2⟩, ci_r, i1]
  refine L.trans ?_
  rw [s_X12_among_15, if_neg (by omega)]
  simp only [cmp3_eq]
  have P2 := fun k => y_rBackdrop k V hb ia.1 ia.2
  have P1 := fun k => y_rFixed k V hb ia.1 ia.2
  have P3 := fun k => y_rAmong k V a cs1 cs2
  have hR := fun x (h300 : (V 14 0 22) < 300) => x_r239 (d + 27) V a b x (by omega) h2 h300 (V 14 0 22).toNat (by omega)
  have e5 : ∀ x, lfN V a x ((V 14 0 22).toNat - (V 14 0 22).toNat) (V 14 0 22).toNat = x := fun x => by rw [Nat.sub_self]; rfl
  have e6 : ff (biB V a b) ((V 14 0 22).toNat - (V 14 0 22).toNat) (V 14 0 22).toNat = -9 := by rw [Nat.sub_self]; rfl
  have e7 : (((V 14 0 22).toNat : Nat) : Int) - 1 = (V 14 0 22) - 1 := by omega
  cases hk : knB (V 14 0 9) b 64 with
  | false => rw [show b2 (false = true) = 0 from rfl, if_pos rfl, if_pos rfl]
  | true =>
    rw [show b2 (true = true) = 1 from rfl, if_neg (by omega), if_neg (c := true = false) (by simp)]
    by_cases c0 : b = 0
    · rw [if_pos c0, if_pos c0]
    rw [if_neg c0, if_neg c0, P1, ci_r, ite_b2]
    by_cases c1 : B a.toNat = 1 ∨ B a.toNat = 2
    · rw [if_pos c1, if_pos (by omega)]
    rw [if_neg c1, P2, ci_r, ite_b2]
    by_cases c2 : B a.toNat = 3
    · rw [if_pos c2, if_pos (by omega)]
    rw [if_neg c2]
    cases hd : hdB B (V 14 0 9) a b 64 with
    | false => rw [show b2 (false = true) = 0 from rfl, if_pos rfl, if_pos (.inr (.inr (.inr rfl)))]
    | true =>
      rw [show b2 (true = true) = 1 from rfl, if_neg (by omega), if_neg (c := B a.toNat = 1 ∨ B a.toNat = 2 ∨ B a.toNat = 3 ∨ true = false) (by simp; omega)]
      by_cases c3 : (V 14 0 22) = 300
      · rw [if_pos c3, if_pos c3]
      rw [if_neg c3, if_neg c3, if_pos (by omega)]
      have w6 : w32 (6 * a) = 6 * a := w32_i (by omega) (by omega)
      have ws : w32 ((V 14 0 22) - 1) = (V 14 0 22) - 1 := w32_i (by omega) (by omega)
      rw [w6, ws]
      -- the tail, given that the home is in the set
      have tail : ¬ (0 < (V 80 0 (a.toNat)) ∧ bt b (V 78 0 ((6 * a).toNat)).toNat = false) → (if 0 ≤ a ∧ a < 64 then if (V 81 0 (a.toNat)) = 0 then if b = 0 then (ci (Yf (d + 29) 213 [xr 14 0, xi a] V) fun x12 V11 => ci (Yf (d + 29) 211 [xi x12] V11) fun x14 V13 => some (xi x14, V13)) else Xf (d + 29) 240 239 [xr 14 0, xi a, xl b, xr 0 0, xr 0 0, xr 0 0, xl b, xr 0 0, xi (-9), xi ((V 14 0 22) - 1)] [] V else if 0 ≤ a ∧ a < 64 then if lAnd (V 81 0 (a.toNat)) b = 0 then (ci (Yf (d + 29) 213 [xr 14 0, xi a] V) fun x12 V11 => ci (Yf (d + 29) 211 [xi x12] V11) fun x14 V13 => some (xi x14, V13)) else Xf (d + 29) 240 239 [xr 14 0, xi a, xl b, xr 0 0, xr 0 0, xr 0 0, xl (lAnd (V 81 0 (a.toNat)) b), xr 0 0, xi (-9), xi ((V 14 0 22) - 1)] [] V else none else none : XR) = if ag3 V a b ≠ -9 then some (xi (w32 (-100 - ag3 V a b)), V) else some (xi (V 14 0 22), rTell (xu V 81 0 a.toNat (lfN V a (if (V 81 0 (a.toNat)) = 0 then b else lAnd (V 81 0 (a.toNat)) b) (V 14 0 22).toNat 0)) (V 14 0 22) 3 a (w32 b) 0) := by
        intro hno
        unfold ag3 at hag ⊢
        rw [if_neg (c := 0 < (V 80 0 (a.toNat)) ∧ bt b (V 78 0 ((6 * a).toNat)).toNat = false) hno]
        rw [if_neg (c := 0 < (V 80 0 (a.toNat)) ∧ bt b (V 78 0 ((6 * a).toNat)).toNat = false) hno] at hag
        rw [if_pos (by omega)]
        by_cases g1 : (V 81 0 (a.toNat)) = 0
        · rw [if_pos g1, if_neg c0, if_neg (c := (V 81 0 (a.toNat)) ≠ 0 ∧ lAnd b (V 81 0 (a.toNat)) = 0) (fun k => k.1 g1), if_pos (c := (V 81 0 (a.toNat)) = 0) g1]
          rw [if_pos (c := (V 81 0 (a.toNat)) = 0) g1] at hx3
          have := hR b (by omega)
          rw [e5, e6, e7] at this
          refine this.trans ?_
          by_cases g2 : lfN V a b (V 14 0 22).toNat 0 = 0
          · have := hx3 g2 (fun k => k.1 g1) c0
            rw [if_pos g2, if_pos g2, if_pos (by omega)]
          · rw [if_neg g2, if_neg g2, if_neg (fun k => k rfl)]
        · rw [if_neg g1, if_pos (by omega), lAnd_comm]
          by_cases g3 : lAnd b (V 81 0 (a.toNat)) = 0
          · have := hx2 g1
            rw [if_pos g3, P3, ci_r, s_X12_against, ci_r, if_pos (c := (V 81 0 (a.toNat)) ≠ 0 ∧ lAnd b (V 81 0 (a.toNat)) = 0) ⟨g1, g3⟩, if_pos (by omega)]
          · rw [if_neg g3, if_neg (c := (V 81 0 (a.toNat)) ≠ 0 ∧ lAnd b (V 81 0 (a.toNat)) = 0) (fun k => g3 k.2), if_neg (c := (V 81 0 (a.toNat)) = 0) g1]
            rw [if_neg (c := (V 81 0 (a.toNat)) = 0) g1, lAnd_comm] at hx3
            have := hR (lAnd b (V 81 0 (a.toNat))) (by omega)
            rw [e5, e6, e7] at this
            refine this.trans ?_
            by_cases g2 : lfN V a (lAnd b (V 81 0 (a.toNat))) (V 14 0 22).toNat 0 = 0
            · have := hx3 g2 (fun k => g3 k.2) c0
              rw [if_pos g2, if_pos g2, if_pos (by omega)]
            · rw [if_neg g2, if_neg g2, if_neg (fun k => k rfl)]
      by_cases c4 : 0 < (V 80 0 (a.toNat))
      · obtain ⟨q1, q2⟩ := hh c4
        rw [if_pos c4, if_pos (by omega), bt_rtest b q1 q2]
        by_cases c5 : bt b (V 78 0 ((6 * a).toNat)).toNat = true
        · rw [if_pos c5, if_neg (by omega)]
          exact tail (fun k => by have := k.2; rw [c5] at this; cases this)
        · have c5' : bt b (V 78 0 ((6 * a).toNat)).toNat = false := by simpa using c5
          have := hx1 c4
          unfold ag3
          rw [if_neg c5, if_pos rfl, if_pos (by omega), s_X12_against, ci_r, if_pos (c := 0 < (V 80 0 (a.toNat)) ∧ bt b (V 78 0 ((6 * a).toNat)).toNat = false) ⟨c4, c5'⟩, if_pos (by omega)]
      · rw [if_neg c4]
        exact tail (fun k => c4 k.1)
