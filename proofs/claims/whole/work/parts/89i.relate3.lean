/-! relate: joined rows -/
theorem xu_xff {V : XM} {g : Nat} {lo hi : Int} {j : Nat} {x : Int} (h : lo ≤ (j : Int) ∧ (j : Int) < hi) : xu V g 0 j x = xff V g 0 lo hi (zup (V g 0) j x) := by
  funext a b c; unfold xff xu zup
  by_cases k : a = g ∧ b = 0
  · obtain ⟨k1, k2⟩ := k
    subst k1; subst k2
    by_cases e : c = j
    · subst e; simp [h]
    · simp [e]
  · rw [if_neg (by omega), if_neg (by omega)]
theorem x_mg55 (d : Nat) (both r : Int) (r0 : 0 ≤ r) (r1 : r < 8) : ∀ (m : Nat) (V : XM) (l : Int), (64 - l).toNat ≤ m → 0 ≤ l → l ≤ 64 → Xf (d + 1) 41 16 [xr 55 0, xi (64 * r), xr 0 0, xr 0 0, xl both, xr 0 0, xi l] [] V = some (xi 0, xff V 55 0 (64 * r + l) (64 * r + 64) (mgR V 55 (64 * r).toNat both)) := by
  intro m
  induction m with
  | zero =>
    intro V l hm h0 h1
    rw [s_X2_merge_16_r, if_neg (by omega), show l = 64 by omega, xff_0]
  | succ m ih =>
    intro V l hm h0 h1
    by_cases hl : l < 64
    · have ew : w32 (64 * r + l) = 64 * r + l := w32_i (by omega) (by omega)
      have bt' := bt_test both h0 hl
      have es : (64 * r + l).toNat - (64 * r).toNat = l.toNat := by omega
      have ea : 64 * r + (l + 1) = (64 * r + l) + 1 := by omega
      rw [s_X2_merge_16_r, if_pos hl, s_X11_bit, cl_r, ew, w32_i (x := l + 1) (by omega) (by omega)]
      simp only [cmp3_eq]
      cases hz : bt both l.toNat with
      | false =>
        rw [if_pos (bt'.mpr hz), ih V (l + 1) (by omega) (by omega) (by omega), ea, xff_skip (by omega) (by omega)]
        unfold mgR
        rw [es, hz]
        simp
      | true =>
        rw [if_neg (fun k => by have := bt'.mp k; rw [hz] at this; cases this), if_pos (by omega), ih _ (l + 1) (by omega) (by omega) (by omega), ea]
        have e1 : xff (xu V 55 0 (64 * r + l).toNat both) 55 0 (64 * r + l + 1) (64 * r + 64) (mgR (xu V 55 0 (64 * r + l).toNat both) 55 (64 * r).toNat both) = xff (xu V 55 0 (64 * r + l).toNat both) 55 0 (64 * r + l + 1) (64 * r + 64) (mgR V 55 (64 * r).toNat both) := by
          refine xff_congr (fun c c1 c2 => ?_)
          unfold mgR
          rw [xu_rw, zup_ne (by omega)]
        have e2 : mgR V 55 (64 * r).toNat both (64 * r + l).toNat = both := by unfold mgR; rw [es, hz]; rfl
        have e3 := xff_s V 55 0 (64 * r + l) (64 * r + 64) (mgR V 55 (64 * r).toNat both) (by omega) (by omega)
        rw [e2] at e3
        rw [e1, e3]
    · rw [s_X2_merge_16_r, if_neg (by omega), show l = 64 by omega, xff_0]
def JN (V : XM) (r a b : Int) (F : Nat → Int) : Prop :=
  ((V 54 0 (r.toNat)) = 5 → F = mgR V 55 (64 * r).toNat (lOr (V 55 0 (64 * r + a).toNat) (V 55 0 (64 * r + b).toNat))) ∧
  ((V 54 0 (r.toNat)) ≠ 5 → ∀ x y : Int, 0 ≤ x → x < 64 → 0 ≤ y → y < 64 → (bt (F (64 * r + x).toNat) y.toNat = true ↔ bt (V 55 0 (64 * r + x).toNat) y.toNat = true ∨ (x = a ∧ y = b) ∨ ((V 54 0 (r.toNat)) = 4 ∧ x = b ∧ y = a)))
theorem y_join (d : Nat) (V : XM) {r a b : Int} (ir : 0 ≤ r ∧ r < 8) (ia : 0 ≤ a ∧ a < 64) (ib : 0 ≤ b ∧ b < 64) (hab : a ≠ b) : ∃ F : Nat → Int, Yf (d + 3) 40 [xr 10 0, xi r, xi a, xi b] V = some (xi 0, xff V 55 0 (64 * r) (64 * r + 64) F) ∧ JN V r a b F := by
  have w0 : w32 (r * 64) = 64 * r := by rw [w32_i (by omega) (by omega)]; omega
  have wa : w32 (64 * r + a) = 64 * r + a := w32_i (by omega) (by omega)
  have wb : w32 (64 * r + b) = 64 * r + b := w32_i (by omega) (by omega)
  have bit : ∀ z w : Int, 0 ≤ z → z < 64 → 0 ≤ w → (bt (lShl 1 z) w.toNat = true ↔ w = z) := fun z w z0 z1 w0 => by
    rw [bt_bit z0 (by omega), decide_eq_true_eq]; omega
  rw [s_X2_join, if_pos ir, w0]
  by_cases c5 : (V 54 0 (r.toNat)) = 5
  · refine ⟨_, ?_, fun _ => rfl, fun k => absurd c5 k⟩
    rw [if_pos c5, s_X2_merge_r, wa, wb, if_pos (by omega), if_pos (by omega), x_mg55 _ _ r ir.1 ir.2 64 V 0 (by omega) (by omega) (by omega), cv_r, show 64 * r + 0 = 64 * r by omega]
  · rw [if_neg c5, wa, wb, if_pos (by omega), s_X11_bit, cl_r, if_pos (by omega), if_pos ir]
    by_cases c4 : (V 54 0 (r.toNat)) = 4
    · rw [if_pos c4, if_pos (by omega), s_X11_bit, cl_r, if_pos (by omega), xu_xff (V := xu V 55 0 (64 * r + a).toNat _) (lo := 64 * r) (hi := 64 * r + 64) (by omega), xu_xff (V := V) (lo := 64 * r) (hi := 64 * r + 64) (by omega), xff_xff]
      refine ⟨_, rfl, fun k => absurd k c5, fun _ x y x0 x1 y0 y1 => ?_⟩
      have e : ∀ F : Nat → Int, (∀ j : Nat, 64 * r ≤ (j : Int) ∧ (j : Int) < 64 * r + 64 → (xff V 55 0 (64 * r) (64 * r + 64) F) 55 0 j = F j) := fun F j hj => by rw [xff_e, if_pos ⟨rfl, rfl, hj⟩]
      rw [e _ (64 * r + b).toNat (by omega)]
      by_cases q1 : x = b
      · subst q1
        rw [zup_eq, zup_ne (by omega), bt_or, Bool.or_eq_true, bit _ _ ia.1 ia.2 y0]
        constructor
        · rintro (k | k)
          · exact .inl k
          · exact .inr (.inr ⟨c4, rfl, k⟩)
        · rintro (k | k | k)
          · exact .inl k
          · exact absurd k.1.symm hab
          · exact .inr k.2.2
      · rw [zup_ne (by omega), e _ (64 * r + x).toNat (by omega)]
        by_cases q2 : x = a
        · subst q2
          rw [zup_eq, bt_or, Bool.or_eq_true, bit _ _ ib.1 ib.2 y0]
          constructor
          · rintro (k | k)
            · exact .inl k
            · exact .inr (.inl ⟨rfl, k⟩)
          · rintro (k | k | k)
            · exact .inl k
            · exact .inr k.2
            · exact absurd k.2.1 q1
        · rw [zup_ne (by omega)]
          constructor
          · intro k; exact .inl k
          · rintro (k | k | k)
            · exact k
            · exact absurd k.1 q2
            · exact absurd k.2.1 q1
    · rw [if_neg c4, xu_xff (V := V) (lo := 64 * r) (hi := 64 * r + 64) (by omega)]
      refine ⟨_, rfl, fun k => absurd k c5, fun _ x y x0 x1 y0 y1 => ?_⟩
      by_cases q2 : x = a
      · subst q2
        rw [zup_eq, bt_or, Bool.or_eq_true, bit _ _ ib.1 ib.2 y0]
        constructor
        · rintro (k | k)
          · exact .inl k
          · exact .inr (.inl ⟨rfl, k⟩)
        · rintro (k | k | k)
          · exact .inl k
          · exact .inr k.2
          · exact absurd k.1 c4
      · rw [zup_ne (by omega)]
        constructor
        · intro k; exact .inl k
        · rintro (k | k | k)
          · exact k
          · exact absurd k.1 q2
          · exact absurd k.1 c4
theorem glN_rel {so on tw th : Nat → Int} {n : Nat} {r a b : Int} (q t : Int) : glN (zup so n 6) (zup on n r) (zup tw n a) (zup th n b) q (n + 1) t = if r = q ∧ glN so on tw th q n a ≠ glN so on tw th q n b ∧ glN so on tw th q n t = glN so on tw th q n b then glN so on tw th q n a else glN so on tw th q n t := by
  have e : ∀ t, glN (zup so n 6) (zup on n r) (zup tw n a) (zup th n b) q n t = glN so on tw th q n t := fun t => glN_congr q n (fun k hk => ⟨zup_ne (by omega), zup_ne (by omega), zup_ne (by omega), zup_ne (by omega)⟩) t
  rw [glN_s, zup_eq, zup_eq, zup_eq, zup_eq, e, e, e]
  by_cases c : r = q ∧ glN so on tw th q n a ≠ glN so on tw th q n b ∧ glN so on tw th q n t = glN so on tw th q n b
  · rw [if_pos ⟨rfl, c⟩, if_pos c]
  · rw [if_neg (fun k => c k.2), if_neg c]
