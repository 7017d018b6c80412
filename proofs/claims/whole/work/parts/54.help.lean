/-! small helpers of both sides -/
theorem w64_i {x : Int} (h1 : -9223372036854775808 ≤ x) (h2 : x < 9223372036854775808) : w64 x = x := w64_id ⟨h1, h2⟩
theorem y_valHas (d : Nat) (V : XM) (a : Int) : Yf (d + 2) 105 [xr 5 0, xi a] V = some (xi (b2 (0 ≤ a ∧ a < (V 5 0 9))), V) := by
  rw [s_X9_has, y_inRange, ci_r, ite_b21]
theorem y_isProp (d : Nat) (V : XM) (a : Int) (h : 0 ≤ (V 14 0 3) ∧ (V 14 0 3) ≤ 12) : Yf (d + 2) 193 [xr 14 0, xi a] V = some (xi (b2 (0 ≤ a ∧ a < (V 14 0 3))), V) := by
  rw [s_X12_isProperty, y_in, ci_r, w32_i (by omega) (by omega), ite_b21]
  exact someb (by omega)
theorem y_thgHas (d : Nat) (V : XM) (a : Int) : Yf (d + 1) 90 [xr 4 0, xl a] V = some (xi (b2 (0 ≤ a ∧ a < (V 4 0 7))), V) := by
  rw [s_X8_has]
  simp only [cmp3_lt]
  ((try unfold b2); (repeat' split) <;> first | rfl | (exfalso; omega))
theorem y_isThing (d : Nat) (V : XM) (a : Int) (h : 0 ≤ (V 14 0 9) ∧ (V 14 0 9) ≤ 64) : Yf (d + 2) 203 [xr 14 0, xl a] V = some (xi (b2 (0 ≤ a ∧ a < (V 14 0 9))), V) := by
  rw [s_X12_isThing, y_in, ci_r, w64_i (by omega) (by omega), ite_b21]
  exact someb (by omega)
/-- what the reference's things are, in the class's words -/
def RB (V : XM) (B : Nat → Int) : Prop := KD (V 67 0) (V 14 0 1) ∧ 0 ≤ (V 14 0 9) ∧ (V 14 0 9) ≤ 64 ∧ ∀ t : Int, 0 ≤ t → t < (V 14 0 9) →
  (0 ≤ (V 73 0 (t.toNat)) ∧ (V 73 0 (t.toNat)) < (V 14 0 1) ∧ kbase (V 67 0) (V 73 0 (t.toNat)) = B t.toNat ∧ 0 ≤ B t.toNat ∧ B t.toNat ≤ 5)
theorem Inv.rb {V : XM} (h : Inv V) : RB V (V 21 0) := by
  obtain ⟨⟨ck1, ck2, ck3, cp1, cp2, cp3, ct1, ct2, ct3, cs1, cs2, cs3, cq1, cq2, cq3, cr1, cr2, cr3, cf1, cf2, cf3, cb1, cb2, cb3, cw1, cw2, cw3, clf, clc⟩, hkin, hpro, husu, hgiv, hthg, hhom, hput, hrin, hsen, hbar, hset, hmos, hpai, hrel, hmap, hdoo, hshe, htab, hwor⟩ := h
  refine ⟨hkin.1, ct1, ct2, fun t h0 h1 => ?_⟩
  obtain ⟨a1, a2, a3, a4, a5, a6, a7⟩ := hthg t h0 h1
  exact ⟨a2, a3, a4, a5, a6⟩
theorem y_base (d : Nat) (V : XM) {B : Nat → Int} (h : RB V B) {t : Int} (h0 : 0 ≤ t) (h1 : t < (V 14 0 9)) : Yf (d + 2) 204 [xr 14 0, xi t] V = some (xi (B t.toNat), V) := by
  obtain ⟨hp, h3, h4, h5⟩ := h
  obtain ⟨a1, a2, a3, a4, a5⟩ := h5 t h0 h1
  rw [s_X12_base, if_pos (by omega), y_rbaseOf d V hp _ a1 a2, ci_r, a3]
theorem y_rCarrier (d : Nat) (V : XM) {B : Nat → Int} (h : RB V B) {t : Int} (h0 : 0 ≤ t) (h1 : t < (V 14 0 9)) : Yf (d + 3) 205 [xr 14 0, xi t] V = some (xi (b2 (B t.toNat = 4 ∨ B t.toNat = 5)), V) := by
  rw [s_X12_isCarrier, y_base _ V h h0 h1, ci_r, y_base _ V h h0 h1, ci_r]
  ((try unfold b2); (repeat' split) <;> first | rfl | (exfalso; omega))
theorem y_rHolder (d : Nat) (V : XM) {B : Nat → Int} (h : RB V B) {t : Int} (h0 : 0 ≤ t) (h1 : t < (V 14 0 9)) : Yf (d + 4) 206 [xr 14 0, xi t] V = some (xi (b2 (isH (B t.toNat))), V) := by
  rw [s_X12_isHolder, y_base _ V h h0 h1, ci_r, y_rCarrier _ V h h0 h1, ci_r, ite_b2]
  ((try unfold b2); (repeat' split) <;> first | rfl | (exfalso; omega))
theorem y_rFixed (d : Nat) (V : XM) {B : Nat → Int} (h : RB V B) {t : Int} (h0 : 0 ≤ t) (h1 : t < (V 14 0 9)) : Yf (d + 3) 207 [xr 14 0, xi t] V = some (xi (b2 (B t.toNat = 1 ∨ B t.toNat = 2)), V) := by
  rw [s_X12_isFixed, y_base _ V h h0 h1, ci_r, y_base _ V h h0 h1, ci_r]
  ((try unfold b2); (repeat' split) <;> first | rfl | (exfalso; omega))
theorem y_rBackdrop (d : Nat) (V : XM) {B : Nat → Int} (h : RB V B) {t : Int} (h0 : 0 ≤ t) (h1 : t < (V 14 0 9)) : Yf (d + 3) 208 [xr 14 0, xi t] V = some (xi (b2 (B t.toNat = 3)), V) := by
  rw [s_X12_isBackdrop, y_base _ V h h0 h1, ci_r]
  ((try unfold b2); (repeat' split) <;> first | rfl | (exfalso; omega))
theorem y_rOwn (d : Nat) (V : XM) {B : Nat → Int} (h : RB V B) {t : Int} (h0 : 0 ≤ t) (h1 : t < (V 14 0 9)) : Yf (d + 4) 236 [xr 14 0, xi t] V = some (xi (b2 (B t.toNat = 2 ∨ B t.toNat = 4 ∨ B t.toNat = 5)), V) := by
  rw [s_X12_hasOwn, y_base _ V h h0 h1, ci_r, y_rCarrier _ V h h0 h1, ci_r, ite_b2]
  ((try unfold b2); (repeat' split) <;> first | rfl | (exfalso; omega))
theorem y_rRoom (d : Nat) (V : XM) {B : Nat → Int} (h : RB V B) (t : Int) : Yf (d + 3) 268 [xr 14 0, xi t] V = some (xi (b2 (0 ≤ t ∧ t < (V 14 0 9) ∧ B t.toNat = 1)), V) := by
  rw [s_X12_isRoom, y_isThing _ V t ⟨h.2.1, h.2.2.1⟩, ci_r, ite_b2]
  by_cases h0 : 0 ≤ t ∧ t < (V 14 0 9)
  · rw [if_pos h0, y_base _ V h h0.1 h0.2, ci_r]
    ((try unfold b2); (repeat' split) <;> first | rfl | (exfalso; omega))
  · rw [if_neg h0]
    ((try unfold b2); (repeat' split) <;> first | rfl | (exfalso; omega))
theorem y_cCarrier (d : Nat) (V : XM) {t : Int} (h0 : 0 ≤ t) (h1 : t < 64) : Yf (d + 1) 95 [xr 4 0, xi t] V = some (xi (b2 ((V 21 0 (t.toNat)) = 4 ∨ (V 21 0 (t.toNat)) = 5)), V) := by
  rw [s_X8_isCarrier]
  ((try unfold b2); (repeat' split) <;> first | rfl | (exfalso; omega))
theorem y_cHolder (d : Nat) (V : XM) {t : Int} (h0 : 0 ≤ t) (h1 : t < 64) : Yf (d + 2) 96 [xr 4 0, xi t] V = some (xi (b2 (isH (V 21 0 (t.toNat)))), V) := by
  rw [s_X8_isHolder, y_cCarrier _ V h0 h1, ci_r, ite_b2]
  ((try unfold b2); (repeat' split) <;> first | rfl | (exfalso; omega))
theorem y_cLid (d : Nat) (V : XM) {t : Int} (h0 : 0 ≤ t) (h1 : t < 64) : Yf (d + 2) 97 [xr 4 0, xi t] V = some (xi (b2 ((V 21 0 (t.toNat)) = 2 ∨ (V 21 0 (t.toNat)) = 4 ∨ (V 21 0 (t.toNat)) = 5)), V) := by
  rw [s_X8_hasLid, y_cCarrier _ V h0 h1, ci_r, ite_b2]
  ((try unfold b2); (repeat' split) <;> first | rfl | (exfalso; omega))
theorem y_cFixed (d : Nat) (V : XM) {t : Int} (h0 : 0 ≤ t) (h1 : t < 64) : Yf (d + 1) 98 [xr 4 0, xi t] V = some (xi (b2 ((V 21 0 (t.toNat)) = 1 ∨ (V 21 0 (t.toNat)) = 2)), V) := by
  rw [s_X8_isFixed]
  ((try unfold b2); (repeat' split) <;> first | rfl | (exfalso; omega))
theorem y_cOne (d : Nat) (V : XM) {t : Int} (h0 : 0 ≤ t) (h1 : t < 64) : Yf (d + 2) 99 [xr 4 0, xi t] V = some (xi (b2 (¬ ((V 21 0 (t.toNat)) = 1 ∨ (V 21 0 (t.toNat)) = 2) ∧ (V 21 0 (t.toNat)) ≠ 3)), V) := by
  rw [s_X8_liesInOne, y_cFixed _ V h0 h1, ci_r, ite_b2]
  ((try unfold b2); (repeat' split) <;> first | rfl | (exfalso; omega))
theorem y_cRoom (d : Nat) (V : XM) (t : Int) (h : (V 4 0 7) ≤ 64) : Yf (d + 2) 93 [xr 4 0, xi t] V = some (xi (b2 (0 ≤ t ∧ t < (V 4 0 7) ∧ (V 21 0 (t.toNat)) = 1)), V) := by
  rw [s_X8_isRoom, y_thgHas, ci_r, ite_b2]
  ((try unfold b2); (repeat' split) <;> first | rfl | (exfalso; omega))
theorem y_cMay (d : Nat) (V : XM) {t w : Int} (h0 : 0 ≤ t) (h1 : t < 64) (h2 : 0 ≤ w) (h3 : w < (V 4 0 7)) (h : (V 4 0 7) ≤ 64) : Yf (d + 3) 100 [xr 4 0, xi t, xi w] V = some (xi (b2 (¬ ((V 21 0 (t.toNat)) = 1 ∨ (V 21 0 (t.toNat)) = 2) ∧ (((V 21 0 (t.toNat)) = 3 ∧ (V 21 0 (w.toNat)) = 1) ∨ ((V 21 0 (t.toNat)) ≠ 3 ∧ isH (V 21 0 (w.toNat)))))), V) := by
  rw [s_X8_mayLieIn, y_cFixed _ V h0 h1, ci_r, y_cRoom _ V w h, ci_r, y_cHolder _ V h2 (by omega), ci_r, ite_b2, ite_b2, ite_b2]
  ((try unfold b2); (repeat' split) <;> first | rfl | (exfalso; omega))
theorem y_empty (d : Nat) (V : XM) {q : Int} (h0 : 0 ≤ q) (h1 : q < 12) : Yf (d + 1) 106 [xr 5 0, xi q] V = some (xl (if (V 27 0 (q.toNat)) = 8 then -9 else 0), V) := by
  rw [s_X9_emptyCell]
  ((try unfold b2); (repeat' split) <;> first | rfl | (exfalso; omega))
theorem y_isFor (d : Nat) (V : XM) (hk : I_kin V) {t q : Int} (h0 : 0 ≤ t) (h1 : t < 64) (h2 : 0 ≤ q) (h3 : q < 12) (h4 : 0 ≤ (V 20 0 (t.toNat))) (h5 : (V 20 0 (t.toNat)) < (V 14 0 1)) (h6 : 0 ≤ (V 26 0 (q.toNat))) : Yf (d + 2) 109 [xr 5 0, xi t, xi q] V = some (xi (b2 (kfit (V 67 0) (V 20 0 (t.toNat)) (V 26 0 (q.toNat)) = true)), V) := by
  rw [s_X9_isFor, if_pos ⟨h0, h1⟩, if_pos ⟨h2, h3⟩, y_fits _ V _ hk.1 hk.2.1 _ _ h6 h4 h5, ci_r, ite_b21]
theorem mc64 (b : Int) : b * 64 = 64 * b := Int.mul_comm _ _
theorem mc24 (b : Int) : b * 24 = 24 * b := Int.mul_comm _ _
theorem mc6 (b : Int) : b * 6 = 6 * b := Int.mul_comm _ _
theorem mc8 (b : Int) : b * 8 = 8 * b := Int.mul_comm _ _
theorem mc5 (b : Int) : b * 5 = 5 * b := Int.mul_comm _ _
