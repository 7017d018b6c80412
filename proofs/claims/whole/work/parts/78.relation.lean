/-! relation -/
def xff (V : XM) (g i : Nat) (lo hi : Int) (F : Nat → Int) : XM := fun a b c => if a = g ∧ b = i ∧ (lo ≤ (c : Int) ∧ (c : Int) < hi) then F c else V a b c
def fif (f : Nat → Int) (lo hi : Int) (F : Nat → Int) : Nat → Int := fun j => if lo ≤ (j : Int) ∧ (j : Int) < hi then F j else f j
theorem xff_rw (V : XM) (g i : Nat) (lo hi : Int) (F : Nat → Int) : (xff V g i lo hi F) g i = fif (V g i) lo hi F := by
  funext c; unfold xff fif; by_cases h : lo ≤ (c : Int) ∧ (c : Int) < hi <;> simp [h]
theorem xff_0 (V : XM) (g i : Nat) (lo : Int) (F : Nat → Int) : xff V g i lo lo F = V := by
  funext a b c; unfold xff; rw [if_neg (by omega)]
theorem xff_s (V : XM) (g i : Nat) (lo hi : Int) (F : Nat → Int) (h0 : 0 ≤ lo) (h : lo < hi) : xff (xu V g i lo.toNat (F lo.toNat)) g i (lo + 1) hi F = xff V g i lo hi F := by
  funext a b c; unfold xff xu
  by_cases h1 : a = g ∧ b = i
  · by_cases h2 : lo ≤ (c : Int) ∧ (c : Int) < hi
    · rw [if_pos (c := a = g ∧ b = i ∧ (lo ≤ (c : Int) ∧ (c : Int) < hi)) (by omega)]
      by_cases h3 : c = lo.toNat
      · rw [if_neg (by omega), if_pos (by omega), h3]
      · rw [if_pos (by omega)]
    · rw [if_neg (by omega), if_neg (by omega), if_neg (by omega)]
  · rw [if_neg (by omega), if_neg (by omega), if_neg (by omega)]
theorem fif_in {f : Nat → Int} {lo hi : Int} {F : Nat → Int} {j : Nat} (h : lo ≤ (j : Int) ∧ (j : Int) < hi) : fif f lo hi F j = F j := by unfold fif; rw [if_pos h]
theorem fif_out {f : Nat → Int} {lo hi : Int} {F : Nat → Int} {j : Nat} (h : ¬ (lo ≤ (j : Int) ∧ (j : Int) < hi)) : fif f lo hi F j = f j := by unfold fif; rw [if_neg h]
def relR (r f : Int) (c : Nat) : Int := if f = 5 then lShl 1 ((c : Int) - 64 * r) else 0
theorem x_radd (d : Nat) : ∀ (m : Nat) (V : XM) (l r f : Int), (64 - l).toNat ≤ m → 0 ≤ l → l ≤ 64 → (V 10 0 6) = r → 0 ≤ r → r < 8 → Xf (d + 1) 36 12 [xr 10 0, xi f, xi l] [] V = some (xi r, xu (xff V 55 0 (64 * r + l) (64 * r + 64) (relR r f)) 10 0 6 (r + 1)) := by
  intro m
  induction m with
  | zero =>
    intro V l r f hm h0 h1 hr h2 h3
    have hl : l = 64 := by omega
    subst hl
    rw [s_X2_add_12, if_neg (by omega), xff_0, hr, w32_i (by omega) (by omega)]
  | succ m ih =>
    intro V l r f hm h0 h1 hr h2 h3
    by_cases hl : l < 64
    · have e : w32 (w32 (r * 64) + l) = 64 * r + l := by rw [w32_add, w32_i (by omega) (by omega)]; omega
      have ev : ∀ x : Int, relR r f (64 * r + l).toNat = x → xff (xu V 55 0 (64 * r + l).toNat x) 55 0 (64 * r + (l + 1)) (64 * r + 64) (relR r f) = xff V 55 0 (64 * r + l) (64 * r + 64) (relR r f) := by
        intro x hx
        rw [← hx, show 64 * r + (l + 1) = (64 * r + l) + 1 by omega, xff_s _ _ _ _ _ _ (by omega) (by omega)]
      rw [s_X2_add_12, if_pos hl, hr, e, w32_i (by omega) (by omega)]
      by_cases hf : f = 5
      · rw [if_pos hf, s_X11_bit, cl_r, if_pos (by omega), ih _ (l + 1) r f (by omega) (by omega) (by omega) (by exact hr) h2 h3, ev]
        unfold relR
        rw [if_pos hf]
        congr 1
        omega
      · rw [if_neg hf, if_pos (by omega), ih _ (l + 1) r f (by omega) (by omega) (by omega) (by exact hr) h2 h3, ev]
        unfold relR
        rw [if_neg hf]
    · have hl : l = 64 := by omega
      subst hl
      rw [s_X2_add_12, if_neg (by omega), xff_0, hr, w32_i (by omega) (by omega)]
def cRel (V : XM) (r f : Int) : XM := xu (xff (xu V 54 0 r.toNat f) 55 0 (64 * r) (64 * r + 64) (relR r f)) 10 0 6 (r + 1)
def rRel (V : XM) (r f : Int) : XM := xu (xu V 90 0 r.toNat f) 14 0 29 (r + 1)
theorem glN_none {so on tw th : Nat → Int} {r : Int} : ∀ (n : Nat), (∀ k, k < n → so k = 6 → on k ≠ r) → ∀ t, glN so on tw th r n t = t := by
  intro n
  induction n with
  | zero => intro _ t; rfl
  | succ n ih =>
    intro h t
    rw [glN_s, if_neg (fun k => h n (by omega) k.1 k.2.1)]
    exact ih (fun k hk => h k (by omega)) t
theorem Inv.relation {V : XM} (h : Inv V) {f r : Int} (hr : (V 14 0 29) = r) (h8 : r < 8) (hf : 0 ≤ f ∧ f ≤ 5) : Inv (rRel (cRel V r f) r f) := by
  obtain ⟨⟨ck1, ck2, ck3, cp1, cp2, cp3, ct1, ct2, ct3, cs1, cs2, cs3, cq1, cq2, cq3, cr1, cr2, cr3, cf1, cf2, cf3, cb1, cb2, cb3, cw1, cw2, cw3, clf, clc⟩, hkin, hpro, husu, hgiv, hthg, hhom, hput, hrin, hsen, hbar, hset, hmos, hpai, hrel, hmap, hdoo, hshe, htab, hwor⟩ := h
  have en : (rRel (cRel V r f) r f) 14 0 29 = r + 1 := rfl
  refine ⟨⟨ck1, ck2, ck3, cp1, cp2, cp3, ct1, ct2, ct3, cs1, cs2, cs3, cq1, cq2, cq3, by show 0 ≤ r + 1; omega, by show r + 1 ≤ 8; omega, rfl, cf1, cf2, cf3, cb1, cb2, cb3, cw1, cw2, cw3, clf, clc⟩, hkin, hpro, husu, hgiv, hthg, hhom, hput, hrin, hsen, hbar, hset, hmos, hpai, ?_, hmap, hdoo, hshe, htab, hwor⟩
  have e54 : (rRel (cRel V r f) r f) 54 0 = zup (V 54 0) r.toNat f := xu_rw V 54 0 _ _
  have e55 : (rRel (cRel V r f) r f) 55 0 = fif (V 55 0) (64 * r) (64 * r + 64) (relR r f) := xff_rw V 55 0 _ _ _
  have e90 : (rRel (cRel V r f) r f) 90 0 = zup (V 90 0) r.toNat f := xu_rw V 90 0 _ _
  have e85 : (rRel (cRel V r f) r f) 85 0 = V 85 0 := rfl
  have e86 : (rRel (cRel V r f) r f) 86 0 = V 86 0 := rfl
  have e87 : (rRel (cRel V r f) r f) 87 0 = V 87 0 := rfl
  have e88 : (rRel (cRel V r f) r f) 88 0 = V 88 0 := rfl
  have et : (rRel (cRel V r f) r f) 14 0 9 = V 14 0 9 := rfl
  have es : (rRel (cRel V r f) r f) 14 0 22 = V 14 0 22 := rfl
  clear ck1 ck2 ck3 cp1 cp2 cp3 cq1 cq2 cq3 cf1 cf2 cf3 cb1 cb2 cb3 cw1 cw2 cw3 clf clc
  unfold I_rel
  rw [e54, e55, e90, e85, e86, e87, e88, et, es, en]
  refine ⟨fun s k1 k2 k3 => ?_, fun q k1 k2 => ?_, fun s u k1 k2 k3 k4 k5 k6 k7 k8 => ?_⟩
  · obtain ⟨x1, x2, x3⟩ := hrel.1 s k1 k2 k3
    exact ⟨x1, by omega, x3⟩
  · by_cases hq : q = r
    · subst hq
      rw [zup_eq, zup_eq]
      refine ⟨rfl, hf.1, hf.2, fun a b g1 g2 g3 g4 => ?_⟩
      have hno : ∀ k : Nat, k < (V 14 0 22).toNat → (V 85 0 k) = 6 → (V 86 0 k) ≠ q := fun k hk h6 => by
        have := (hrel.1 k (by omega) (by omega) (.inl (by rw [Int.toNat_natCast]; exact h6))).2.1
        rw [Int.toNat_natCast] at this
        omega
      rw [glN_none _ hno, glN_none _ hno, fif_in (by omega)]
      unfold relR
      by_cases h5 : f = 5
      · rw [if_pos h5, show (((64 * q + a).toNat : Nat) : Int) - 64 * q = a by omega, bt_bit g1 g2]
        simp only [decide_eq_true_eq]
        constructor
        · intro e; exact .inl ⟨h5, by omega⟩
        · rintro (⟨_, e⟩ | ⟨e, _⟩)
          · omega
          · exact absurd h5 e
      · rw [if_neg h5, bt_0]
        constructor
        · intro e; cases e
        · rintro (⟨e, _⟩ | ⟨_, s, y1, y2, y3, y4, _⟩)
          · exact absurd e h5
          · exact absurd y4 (hno s.toNat (by omega) y3)
    · have hne : q.toNat ≠ r.toNat := by omega
      rw [zup_ne hne, zup_ne hne]
      obtain ⟨x1, x2, x3, x4⟩ := hrel.2.1 q k1 (by omega)
      refine ⟨x1, x2, x3, fun a b g1 g2 g3 g4 => ?_⟩
      rw [fif_out (by omega)]
      exact x4 a b g1 g2 g3 g4
  · have := hrel.1 s k1 k2 (.inl k5)
    rw [zup_ne (by omega)] at k8
    exact hrel.2.2 s u k1 k2 k3 k4 k5 k6 k7 k8
theorem c_relation (d : Nat) (V : XM) (h : Inv V) (a : Int) : Yf (d + 30) 148 [xr 2 0, xi a] V = if ¬ (0 ≤ a ∧ a ≤ 5) then some (xi (-2), V) else if (V 14 0 29) = 8 then some (xi (-4), V) else some (xi (V 14 0 29), cRel V (V 14 0 29) a) := by
  have h' := h
  obtain ⟨⟨ck1, ck2, ck3, cp1, cp2, cp3, ct1, ct2, ct3, cs1, cs2, cs3, cq1, cq2, cq3, cr1, cr2, cr3, cf1, cf2, cf3, cb1, cb2, cb3, cw1, cw2, cw3, clf, clc⟩, hkin, hpro, husu, hgiv, hthg, hhom, hput, hrin, hsen, hbar, hset, hmos, hpai, hrel, hmap, hdoo, hshe, htab, hwor⟩ := h'
  rw [s_X11_relation]
  (repeat' (first | rfl | rw [ci_r] | rw [cl_r] | rw [cv_r] | rw [ite_b2] | rw [ite_b21] | rw [if_pos (by omega)] | rw [if_neg (by omega)] | rw [y_kindsHas] | rw [y_isKind _ _ _ (by omega)] | rw [y_valHas] | rw [y_isProp _ _ _ (by omega)] | rw [y_thgHas] | rw [y_isThing _ _ _ (by omega)] | rw [y_inRange] | rw [y_in] | rw [s_X11_faulted] | rw [s_X12_faulty] | rw [s_X11_against] | rw [s_X12_against] | simp (disch := omega) only [w32_i, Int.add_sub_cancel, mc64, mc24, mc6, mc8, mc5] | rw [s_X2_add, cr3] | rw [x_radd _ 64 _ 0 (V 14 0 29) a (by omega) (by omega) (by omega) (by exact cr3) (by omega) (by omega), show 64 * (V 14 0 29) + 0 = 64 * (V 14 0 29) by omega] | split))
theorem r_relation (d : Nat) (V : XM) (a : Int) (cr1 : 0 ≤ (V 14 0 29)) (cr2 : (V 14 0 29) ≤ 8) : Yf (d + 30) 259 [xr 14 0, xi a] V = if ¬ (0 ≤ a ∧ a ≤ 5) then some (xi (-2), V) else if (V 14 0 29) = 8 then some (xi (-4), V) else some (xi (V 14 0 29), rRel V (V 14 0 29) a) := by
  rw [s_X12_relation]
  (repeat' (first | rfl | rw [ci_r] | rw [cl_r] | rw [cv_r] | rw [ite_b2] | rw [ite_b21] | rw [if_pos (by omega)] | rw [if_neg (by omega)] | rw [y_kindsHas] | rw [y_isKind _ _ _ (by omega)] | rw [y_valHas] | rw [y_isProp _ _ _ (by omega)] | rw [y_thgHas] | rw [y_isThing _ _ _ (by omega)] | rw [y_inRange] | rw [y_in] | rw [s_X11_faulted] | rw [s_X12_faulty] | rw [s_X11_against] | rw [s_X12_against] | simp (disch := omega) only [w32_i, Int.add_sub_cancel, mc64, mc24, mc6, mc8, mc5] | fail | split))
theorem g_relation (d : Nat) (V : XM) (h : Inv V) (a : Int) : AG d 148 259 [xi a] V := by
  have h' := h
  obtain ⟨⟨ck1, ck2, ck3, cp1, cp2, cp3, ct1, ct2, ct3, cs1, cs2, cs3, cq1, cq2, cq3, cr1, cr2, cr3, cf1, cf2, cf3, cb1, cb2, cb3, cw1, cw2, cw3, clf, clc⟩, hkin, hpro, husu, hgiv, hthg, hhom, hput, hrin, hsen, hbar, hset, hmos, hpai, hrel, hmap, hdoo, hshe, htab, hwor⟩ := h'
  have hC := c_relation d V h a
  by_cases i1 : ¬ (0 ≤ a ∧ a ≤ 5)
  · exact AG.no h (hC.trans (if_pos i1)) ((r_relation d _ a (by exact cr1) (by exact cr2)).trans (if_pos (by exact i1)))
  rw [if_neg i1] at hC
  by_cases i2 : (V 14 0 29) = 8
  · exact AG.no h (hC.trans (if_pos i2)) ((r_relation d _ a (by exact cr1) (by exact cr2)).trans ((if_neg (by exact i1)).trans (if_pos (by exact i2))))
  rw [if_neg i2] at hC
  refine AG.mk hC ((r_relation d _ a (by exact cr1) (by exact cr2)).trans ((if_neg (by exact i1)).trans (if_neg (by exact i2)))) ?_ rfl
  exact Inv.relation h rfl (by omega) (by omega)

