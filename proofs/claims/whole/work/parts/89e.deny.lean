/-! deny -/
def erB (V : XM) (r a b : Int) (s : Nat) : Bool := decide ((V 85 0 s) = 6 ∧ (V 86 0 s) = r ∧ (a = -9 ∨ (V 87 0 s) = a) ∧ (b = -9 ∨ (V 88 0 s) = b))
theorem y_eRel (d : Nat) (V : XM) (h : Inv V) (r a b : Int) : Yf (d + 1) 44 [xr 10 0, xi r, xi a, xi b] V = some (xi (ff (erB V r a b) (V 14 0 22).toNat 0), V) := by
  obtain ⟨⟨ck1, ck2, ck3, cp1, cp2, cp3, ct1, ct2, ct3, cs1, cs2, cs3, cq1, cq2, cq3, cr1, cr2, cr3, cf1, cf2, cf3, cb1, cb2, cb3, cw1, cw2, cw3, clf, clc⟩, hkin, hpro, husu, hgiv, hthg, hhom, hput, hrin, hsen, hbar, hset, hmos, hpai, hrel, hmap, hdoo, hshe, htab, hwor⟩ := h
  clear ck1 ck2 ck3 cp1 cp2 cp3 cq1 cq2 cq3 cr1 cr2 cr3 cf1 cf2 cf3 cb1 cb2 cb3 cw1 cw2 cw3 clf clc
  rw [s_X2_earliestRelate]
  refine loop_first (F := fun l => Xf d 44 3 [xr 10 0, xi r, xi a, xi b, xi l] [] V) cs1 (fun l k0 k1 => ?_)
  show Xf d 44 3 [xr 10 0, xi r, xi a, xi b, xi l] [] V = if _ then (if _ then _ else Xf d 44 3 [xr 10 0, xi r, xi a, xi b, xi (l + 1)] [] V) else _
  rw [s_X2_earliestRelate_3, cs3]
  by_cases hl : l < (V 14 0 22)
  · obtain ⟨x1, x2, x3, x4, x5, _⟩ := hsen l k0 hl
    clear hkin hpro husu hgiv hthg hhom hput hrin hsen hbar hset hmos hpai hrel hmap hdoo hshe htab hwor
    rw [x1, x2, x3]
    unfold erB
    simp only [decide_eq_true_eq]
    by_cases c1 : (V 85 0 (l.toNat)) = 6
    · have x5 := x5 (by omega)
      rw [x5]
      clear x1 x2 x3 x4 x5
      by_cases c2 : (V 86 0 (l.toNat)) = r <;> by_cases c3 : a = -9 <;> by_cases c4 : b = -9 <;> by_cases c5 : (V 87 0 (l.toNat)) = a <;> by_cases c6 : (V 88 0 (l.toNat)) = b
      all_goals (repeat (first | rw [ci_r] | rw [cl_r] | rw [cv_r] | rw [ite_b2] | rw [ite_b21] | rw [if_pos (by omega)] | rw [if_neg (by omega)] | rw [y_kindsHas] | rw [y_isKind _ _ _ (by omega)] | rw [y_valHas] | rw [y_isProp _ _ _ (by omega)] | rw [y_thgHas] | rw [y_isThing _ _ _ (by omega)] | rw [y_inRange] | rw [y_in] | rw [s_X11_faulted] | rw [s_X12_faulty] | rw [s_X11_against] | rw [s_X12_against] | simp (disch := omega) only [w32_i, Int.add_sub_cancel, mc64, mc24, mc6, mc8, mc5] | fail))
    · clear x1 x2 x3 x4 x5
      (repeat (first | rw [ci_r] | rw [cl_r] | rw [cv_r] | rw [ite_b2] | rw [ite_b21] | rw [if_pos (by omega)] | rw [if_neg (by omega)] | rw [y_kindsHas] | rw [y_isKind _ _ _ (by omega)] | rw [y_valHas] | rw [y_isProp _ _ _ (by omega)] | rw [y_thgHas] | rw [y_isThing _ _ _ (by omega)] | rw [y_inRange] | rw [y_in] | rw [s_X11_faulted] | rw [s_X12_faulty] | rw [s_X11_against] | rw [s_X12_against] | simp (disch := omega) only [w32_i, Int.add_sub_cancel, mc64, mc24, mc6, mc8, mc5] | fail))
  · rw [if_neg hl, if_neg hl]
theorem erB_3 {V : XM} {r a b : Int} (ha : 0 ≤ a) (hb : 0 ≤ b) : ff (erB V r a b) (V 14 0 22).toNat 0 = ff (senB3 V 6 r a b) (V 14 0 22).toNat 0 := by
  refine ff_congr (fun k _ _ => ?_)
  unfold erB senB3
  exact decide_eq_decide.mpr ⟨fun ⟨q1, q2, q3, q4⟩ => ⟨q1, q2, q3.resolve_left (by omega), q4.resolve_left (by omega)⟩, fun ⟨q1, q2, q3, q4⟩ => ⟨q1, q2, .inr q3, .inr q4⟩⟩
theorem xff_skip {V : XM} {g i : Nat} {lo hi : Int} {F : Nat → Int} (h0 : 0 ≤ lo) (h : lo < hi) (hF : F lo.toNat = V g i lo.toNat) : xff V g i (lo + 1) hi F = xff V g i lo hi F := by
  have := xff_s V g i lo hi F h0 h
  rw [hF, xu_self rfl] at this
  exact this
/-- rows are merged -/
def mgR (V : XM) (g off : Nat) (both : Int) (c : Nat) : Int := if bt both (c - off) = true then both else V g 0 c
theorem x_mg56 (d : Nat) (both : Int) : ∀ (m : Nat) (V : XM) (l : Int), (64 - l).toNat ≤ m → 0 ≤ l → l ≤ 64 → Xf (d + 1) 41 16 [xr 56 0, xi 0, xr 0 0, xr 0 0, xl both, xr 0 0, xi l] [] V = some (xi 0, xff V 56 0 l 64 (mgR V 56 0 both)) := by
  intro m
  induction m with
  | zero =>
    intro V l hm h0 h1
    rw [s_X2_merge_16, if_neg (by omega), show l = 64 by omega, xff_0]
  | succ m ih =>
    intro V l hm h0 h1
    by_cases hl : l < 64
    · have ew : w32 (0 + l) = l := by rw [w32_i (by omega) (by omega)]; omega
      have bt' := bt_test both h0 hl
      rw [s_X2_merge_16, if_pos hl, s_X11_bit, cl_r, ew, w32_i (by omega) (by omega)]
      simp only [cmp3_eq]
      cases hz : bt both l.toNat with
      | false =>
        rw [if_pos (bt'.mpr hz), ih V (l + 1) (by omega) (by omega) (by omega), xff_skip h0 hl]
        unfold mgR
        rw [Nat.sub_zero, hz]
        simp
      | true =>
        rw [if_neg (fun k => by have := bt'.mp k; rw [hz] at this; cases this), if_pos (by omega), ih _ (l + 1) (by omega) (by omega) (by omega)]
        have e1 : xff (xu V 56 0 l.toNat both) 56 0 (l + 1) 64 (mgR (xu V 56 0 l.toNat both) 56 0 both) = xff (xu V 56 0 l.toNat both) 56 0 (l + 1) 64 (mgR V 56 0 both) := by
          refine xff_congr (fun c c1 c2 => ?_)
          unfold mgR
          rw [xu_rw, zup_ne (by omega)]
        have e2 : mgR V 56 0 both l.toNat = both := by unfold mgR; rw [Nat.sub_zero, hz]; rfl
        have e3 := xff_s V 56 0 l 64 (mgR V 56 0 both) h0 hl
        rw [e2] at e3
        rw [e1, e3]
    · rw [s_X2_merge_16, if_neg (by omega), show l = 64 by omega, xff_0]
theorem mg_iff {La Lb Lx Ly : Int} : ((if La ≠ Lb ∧ Lx = Lb then La else Lx) = (if La ≠ Lb ∧ Ly = Lb then La else Ly)) ↔ (if La = Lx ∨ Lb = Lx then (La = Ly ∨ Lb = Ly) else Lx = Ly) := by
  (repeat' split) <;> omega
/-- rows that hold the classes of labels -/
def isG (F : Nat → Int) (L : Nat → Int) : Prop := ∀ x y : Nat, x < 64 → y < 64 → (bt (F x) y = true ↔ L x = L y)
theorem isG_mg {F : Nat → Int} {L : Nat → Int} (h : isG F L) {a b : Nat} (ha : a < 64) (hb : b < 64) : isG (fun c => if bt (lOr (F a) (F b)) c = true then lOr (F a) (F b) else F c) (fun t => if L a ≠ L b ∧ L t = L b then L a else L t) := by
  intro x y hx hy
  have hbo : ∀ z, z < 64 → (bt (lOr (F a) (F b)) z = true ↔ (L a = L z ∨ L b = L z)) := fun z hz => by
    rw [bt_or, Bool.or_eq_true, h a z ha hz, h b z hb hz]
  show bt (if bt (lOr (F a) (F b)) x = true then lOr (F a) (F b) else F x) y = true ↔ _
  rw [mg_iff]
  by_cases c : bt (lOr (F a) (F b)) x = true
  · rw [if_pos c, if_pos ((hbo x hx).mp c)]
    exact hbo y hy
  · rw [if_neg c, if_neg (fun k => c ((hbo x hx).mpr k))]
    exact h x y hx hy
theorem x_tg3 (d : Nat) (r a b : Int) : ∀ (m : Nat) (V : XM) (l : Int), (64 - l).toNat ≤ m → 0 ≤ l → l ≤ 64 → Xf (d + 1) 46 3 [xr 10 0, xi r, xi a, xi b, xi l] [] V = Xf (d + 1) 46 31 [xr 10 0, xi r, xi a, xi b, xi 0] [] (xff V 56 0 l 64 (fun c => lShl 1 (c : Int))) := by
  intro m
  induction m with
  | zero =>
    intro V l hm h0 h1
    rw [s_X2_togetherBy_3, if_neg (by omega), show l = 64 by omega, xff_0]
  | succ m ih =>
    intro V l hm h0 h1
    by_cases hl : l < 64
    · rw [s_X2_togetherBy_3, if_pos hl, s_X11_bit, cl_r, if_pos (by omega), w32_i (by omega) (by omega), ih _ (l + 1) (by omega) (by omega) (by omega)]
      have := xff_s V 56 0 l 64 (fun c => lShl 1 (c : Int)) h0 hl
      rw [show ((l.toNat : Nat) : Int) = l by omega] at this
      rw [this]
    · rw [s_X2_togetherBy_3, if_neg (by omega), show l = 64 by omega, xff_0]
theorem gF_s {V : XM} {r : Int} {k : Nat} (h6 : (V 85 0 k) = 6) (h1 : (V 86 0 k) = r) (h2 : 0 ≤ (V 87 0 k)) (h3 : 0 ≤ (V 88 0 k)) (t : Nat) : gF V r (k + 1) t = if gF V r k (V 87 0 k).toNat ≠ gF V r k (V 88 0 k).toNat ∧ gF V r k t = gF V r k (V 88 0 k).toNat then gF V r k (V 87 0 k).toNat else gF V r k t := by
  unfold gF
  rw [glN_s, show (((V 87 0 k).toNat : Nat) : Int) = (V 87 0 k) by omega, show (((V 88 0 k).toNat : Nat) : Int) = (V 88 0 k) by omega]
  by_cases c : glN (V 85 0) (V 86 0) (V 87 0) (V 88 0) r k (V 87 0 k) ≠ glN (V 85 0) (V 86 0) (V 87 0) (V 88 0) r k (V 88 0 k) ∧ glN (V 85 0) (V 86 0) (V 87 0) (V 88 0) r k (t : Int) = glN (V 85 0) (V 86 0) (V 87 0) (V 88 0) r k (V 88 0 k)
  · rw [if_pos ⟨h6, h1, c.1, c.2⟩, if_pos c]
  · rw [if_neg (fun k => c ⟨k.2.2.1, k.2.2.2⟩), if_neg c]
theorem gF_same {V : XM} {r : Int} {k : Nat} (h : ¬ ((V 85 0 k) = 6 ∧ (V 86 0 k) = r)) (t : Nat) : gF V r (k + 1) t = gF V r k t := by
  unfold gF
  rw [glN_s, if_neg (fun q => h ⟨q.1, q.2.1⟩)]
theorem ff_suc (f : Nat → Bool) (m k : Nat) : ff f (m + 1) k = if f k = true then (k : Int) else ff f m (k + 1) := rfl
theorem x_tg31 (d : Nat) (V : XM) (h : Inv V) {r a b : Int} (ia : 0 ≤ a ∧ a < (V 14 0 9)) (ib : 0 ≤ b ∧ b < (V 14 0 9)) : ∀ (m : Nat) (k : Nat) (F : Nat → Int), (V 14 0 22).toNat - k = m → (k : Int) ≤ (V 14 0 22) → isG F (gF V r k) → gF V r k a.toNat ≠ gF V r k b.toNat → ∃ F', Xf (d + 2) 46 31 [xr 10 0, xi r, xi a, xi b, xi (k : Int)] [] (xff V 56 0 0 64 F) = some (xi (ff (tgB V r a b) m k), xff V 56 0 0 64 F') := by
  have hS : ∀ k : Nat, (k : Int) < (V 14 0 22) → V 33 0 k = (V 85 0 k) ∧ V 34 0 k = (V 86 0 k) ∧ V 35 0 k = (V 87 0 k) ∧ ((V 85 0 k) = 6 → V 36 0 k = (V 88 0 k) ∧ 0 ≤ (V 87 0 k) ∧ (V 87 0 k) < 64 ∧ 0 ≤ (V 88 0 k) ∧ (V 88 0 k) < 64) := fun k hlt => by
    obtain ⟨⟨ck1, ck2, ck3, cp1, cp2, cp3, ct1, ct2, ct3, cs1, cs2, cs3, cq1, cq2, cq3, cr1, cr2, cr3, cf1, cf2, cf3, cb1, cb2, cb3, cw1, cw2, cw3, clf, clc⟩, hkin, hpro, husu, hgiv, hthg, hhom, hput, hrin, hsen, hbar, hset, hmos, hpai, hrel, hmap, hdoo, hshe, htab, hwor⟩ := h
    obtain ⟨x1, x2, x3, x4, x5, _⟩ := hsen k (by omega) hlt
    rw [Int.toNat_natCast] at x1 x2 x3 x4 x5
    refine ⟨x1, x2, x3, fun c => ?_⟩
    have hR := hrel.1 k (by omega) hlt (.inl (by rw [Int.toNat_natCast]; exact c))
    rw [Int.toNat_natCast] at hR
    clear hkin hpro husu hgiv hthg hhom hput hrin hsen hbar hset hmos hpai hmap hdoo hshe htab hwor hrel
    exact ⟨x5 (by omega), by omega, by omega, by omega, by omega⟩
  have cs3 : V 6 0 4 = (V 14 0 22) := by obtain ⟨⟨ck1, ck2, ck3, cp1, cp2, cp3, ct1, ct2, ct3, cs1, cs2, cs3, cq1, cq2, cq3, cr1, cr2, cr3, cf1, cf2, cf3, cb1, cb2, cb3, cw1, cw2, cw3, clf, clc⟩, hkin, hpro, husu, hgiv, hthg, hhom, hput, hrin, hsen, hbar, hset, hmos, hpai, hrel, hmap, hdoo, hshe, htab, hwor⟩ := h; exact cs3
  have cs2 : (V 14 0 22) ≤ 300 := by obtain ⟨⟨ck1, ck2, ck3, cp1, cp2, cp3, ct1, ct2, ct3, cs1, cs2, cs3, cq1, cq2, cq3, cr1, cr2, cr3, cf1, cf2, cf3, cb1, cb2, cb3, cw1, cw2, cw3, clf, clc⟩, hkin, hpro, husu, hgiv, hthg, hhom, hput, hrin, hsen, hbar, hset, hmos, hpai, hrel, hmap, hdoo, hshe, htab, hwor⟩ := h; exact cs2
  have ct2 : (V 14 0 9) ≤ 64 := by obtain ⟨⟨ck1, ck2, ck3, cp1, cp2, cp3, ct1, ct2, ct3, cs1, cs2, cs3, cq1, cq2, cq3, cr1, cr2, cr3, cf1, cf2, cf3, cb1, cb2, cb3, cw1, cw2, cw3, clf, clc⟩, hkin, hpro, husu, hgiv, hthg, hhom, hput, hrin, hsen, hbar, hset, hmos, hpai, hrel, hmap, hdoo, hshe, htab, hwor⟩ := h; exact ct2
  clear h
  intro m
  induction m with
  | zero =>
    intro k F hm hk _ _
    refine ⟨F, ?_⟩
    have e6 : (xff V 56 0 0 64 F) 6 0 4 = (V 14 0 22) := cs3
    rw [s_X2_togetherBy_31, e6, if_neg (by omega)]
    rfl
  | succ m ih =>
    intro k F hm hk
    have hlt : (k : Int) < (V 14 0 22) := by omega
    have hk3 : (k : Int) < 300 := by omega
    have hk0 : 0 ≤ (k : Int) ∧ (k : Int) < 300 := ⟨by omega, hk3⟩
    have e1 : (V 14 0 22).toNat - (k + 1) = m := by omega
    have e2 : ((k + 1 : Nat) : Int) ≤ (V 14 0 22) := by omega
    obtain ⟨x1, x2, x3, x4⟩ := hS k hlt
    have e6 : ∀ W : XM, W = xff V 56 0 0 64 F → W 6 0 4 = (V 14 0 22) := fun W hW => by subst hW; exact cs3
    have rr : ∀ (F : Nat → Int) (g : Nat), g ≠ 56 → ∀ j, (xff V 56 0 0 64 F) g 0 j = V g 0 j := fun F g hg j => by rw [xff_e, if_neg (fun q => hg q.1)]
    have ew : w32 ((k : Int) + 1) = ((k + 1 : Nat) : Int) := by rw [w32_i (by omega) (by omega)]; omega
    have a64 : 0 ≤ a ∧ a < 64 := by omega
    have b64 : 0 ≤ b ∧ b < 64 := by omega
    have a64n : a.toNat < 64 := by omega
    have b64n : b.toNat < 64 := by omega
    clear hS hm hk
    intro hF hne
    rw [s_X2_togetherBy_31, e6 _ rfl, if_pos hlt, if_pos hk0, Int.toNat_natCast, rr F 33 (by decide), rr F 34 (by decide), rr F 35 (by decide), rr F 36 (by decide), x1, x2, x3, ew, ff_suc]
    by_cases c : (V 85 0 k) = 6 ∧ (V 86 0 k) = r
    · obtain ⟨x5, y1, y2, y3, y4⟩ := x4 c.1
      have row : ∀ (F : Nat → Int) (z : Int), 0 ≤ z → z < 64 → (xff V 56 0 0 64 F) 56 0 z.toNat = F z.toNat := fun F z z0 z1 => by rw [xff_e, if_pos (by omega)]
      have w2 : w32 (0 + (V 87 0 k)) = (V 87 0 k) := by clear hne; rw [w32_i (by omega) (by omega)]; omega
      have w3 : w32 (0 + (V 88 0 k)) = (V 88 0 k) := by clear hne; rw [w32_i (by omega) (by omega)]; omega
      have hmg : Yf (d + 2) 41 [xr 56 0, xi 0, xi (V 87 0 k), xi (V 88 0 k)] (xff V 56 0 0 64 F) = some (xi 0, xff V 56 0 0 64 (fun c => if bt (lOr (F (V 87 0 k).toNat) (F (V 88 0 k).toNat)) c = true then lOr (F (V 87 0 k).toNat) (F (V 88 0 k).toNat) else F c)) := by
        rw [s_X2_merge, w2, w3, if_pos ⟨y1, y2⟩, if_pos ⟨y3, y4⟩, row F _ y1 y2, row F _ y3 y4, x_mg56 _ _ 64 _ 0 (by decide) (by decide) (by decide), xff_xff]
        refine congrArg (fun W => some (xi 0, W)) (xff_congr (fun c c1 c2 => ?_))
        unfold mgR
        have := row F (c : Int) c1 c2
        rw [Int.toNat_natCast] at this
        rw [Nat.sub_zero, this]
      have hF' := isG_mg hF (a := (V 87 0 k).toNat) (b := (V 88 0 k).toNat) (by clear hne ih; omega) (by clear hne ih; omega)
      have hG : (fun t => if gF V r k (V 87 0 k).toNat ≠ gF V r k (V 88 0 k).toNat ∧ gF V r k t = gF V r k (V 88 0 k).toNat then gF V r k (V 87 0 k).toNat else gF V r k t) = gF V r (k + 1) := by
        funext t; exact (gF_s c.1 c.2 y1 y3 t).symm
      rw [hG] at hF'
      rw [if_pos c.1, if_pos hk0, if_pos c.2, if_pos hk0, if_pos hk0, x5, hmg, cv_r, if_pos a64, s_X11_bit, cl_r]
      generalize (fun c => if bt (lOr (F (V 87 0 k).toNat) (F (V 88 0 k).toNat)) c = true then lOr (F (V 87 0 k).toNat) (F (V 88 0 k).toNat) else F c) = F1 at *
      have hab := hF' a.toNat b.toNat a64n b64n
      have bt' := bt_test (F1 a.toNat) b64.1 b64.2
      rw [row F1 a a64.1 a64.2]
      simp only [cmp3_eq]
      by_cases q : gF V r (k + 1) a.toNat = gF V r (k + 1) b.toNat
      · have qb := hab.mpr q
        rw [if_neg (fun z => by have := bt'.mp z; rw [qb] at this; cases this), if_pos (by unfold tgB; exact decide_eq_true q)]
        exact ⟨F1, rfl⟩
      · have qb : bt (F1 a.toNat) b.toNat = false := by
          cases hz : bt (F1 a.toNat) b.toNat with
          | false => rfl
          | true => exact absurd (hab.mp hz) q
        rw [if_pos (bt'.mpr qb), if_neg (by unfold tgB; rw [decide_eq_true_eq]; exact q)]
        exact ih (k + 1) F1 e1 e2 hF' q
    · have hsame : gF V r (k + 1) = gF V r k := by funext t; exact gF_same c t
      have hn : ¬ (tgB V r a b k = true) := by unfold tgB; rw [decide_eq_true_eq, hsame]; exact hne
      have ih := ih (k + 1) F e1 e2 (by rw [hsame]; exact hF) (by rw [hsame]; exact hne)
      rw [if_neg hn]
      by_cases c1 : (V 85 0 k) = 6
      · rw [if_pos c1, if_pos hk0, if_neg (fun z => c ⟨c1, z⟩)]
        exact ih
      · rw [if_neg c1]
        exact ih
theorem y_heldBy (d : Nat) (V : XM) (h : Inv V) {r a b : Int} (ir : 0 ≤ r ∧ r < (V 14 0 29)) (ia : 0 ≤ a ∧ a < (V 14 0 9)) (ib : 0 ≤ b ∧ b < (V 14 0 9)) (hab : a ≠ b) (hh : hbN V r a b ≠ -9) : ∃ W : XM, Yf (d + 4) 45 [xr 10 0, xi r, xi a, xi b] V = some (xi (hbN V r a b), W) ∧ (W = V ∨ ∃ F, W = xff V 56 0 0 64 F) := by
  have A1 := fun e => y_eRel e V h r a b
  have A2 := fun e => y_eRel e V h r b a
  have hT := fun F => x_tg31 d V h (r := r) (a := a) (b := b) ia ib (V 14 0 22).toNat 0 F
  rw [erB_3 ia.1 ib.1] at A1
  rw [erB_3 ib.1 ia.1] at A2
  obtain ⟨⟨ck1, ck2, ck3, cp1, cp2, cp3, ct1, ct2, ct3, cs1, cs2, cs3, cq1, cq2, cq3, cr1, cr2, cr3, cf1, cf2, cf3, cb1, cb2, cb3, cw1, cw2, cw3, clf, clc⟩, hkin, hpro, husu, hgiv, hthg, hhom, hput, hrin, hsen, hbar, hset, hmos, hpai, hrel, hmap, hdoo, hshe, htab, hwor⟩ := h
  obtain ⟨f1, f2, f3, f4⟩ := hrel.2.1 r ir.1 ir.2
  have e1 := s3_ff (V := V) (s := 6) (r := r) (a := a) (b := b)
  have e2 := s3_ff (V := V) (s := 6) (r := r) (a := b) (b := a)
  have hsym := hrel.2.2
  clear f4 ck1 ck2 ck3 cp1 cp2 cp3 cq1 cq2 cq3 cr3 cf1 cf2 cf3 cb1 cb2 cb3 cw1 cw2 cw3 clf clc
  rw [s_X2_heldBy, if_pos (by omega), f1]
  by_cases c1 : (V 90 0 (r.toNat)) = 5
  · have hN : hbN V r a b = ff (tgB V r a b) (V 14 0 22).toNat 0 := by
      unfold hbN at hh ⊢
      rw [if_pos c1] at hh ⊢
      by_cases c2 : gF V r (V 14 0 22).toNat a.toNat = gF V r (V 14 0 22).toNat b.toNat
      · rw [if_pos c2]
      · rw [if_neg c2] at hh; exact absurd rfl hh
    have g0 : isG (fun c => lShl 1 (c : Int)) (gF V r 0) := by
      intro x y hx hy
      show bt (lShl 1 (x : Int)) y = true ↔ ((x : Int) = (y : Int))
      rw [bt_bit (by omega) (by omega), decide_eq_true_eq]
      omega
    obtain ⟨F', hF'⟩ := hT (fun c => lShl 1 (c : Int)) (by omega) (by omega) g0 (by show ((a.toNat : Nat) : Int) ≠ ((b.toNat : Nat) : Int); clear e1 e2; omega)
    rw [if_pos c1, s_X2_togetherBy, x_tg3 _ r a b 64 V 0 (by omega) (by omega) (by omega)]
    refine ⟨xff V 56 0 0 64 F', ?_, .inr ⟨F', rfl⟩⟩
    rw [hN]
    have hF2 : Xf (d + 2) 46 31 [xr 10 0, xi r, xi a, xi b, xi 0] [] (xff V 56 0 0 64 (fun c => lShl 1 (c : Int))) = _ := hF'
    rw [hF2, ci_r]
  · refine ⟨V, ?_, .inl rfl⟩
    rw [if_neg c1, A1, ci_r]
    unfold hbN at hh ⊢
    rw [if_neg c1] at hh ⊢
    by_cases c2 : (V 90 0 (r.toNat)) = 4
    · rw [if_pos c2] at hh ⊢
      rcases e1 with ⟨q1, q2⟩ | ⟨q1, s, g1, g2, g3, g4, g5, g6⟩
      · rw [if_pos (by omega), A2, ci_r, if_pos q1]
      · have q3 : ff (senB3 V 6 r b a) (V 14 0 22).toNat 0 = -9 := by
          rcases e2 with ⟨q3, _⟩ | ⟨_, u, u1, u2, u3, u4, u5, u6⟩
          · exact q3
          · exact absurd ⟨by rw [g5, u6], by rw [g6, u5]⟩ (hsym s u g1 g2 u1 u2 g3 u3 (by rw [g4, u4]) (by rw [g4]; exact c2))
        rw [if_neg (by omega), if_neg (by omega), if_pos q3]
    · rw [if_neg c2] at hh ⊢
      rcases e1 with ⟨q1, q2⟩ | ⟨q1, _⟩
      · exact absurd q1 hh
      · rw [if_neg (by omega)]
