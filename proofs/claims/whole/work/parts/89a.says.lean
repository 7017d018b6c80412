/-! says -/
def ldB (V : XM) (B : Nat → Int) (h : Int) (t : Nat) : Bool := decide (B t ≠ 3 ∧ 0 < (V 80 0 t) ∧ wiN (V 78 0) (V 80 0) h 64 (V 78 0 (6 * t)) = true)
def alF (V : XM) (B : Nat → Int) (t : Nat) : Int := (V 74 0 t) + (if B t = 5 then 10 else 0)
def ldN (V : XM) (B : Nat → Int) (h : Int) : Nat → Int
  | 0 => 0
  | n + 1 => ldN V B h n + (if ldB V B h n = true then alF V B n else 0)
/-- what loads need of the reference's rows -/
def LD (V : XM) (B : Nat → Int) : Prop := RB V B ∧ HO V (V 14 0 9) ∧ (∀ t : Int, 0 ≤ t → t < (V 14 0 9) → 0 ≤ (V 74 0 (t.toNat)) ∧ (V 74 0 (t.toNat)) ≤ 1000) ∧ (∀ t : Int, 0 ≤ t → t < (V 14 0 9) → B t.toNat ≠ 3 → 0 < (V 80 0 (t.toNat)) → endsN (V 78 0) (V 80 0) 64 (V 78 0 ((6 * t).toNat)))
theorem Inv.ld {V : XM} (h : Inv V) : LD V (V 21 0) := by
  refine ⟨h.rb, h.ho, fun t k1 k2 => ?_, fun t k1 k2 k3 k4 => ?_⟩
  · obtain ⟨⟨ck1, ck2, ck3, cp1, cp2, cp3, ct1, ct2, ct3, cs1, cs2, cs3, cq1, cq2, cq3, cr1, cr2, cr3, cf1, cf2, cf3, cb1, cb2, cb3, cw1, cw2, cw3, clf, clc⟩, hkin, hpro, husu, hgiv, hthg, hhom, hput, hrin, hsen, hbar, hset, hmos, hpai, hrel, hmap, hdoo, hshe, htab, hwor⟩ := h
    have := hthg t k1 k2
    exact ⟨this.2.2.2.2.2.2.2.1, this.2.2.2.2.2.2.2.2.1⟩
  · have hh := h
    obtain ⟨⟨ck1, ck2, ck3, cp1, cp2, cp3, ct1, ct2, ct3, cs1, cs2, cs3, cq1, cq2, cq3, cr1, cr2, cr3, cf1, cf2, cf3, cb1, cb2, cb3, cw1, cw2, cw3, clf, clc⟩, hkin, hpro, husu, hgiv, hthg, hhom, hput, hrin, hsen, hbar, hset, hmos, hpai, hrel, hmap, hdoo, hshe, htab, hwor⟩ := hh
    obtain ⟨_, q2, q3, q4, _⟩ := (hhom t k1 k2).2.2.2.2.2 0 (by omega) k4
    rw [show 6 * t + 0 = 6 * t by omega] at q2 q3 q4
    exact ends64 h q2 q3 (by rcases q4 with e | e | e <;> omega)
theorem ldN_b {V : XM} {B : Nat → Int} (h : LD V B) (x : Int) : ∀ n : Nat, (n : Int) ≤ (V 14 0 9) → 0 ≤ ldN V B x n ∧ ldN V B x n ≤ 1010 * n := by
  intro n
  induction n with
  | zero => intro _; exact ⟨Int.le_refl _, Int.le_refl _⟩
  | succ n ih =>
    intro hn
    have := ih (by omega)
    have s := h.2.2.1 n (by omega) (by omega)
    rw [Int.toNat_natCast] at s
    unfold ldN alF
    (repeat' split) <;> omega
theorem y_rLoad (d : Nat) (V : XM) {B : Nat → Int} (h : LD V B) (x : Int) : Yf (d + 4) 229 [xr 14 0, xi x] V = some (xi (ldN V B x (V 14 0 9).toNat), V) := by
  have hbd := ldN_b h x
  obtain ⟨hb, ho, hs, he⟩ := h
  obtain ⟨hp, ct1, ct2, h6⟩ := id hb
  rw [s_X12_loadOf]
  refine loop_acc (F := fun c l => Xf (d + 3) 229 4 [xr 14 0, xi x, xi c, xi l] [] V) (S := ldN V B x) (N := (V 14 0 9)) (fun l h0 h1 => ?_) ?_ (V 14 0 9).toNat 0 (by omega) (by omega) ct1
  · show Xf (d + 3) 229 4 [xr 14 0, xi x, xi _, xi l] [] V = Xf (d + 3) 229 4 [xr 14 0, xi x, xi (ldN V B x l.toNat + if ldB V B x l.toNat = true then alF V B l.toNat else 0), xi (l + 1)] [] V
    have hl := hbd l.toNat (by omega)
    have hz := hs l h0 h1
    have ht := ho.2 l h0 h1
    have hE := he l h0 h1
    generalize ldN V B x l.toNat = c at *
    rw [s_X12_loadOf_4, if_pos h1, y_rBackdrop _ V hb h0 h1, ci_r, ite_b2, w32_i (x := l + 1) (by omega) (by omega)]
    unfold ldB alF
    simp only [decide_eq_true_eq]
    rw [show 6 * l.toNat = (6 * l).toNat by omega]
    by_cases c1 : B l.toNat = 3
    · rw [if_pos c1, if_neg (fun k => k.1 c1), Int.add_zero]
    · rw [if_neg c1, if_pos (by omega)]
      by_cases c2 : 0 < (V 80 0 (l.toNat))
      · have hq := ht.2 c2
        rw [if_pos c2, y_placeOf _ V h0 (by omega), ci_r, if_neg (by omega), y_rWithin _ V ho x hq.1 hq.2 (hE c1 c2), ci_r, ite_b2]
        by_cases c3 : wiN (V 78 0) (V 80 0) x 64 (V 78 0 ((6 * l).toNat)) = true
        · rw [if_pos c3, if_pos (by omega), y_base _ V hb h0 h1, ci_r, if_pos (c := B l.toNat ≠ 3 ∧ 0 < (V 80 0 (l.toNat)) ∧ wiN (V 78 0) (V 80 0) x 64 (V 78 0 ((6 * l).toNat)) = true) ⟨c1, c2, c3⟩]
          by_cases c5 : B l.toNat = 5
          · rw [if_pos c5, if_pos c5, w32_i (x := (V 74 0 (l.toNat)) + 10) (by omega) (by omega), w32_i (by omega) (by omega)]
          · rw [if_neg c5, if_neg c5, w32_i (x := (V 74 0 (l.toNat)) + 0) (by omega) (by omega), w32_i (by omega) (by omega)]
        · rw [if_neg c3, if_neg (fun k => c3 k.2.2), Int.add_zero]
      · rw [if_neg c2, if_neg (fun k => c2 k.2.1), Int.add_zero]
  · show Xf (d + 3) 229 4 [xr 14 0, xi x, xi _, xi (V 14 0 9)] [] V = _
    rw [s_X12_loadOf_4, if_neg (by omega)]
theorem y_alone (d : Nat) (V : XM) {t : Int} (h0 : 0 ≤ t) (h1 : t < 64) (hs : 0 ≤ (V 22 0 (t.toNat)) ∧ (V 22 0 (t.toNat)) ≤ 1000) : Yf (d + 1) 33 [xr 7 0, xi t] V = some (xi ((V 22 0 (t.toNat)) + (if (V 21 0 (t.toNat)) = 5 then 10 else 0)), V) := by
  rw [s_X1_bulkAlone, if_pos ⟨h0, h1⟩, if_pos ⟨h0, h1⟩]
  by_cases c : (V 21 0 (t.toNat)) = 5
  · rw [if_pos c, if_pos c, w32_i (by omega) (by omega)]
  · rw [if_neg c, if_neg c, w32_i (by omega) (by omega)]
theorem y_cLoad (d : Nat) (V : XM) (h : Inv V) (x : Int) : Yf (d + 4) 34 [xr 7 0, xi x] V = some (xi (ldN V (V 21 0) x (V 14 0 9).toNat), V) := by
  have hld := h.ld
  have hbd := ldN_b hld x
  obtain ⟨hb, ho, hs, he⟩ := hld
  have hhc := h.hc
  obtain ⟨⟨ck1, ck2, ck3, cp1, cp2, cp3, ct1, ct2, ct3, cs1, cs2, cs3, cq1, cq2, cq3, cr1, cr2, cr3, cf1, cf2, cf3, cb1, cb2, cb3, cw1, cw2, cw3, clf, clc⟩, hkin, hpro, husu, hgiv, hthg, hhom, hput, hrin, hsen, hbar, hset, hmos, hpai, hrel, hmap, hdoo, hshe, htab, hwor⟩ := h
  clear ck1 ck2 ck3 cp1 cp2 cp3 cq1 cq2 cq3 cr1 cr2 cr3 cf1 cf2 cf3 cb1 cb2 cb3 cw1 cw2 cw3 clf clc cs1 cs2 cs3
  rw [s_X1_load]
  refine loop_acc (F := fun c l => Xf (d + 3) 34 4 [xr 7 0, xi x, xi c, xi l] [] V) (S := ldN V (V 21 0) x) (N := (V 14 0 9)) (fun l h0 h1 => ?_) ?_ (V 14 0 9).toNat 0 (by omega) (by omega) ct1
  · show Xf (d + 3) 34 4 [xr 7 0, xi x, xi _, xi l] [] V = Xf (d + 3) 34 4 [xr 7 0, xi x, xi (ldN V (V 21 0) x l.toNat + if ldB V (V 21 0) x l.toNat = true then alF V (V 21 0) l.toNat else 0), xi (l + 1)] [] V
    have hl := hbd l.toNat (by omega)
    have hz := hs l h0 h1
    have ht := ho.2 l h0 h1
    have hE := he l h0 h1
    have hsz := (hthg l h0 h1).2.2.2.2.2.2.1
    have el := y_laid (d + 2) V h0 (show l < 64 by omega)
    rw [(hhc l h0 h1).1] at el
    generalize ldN V (V 21 0) x l.toNat = c at *
    rw [s_X1_load_4, if_pos (by omega), if_pos (by omega), w32_i (x := l + 1) (by omega) (by omega)]
    unfold ldB alF
    simp only [decide_eq_true_eq]
    rw [show 6 * l.toNat = (6 * l).toNat by omega]
    by_cases c1 : (V 21 0 (l.toNat)) = 3
    · rw [if_pos c1, if_neg (fun k => k.1 c1), Int.add_zero]
    · rw [if_neg c1, el, ci_r, ite_b2]
      by_cases c2 : 0 < (V 80 0 (l.toNat))
      · have hq := ht.2 c2
        rw [if_pos c2, y_home0 _ V ho hhc h0 h1, ci_r, if_neg (by omega), y_cWithin _ V ho hhc x hq.1 hq.2 (hE c1 c2), ci_r, ite_b2]
        by_cases c3 : wiN (V 78 0) (V 80 0) x 64 (V 78 0 ((6 * l).toNat)) = true
        · rw [if_pos c3, y_alone _ V h0 (by omega) (by omega), ci_r, if_pos (c := (V 21 0 (l.toNat)) ≠ 3 ∧ 0 < (V 80 0 (l.toNat)) ∧ wiN (V 78 0) (V 80 0) x 64 (V 78 0 ((6 * l).toNat)) = true) ⟨c1, c2, c3⟩, hsz]
          by_cases c5 : (V 21 0 (l.toNat)) = 5
          · rw [if_pos c5, w32_i (by omega) (by omega)]
          · rw [if_neg c5, w32_i (by omega) (by omega)]
        · rw [if_neg c3, if_neg (fun k => c3 k.2.2), Int.add_zero]
      · rw [if_neg c2, if_neg (fun k => c2 k.2.1), Int.add_zero]
  · show Xf (d + 3) 34 4 [xr 7 0, xi x, xi _, xi (V 14 0 9)] [] V = _
    rw [s_X1_load_4, if_neg (by omega)]
def lodF (V : XM) (B : Nat → Int) (a : Int) : Int := ldN V B a (V 14 0 9).toNat
def syF (V : XM) (B : Nat → Int) (a b : Int) : Int :=
  if b = 0 then (if B a.toNat = 1 then lodF V B a else if B a.toNat = 2 then 2 * (V 74 0 (a.toNat)) else if B a.toNat = 3 then 0 else if B a.toNat = 4 then (V 74 0 (a.toNat)) + lodF V B a else if B a.toNat = 5 then (V 74 0 (a.toNat)) + lodF V B a + 10 else (V 74 0 (a.toNat)))
  else if b = 1 then (if B a.toNat = 1 then 3 * (V 74 0 (a.toNat)) + 1 + 1000 else if B a.toNat = 2 then 3 * (V 74 0 (a.toNat)) + 1 + 100 else if B a.toNat = 3 then -(3 * (V 74 0 (a.toNat)) + 1) else if B a.toNat = 5 then 2 * (3 * (V 74 0 (a.toNat)) + 1) else 3 * (V 74 0 (a.toNat)) + 1)
  else if b = 2 then lodF V B a
  else if b = 3 then (if B a.toNat = 2 then 10 * (V 76 0 (a.toNat)) + (if (V 77 0 (a.toNat)) = 0 then 0 else 1) else (V 76 0 (a.toNat)) + (if (V 77 0 (a.toNat)) = 0 then 0 else 1000))
  else w32 (Int.tdiv 1000 (lodF V B a))
def syE (V : XM) (B : Nat → Int) (a b : Int) : Int := if b = 2 ∧ ¬ isH (B a.toNat) then 3 else if b = 3 ∧ ¬ (B a.toNat = 2 ∨ B a.toNat = 4 ∨ B a.toNat = 5) then 3 else if b = 4 ∧ B a.toNat ≠ 5 then 3 else if b = 4 ∧ lodF V B a = 0 then 6 else 0
theorem y_saying (d : Nat) (V : XM) (h : Inv V) {a b : Int} (ia : 0 ≤ a ∧ a < (V 14 0 9)) (ib : 0 ≤ b ∧ b ≤ 4) : Yf (d + 7) 137 [xr 2 0, xi a, xi b] V = if syE V (V 21 0) a b = 0 then some (xi (syF V (V 21 0) a b), V) else some (xi (-10 - syE V (V 21 0) a b), xu V 2 0 15 (syE V (V 21 0) a b)) := by
  have hL : ∀ e, Yf (e + 4) 34 [xr 7 0, xi a] V = some (xi (lodF V (V 21 0) a), V) := fun e => y_cLoad e V h a
  have hlb := ldN_b h.ld a (V 14 0 9).toNat
  obtain ⟨⟨ck1, ck2, ck3, cp1, cp2, cp3, ct1, ct2, ct3, cs1, cs2, cs3, cq1, cq2, cq3, cr1, cr2, cr3, cf1, cf2, cf3, cb1, cb2, cb3, cw1, cw2, cw3, clf, clc⟩, hkin, hpro, husu, hgiv, hthg, hhom, hput, hrin, hsen, hbar, hset, hmos, hpai, hrel, hmap, hdoo, hshe, htab, hwor⟩ := h
  obtain ⟨t1, t2, t3, t4, t5, t6, t7, t8, t9, t10, t11, t12, t13, t14, t15⟩ := hthg a ia.1 ia.2
  have hlb : 0 ≤ lodF V (V 21 0) a ∧ lodF V (V 21 0) a ≤ 65000 := by have := hlb (by omega); unfold lodF; omega
  clear ck1 ck2 ck3 cp1 cp2 cp3 cq1 cq2 cq3 cr1 cr2 cr3 cf1 cf2 cf3 cb1 cb2 cb3 cw1 cw2 cw3 clf clc cs1 cs2 cs3
  have A1 := fun e => y_alone e V ia.1 (show a < 64 by omega) (by omega)
  have A2 := fun e => y_cHolder e V ia.1 (show a < 64 by omega)
  have A3 := fun e => y_cLid e V ia.1 (show a < 64 by omega)
  rw [t7] at A1
  have hb : b = 0 ∨ b = 1 ∨ b = 2 ∨ b = 3 ∨ b = 4 := by omega
  have hB : (V 21 0 (a.toNat)) = 0 ∨ (V 21 0 (a.toNat)) = 1 ∨ (V 21 0 (a.toNat)) = 2 ∨ (V 21 0 (a.toNat)) = 3 ∨ (V 21 0 (a.toNat)) = 4 ∨ (V 21 0 (a.toNat)) = 5 := by omega
  unfold syE syF
  generalize lodF V (V 21 0) a = L at *
  clear t1 t2 t3 t4 t5 t6 t10 ct3 hkin hpro husu hgiv hthg hhom hput hrin hsen hbar hset hmos hpai hrel hmap hdoo hshe htab hwor
  rcases hb with e | e | e | e | e <;> subst e <;> rw [s_X11_saying]
  · rcases hB with q | q | q | q | q | q
    all_goals
      (repeat (first | rw [ci_r] | rw [cl_r] | rw [cv_r] | rw [ite_b2] | rw [ite_b21] | rw [if_pos (by omega)] | rw [if_neg (by omega)] | rw [y_kindsHas] | rw [y_isKind _ _ _ (by omega)] | rw [y_valHas] | rw [y_isProp _ _ _ (by omega)] | rw [y_thgHas] | rw [y_isThing _ _ _ (by omega)] | rw [y_inRange] | rw [y_in] | rw [s_X11_faulted] | rw [s_X12_faulty] | rw [s_X11_against] | rw [s_X12_against] | simp (disch := omega) only [w32_i, Int.add_sub_cancel, mc64, mc24, mc6, mc8, mc5] | rw [s_X1_bulk] | rw [hL] | rw [A1] | rw [t7]))
      try (first | rfl | (congr 3; omega))
  · rcases hB with q | q | q | q | q | q
    all_goals
      (repeat (first | rw [ci_r] | rw [cl_r] | rw [cv_r] | rw [ite_b2] | rw [ite_b21] | rw [if_pos (by omega)] | rw [if_neg (by omega)] | rw [y_kindsHas] | rw [y_isKind _ _ _ (by omega)] | rw [y_valHas] | rw [y_isProp _ _ _ (by omega)] | rw [y_thgHas] | rw [y_isThing _ _ _ (by omega)] | rw [y_inRange] | rw [y_in] | rw [s_X11_faulted] | rw [s_X12_faulty] | rw [s_X11_against] | rw [s_X12_against] | simp (disch := omega) only [w32_i, Int.add_sub_cancel, mc64, mc24, mc6, mc8, mc5] | rw [s_X8_worth, t7]))
      try (first | rfl | (congr 3; omega))
  · rcases hB with q | q | q | q | q | q
    all_goals
      (repeat (first | rw [ci_r] | rw [cl_r] | rw [cv_r] | rw [ite_b2] | rw [ite_b21] | rw [if_pos (by omega)] | rw [if_neg (by omega)] | rw [y_kindsHas] | rw [y_isKind _ _ _ (by omega)] | rw [y_valHas] | rw [y_isProp _ _ _ (by omega)] | rw [y_thgHas] | rw [y_isThing _ _ _ (by omega)] | rw [y_inRange] | rw [y_in] | rw [s_X11_faulted] | rw [s_X12_faulty] | rw [s_X11_against] | rw [s_X12_against] | simp (disch := omega) only [w32_i, Int.add_sub_cancel, mc64, mc24, mc6, mc8, mc5] | rw [A2] | rw [hL]))
      try (first | rfl | (congr 3; omega))
  · rcases hB with q | q | q | q | q | q <;> rcases t15 with o | o
    all_goals
      (repeat (first | rw [ci_r] | rw [cl_r] | rw [cv_r] | rw [ite_b2] | rw [ite_b21] | rw [if_pos (by omega)] | rw [if_neg (by omega)] | rw [y_kindsHas] | rw [y_isKind _ _ _ (by omega)] | rw [y_valHas] | rw [y_isProp _ _ _ (by omega)] | rw [y_thgHas] | rw [y_isThing _ _ _ (by omega)] | rw [y_inRange] | rw [y_in] | rw [s_X11_faulted] | rw [s_X12_faulty] | rw [s_X11_against] | rw [s_X12_against] | simp (disch := omega) only [w32_i, Int.add_sub_cancel, mc64, mc24, mc6, mc8, mc5] | rw [A3] | rw [s_X8_lid, t11, t14]))
      try (first | rfl | (congr 3; omega))
  · by_cases z : L = 0 <;> rcases hB with q | q | q | q | q | q
    all_goals
      (repeat (first | rw [ci_r] | rw [cl_r] | rw [cv_r] | rw [ite_b2] | rw [ite_b21] | rw [if_pos (by omega)] | rw [if_neg (by omega)] | rw [y_kindsHas] | rw [y_isKind _ _ _ (by omega)] | rw [y_valHas] | rw [y_isProp _ _ _ (by omega)] | rw [y_thgHas] | rw [y_isThing _ _ _ (by omega)] | rw [y_inRange] | rw [y_in] | rw [s_X11_faulted] | rw [s_X12_faulty] | rw [s_X11_against] | rw [s_X12_against] | simp (disch := omega) only [w32_i, Int.add_sub_cancel, mc64, mc24, mc6, mc8, mc5] | rw [s_X11_stride] | rw [hL]))
      try (first | rfl | (congr 3; omega))
theorem y_said (d : Nat) (V : XM) {B : Nat → Int} (h : LD V B) {a b : Int} (ia : 0 ≤ a ∧ a < (V 14 0 9)) (ib : 0 ≤ b ∧ b ≤ 4) (t12 : 0 ≤ (V 76 0 (a.toNat))) (t13 : (V 76 0 (a.toNat)) ≤ 1000) (t15 : (V 77 0 (a.toNat)) = 0 ∨ (V 77 0 (a.toNat)) = 1) : Yf (d + 7) 233 [xr 14 0, xi a, xi b] V = if syE V B a b = 0 then some (xi (syF V B a b), V) else some (xi (-10 - syE V B a b), xu V 14 0 0 (syE V B a b)) := by
  have hL : ∀ e, Yf (e + 4) 229 [xr 14 0, xi a] V = some (xi (lodF V B a), V) := fun e => y_rLoad e V h a
  have hlb := ldN_b h a (V 14 0 9).toNat
  obtain ⟨hb, ho, hs, he⟩ := h
  obtain ⟨hp, ct1, ct2, h6⟩ := id hb
  have hB5 := h6 a ia.1 ia.2
  have hs := hs a ia.1 ia.2
  have hlb : 0 ≤ lodF V B a ∧ lodF V B a ≤ 65000 := by have := hlb (by omega); unfold lodF; omega
  have A1 := fun e => y_base e V hb ia.1 ia.2
  have A2 := fun e => y_rHolder e V hb ia.1 ia.2
  have A3 := fun e => y_rCarrier e V hb ia.1 ia.2
  have hb : b = 0 ∨ b = 1 ∨ b = 2 ∨ b = 3 ∨ b = 4 := by omega
  have hB : B a.toNat = 0 ∨ B a.toNat = 1 ∨ B a.toNat = 2 ∨ B a.toNat = 3 ∨ B a.toNat = 4 ∨ B a.toNat = 5 := by omega
  unfold syE syF
  generalize lodF V B a = L at *
  clear he h6 hp ho
  rcases hb with e | e | e | e | e <;> subst e <;> rw [s_X12_said]
  · rcases hB with q | q | q | q | q | q
    all_goals
      (repeat (first | rw [ci_r] | rw [cl_r] | rw [cv_r] | rw [ite_b2] | rw [ite_b21] | rw [if_pos (by omega)] | rw [if_neg (by omega)] | rw [y_kindsHas] | rw [y_isKind _ _ _ (by omega)] | rw [y_valHas] | rw [y_isProp _ _ _ (by omega)] | rw [y_thgHas] | rw [y_isThing _ _ _ (by omega)] | rw [y_inRange] | rw [y_in] | rw [s_X11_faulted] | rw [s_X12_faulty] | rw [s_X11_against] | rw [s_X12_against] | simp (disch := omega) only [w32_i, Int.add_sub_cancel, mc64, mc24, mc6, mc8, mc5] | rw [s_X12_bulkOf] | rw [hL] | rw [A1]))
      try (first | rfl | (congr 3; omega))
  · rcases hB with q | q | q | q | q | q
    all_goals
      (repeat (first | rw [ci_r] | rw [cl_r] | rw [cv_r] | rw [ite_b2] | rw [ite_b21] | rw [if_pos (by omega)] | rw [if_neg (by omega)] | rw [y_kindsHas] | rw [y_isKind _ _ _ (by omega)] | rw [y_valHas] | rw [y_isProp _ _ _ (by omega)] | rw [y_thgHas] | rw [y_isThing _ _ _ (by omega)] | rw [y_inRange] | rw [y_in] | rw [s_X11_faulted] | rw [s_X12_faulty] | rw [s_X11_against] | rw [s_X12_against] | simp (disch := omega) only [w32_i, Int.add_sub_cancel, mc64, mc24, mc6, mc8, mc5] | rw [s_X12_worthOf] | rw [A1]))
      try (first | rfl | (congr 3; omega))
  · rcases hB with q | q | q | q | q | q
    all_goals
      (repeat (first | rw [ci_r] | rw [cl_r] | rw [cv_r] | rw [ite_b2] | rw [ite_b21] | rw [if_pos (by omega)] | rw [if_neg (by omega)] | rw [y_kindsHas] | rw [y_isKind _ _ _ (by omega)] | rw [y_valHas] | rw [y_isProp _ _ _ (by omega)] | rw [y_thgHas] | rw [y_isThing _ _ _ (by omega)] | rw [y_inRange] | rw [y_in] | rw [s_X11_faulted] | rw [s_X12_faulty] | rw [s_X11_against] | rw [s_X12_against] | simp (disch := omega) only [w32_i, Int.add_sub_cancel, mc64, mc24, mc6, mc8, mc5] | rw [A2] | rw [hL]))
      try (first | rfl | (congr 3; omega))
  · rcases hB with q | q | q | q | q | q <;> rcases t15 with o | o
    all_goals
      (repeat (first | rw [ci_r] | rw [cl_r] | rw [cv_r] | rw [ite_b2] | rw [ite_b21] | rw [if_pos (by omega)] | rw [if_neg (by omega)] | rw [y_kindsHas] | rw [y_isKind _ _ _ (by omega)] | rw [y_valHas] | rw [y_isProp _ _ _ (by omega)] | rw [y_thgHas] | rw [y_isThing _ _ _ (by omega)] | rw [y_inRange] | rw [y_in] | rw [s_X11_faulted] | rw [s_X12_faulty] | rw [s_X11_against] | rw [s_X12_against] | simp (disch := omega) only [w32_i, Int.add_sub_cancel, mc64, mc24, mc6, mc8, mc5] | rw [A1] | rw [A3] | rw [s_X12_lidOf]))
      try (first | rfl | (congr 3; omega))
  · by_cases z : L = 0 <;> rcases hB with q | q | q | q | q | q
    all_goals
      (repeat (first | rw [ci_r] | rw [cl_r] | rw [cv_r] | rw [ite_b2] | rw [ite_b21] | rw [if_pos (by omega)] | rw [if_neg (by omega)] | rw [y_kindsHas] | rw [y_isKind _ _ _ (by omega)] | rw [y_valHas] | rw [y_isProp _ _ _ (by omega)] | rw [y_thgHas] | rw [y_isThing _ _ _ (by omega)] | rw [y_inRange] | rw [y_in] | rw [s_X11_faulted] | rw [s_X12_faulty] | rw [s_X11_against] | rw [s_X12_against] | simp (disch := omega) only [w32_i, Int.add_sub_cancel, mc64, mc24, mc6, mc8, mc5] | rw [A1] | rw [hL] | rw [if_pos trivial]))
      try (first | rfl | (congr 3; omega))
theorem ldN_congr {V W : XM} {B : Nat → Int} (e74 : W 74 = V 74) (e78 : W 78 = V 78) (e80 : W 80 = V 80) (x : Int) : ∀ n, ldN W B x n = ldN V B x n := by
  intro n
  induction n with
  | zero => rfl
  | succ n ih => unfold ldN; rw [ih]; unfold ldB alF; rw [e74, e78, e80]
theorem sy_congr {V W : XM} {B : Nat → Int} (e74 : W 74 = V 74) (e76 : W 76 = V 76) (e77 : W 77 = V 77) (e78 : W 78 = V 78) (e80 : W 80 = V 80) (et : (W 14 0 9) = (V 14 0 9)) (a b : Int) : syE W B a b = syE V B a b ∧ syF W B a b = syF V B a b := by
  have hl : lodF W B a = lodF V B a := by unfold lodF; rw [et, ldN_congr e74 e78 e80]
  constructor
  · unfold syE; rw [hl]
  · unfold syF; rw [hl, e74, e76, e77]
theorem g_says (d : Nat) (V : XM) (h : Inv V) (a b : Int) : AG d 136 234 [xi a, xi b] V := by
  have h' := h
  obtain ⟨⟨ck1, ck2, ck3, cp1, cp2, cp3, ct1, ct2, ct3, cs1, cs2, cs3, cq1, cq2, cq3, cr1, cr2, cr3, cf1, cf2, cf3, cb1, cb2, cb3, cw1, cw2, cw3, clf, clc⟩, hkin, hpro, husu, hgiv, hthg, hhom, hput, hrin, hsen, hbar, hset, hmos, hpai, hrel, hmap, hdoo, hshe, htab, hwor⟩ := h'
  by_cases ia : 0 ≤ a ∧ a < (V 14 0 9)
  · by_cases ib : 0 ≤ b ∧ b ≤ 4
    · obtain ⟨t1, t2, t3, t4, t5, t6, t7, t8, t9, t10, t11, t12, t13, t14, t15⟩ := hthg a ia.1 ia.2
      have hC : Yf (d + 30) 136 [xr 2 0, xi a, xi b] V = if syE V (V 21 0) a b = 0 then some (xi (syF V (V 21 0) a b), V) else some (xi (-10 - syE V (V 21 0) a b), xu V 2 0 15 (syE V (V 21 0) a b)) := by
        rw [s_X11_says, y_thgHas, ci_r, ite_b2, if_pos (by omega), if_neg (by omega), if_neg (by omega), y_saying _ V h ia ib]
        split <;> rfl
      have hR : ∀ W : XM, LD W (V 21 0) → (W 14 0 9) = (V 14 0 9) → 0 ≤ (W 76 0 (a.toNat)) → (W 76 0 (a.toNat)) ≤ 1000 → ((W 77 0 (a.toNat)) = 0 ∨ (W 77 0 (a.toNat)) = 1) → Yf (d + 30) 234 [xr 14 0, xi a, xi b] W = if syE W (V 21 0) a b = 0 then some (xi (syF W (V 21 0) a b), W) else some (xi (-10 - syE W (V 21 0) a b), xu W 14 0 0 (syE W (V 21 0) a b)) := by
        intro W hl wt w1 w2 w3
        rw [s_X12_says, y_isThing _ W _ (by omega), ci_r, ite_b2, if_pos (by omega), y_in, ci_r, ite_b2, if_pos ib, y_said _ W hl (by omega) ib w1 w2 w3]
        split <;> rfl
      by_cases i1 : syE V (V 21 0) a b = 0
      · exact AG.no h (hC.trans (if_pos i1)) ((hR V h.ld rfl t12 t13 t15).trans (if_pos i1))
      · have hc := sy_congr (V := V) (W := xu V 2 0 15 (syE V (V 21 0) a b)) (B := (V 21 0)) rfl rfl rfl rfl rfl rfl a b
        have hr := hR (xu V 2 0 15 (syE V (V 21 0) a b)) h.ld rfl t12 t13 t15
        rw [hc.1, if_neg i1] at hr
        exact AG.flt h (hC.trans (if_neg i1)) hr
    · have hC : Yf (d + 30) 136 [xr 2 0, xi a, xi b] V = some (xi (-2), V) := by
        rw [s_X11_says, y_thgHas, ci_r, ite_b2, if_pos (by omega)]
        by_cases i : b < 0
        · rw [if_pos i]
        · rw [if_neg i, if_pos (by omega)]
      exact AG.no h hC (by rw [s_X12_says, y_isThing _ V _ ⟨ct1, ct2⟩, ci_r, ite_b2, if_pos ia, y_in, ci_r, ite_b2, if_neg ib])
  · exact AG.no (x := xi (-1)) h (by rw [s_X11_says, y_thgHas, ci_r, ite_b2, if_neg (by omega)]) (by rw [s_X12_says, y_isThing _ V _ ⟨ct1, ct2⟩, ci_r, ite_b2, if_neg ia])
