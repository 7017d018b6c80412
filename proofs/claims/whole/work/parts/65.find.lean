/-! loops that look for the first, the last, and up the homes -/
def ff (f : Nat → Bool) : Nat → Nat → Int
  | 0, _ => -9
  | m + 1, l => if f l = true then (l : Int) else ff f m (l + 1)
theorem loop_find {α : Type} {F : Int → α} {f : Nat → Bool} {A : Int → α} {Z : α} {N : Int} (step : ∀ l : Int, 0 ≤ l → l ≤ N → F l = if l < N then (if f l.toNat = true then A l else F (l + 1)) else Z) : ∀ (m : Nat) (l : Int), (N - l).toNat = m → 0 ≤ l → l ≤ N → F l = if ff f m l.toNat = -9 then Z else A (ff f m l.toNat) := by
  intro m
  induction m with
  | zero =>
    intro l hm h0 h1
    rw [step l h0 h1, if_neg (by omega)]
    rfl
  | succ m ih =>
    intro l hm h0 h1
    rw [step l h0 h1, if_pos (by omega)]
    by_cases hf : f l.toNat = true
    · have e : ff f (m + 1) l.toNat = l := by unfold ff; rw [if_pos hf]; omega
      rw [if_pos hf, e, if_neg (by omega)]
    · have e : ff f (m + 1) l.toNat = ff f m (l.toNat + 1) := by
        rw [show ff f (m + 1) l.toNat = if f l.toNat = true then (l.toNat : Int) else ff f m (l.toNat + 1) from rfl, if_neg hf]
      rw [if_neg hf, e, ih (l + 1) (by omega) (by omega) (by omega), show (l + 1).toNat = l.toNat + 1 by omega]
theorem loop_first {F : Int → XR} {f : Nat → Bool} {N : Int} {V : XM} (h : 0 ≤ N) (step : ∀ l : Int, 0 ≤ l → l ≤ N → F l = if l < N then (if f l.toNat = true then some (xi l, V) else F (l + 1)) else some (xi (-9), V)) : F 0 = some (xi (ff f N.toNat 0), V) := by
  rw [loop_find step N.toNat 0 (by omega) (by omega) h]
  show (if ff f N.toNat 0 = -9 then some (xi (-9), V) else some (xi (ff f N.toNat 0), V) : XR) = _
  split
  · rename_i e; rw [e]
  · rfl
theorem ff_spec (f : Nat → Bool) : ∀ (m l : Nat), (ff f m l = -9 ∧ ∀ k, l ≤ k → k < l + m → f k = false) ∨ (∃ s : Nat, ff f m l = s ∧ l ≤ s ∧ s < l + m ∧ f s = true ∧ ∀ k, l ≤ k → k < s → f k = false) := by
  intro m
  induction m with
  | zero => intro l; exact .inl ⟨rfl, fun k h1 h2 => by omega⟩
  | succ m ih =>
    intro l
    by_cases hf : f l = true
    · refine .inr ⟨l, by unfold ff; rw [if_pos hf], by omega, by omega, hf, fun k h1 h2 => by omega⟩
    · have e : ff f (m + 1) l = ff f m (l + 1) := by
        rw [show ff f (m + 1) l = if f l = true then (l : Int) else ff f m (l + 1) from rfl, if_neg hf]
      rw [e]
      have hl : f l = false := by cases h : f l <;> simp_all
      rcases ih (l + 1) with ⟨x1, x2⟩ | ⟨s, x1, x2, x3, x4, x5⟩
      · refine .inl ⟨x1, fun k h1 h2 => ?_⟩
        by_cases hk : k = l
        · rw [hk]; exact hl
        · exact x2 k (by omega) (by omega)
      · refine .inr ⟨s, x1, by omega, by omega, x4, fun k h1 h2 => ?_⟩
        by_cases hk : k = l
        · rw [hk]; exact hl
        · exact x5 k (by omega) (by omega)
theorem ff_congr {f g : Nat → Bool} : ∀ {m l : Nat}, (∀ k, l ≤ k → k < l + m → f k = g k) → ff f m l = ff g m l := by
  intro m
  induction m with
  | zero => intro l _; rfl
  | succ m ih =>
    intro l h
    unfold ff
    rw [h l (by omega) (by omega), ih (fun k h1 h2 => h k (by omega) (by omega))]
/-- the first of n, as an Int -/
theorem ff_some {f : Nat → Bool} {n s : Nat} (h : s < n) (hs : f s = true) (hu : ∀ k, k < n → f k = true → k = s) : ff f n 0 = s := by
  rcases ff_spec f n 0 with ⟨x1, x2⟩ | ⟨s', x1, x2, x3, x4, x5⟩
  · have := x2 s (by omega) (by omega); rw [hs] at this; cases this
  · rw [x1, hu s' (by omega) x4]
theorem loop_acc {α β : Type} {F : β → Int → α} {S : Nat → β} {N : Int} {Z : α} (step : ∀ l : Int, 0 ≤ l → l < N → F (S l.toNat) l = F (S (l.toNat + 1)) (l + 1)) (last : F (S N.toNat) N = Z) : ∀ (m : Nat) (l : Int), (N - l).toNat = m → 0 ≤ l → l ≤ N → F (S l.toNat) l = Z := by
  intro m
  induction m with
  | zero =>
    intro l hm h0 h1
    rw [show l = N by omega]; exact last
  | succ m ih =>
    intro l hm h0 h1
    rw [step l h0 (by omega), show l.toNat + 1 = (l + 1).toNat by omega]
    exact ih (l + 1) (by omega) (by omega) (by omega)
def la (f : Nat → Bool) : Nat → Int
  | 0 => -9
  | n + 1 => if f n = true then (n : Int) else la f n
theorem la_s (f : Nat → Bool) (n : Nat) : la f (n + 1) = if f n = true then (n : Int) else la f n := rfl
theorem la_is {f : Nat → Bool} {s : Nat} (hs : f s = true) : ∀ {n : Nat}, s < n → (∀ k, s < k → k < n → f k = false) → la f n = s := by
  intro n
  induction n with
  | zero => intro h; omega
  | succ n ih =>
    intro h hk
    rw [la_s]
    by_cases e : s = n
    · rw [← e, if_pos hs]
    · rw [if_neg (by rw [hk n (by omega) (by omega)]; simp)]
      exact ih (by omega) (fun k h1 h2 => hk k h1 (by omega))
def senB (V : XM) (s a b : Int) (k : Nat) : Bool := decide ((V 85 0 k) = s ∧ (V 86 0 k) = a ∧ (V 87 0 k) = b)
def senB3 (V : XM) (s a b c : Int) (k : Nat) : Bool := decide ((V 85 0 k) = s ∧ (V 86 0 k) = a ∧ (V 87 0 k) = b ∧ (V 88 0 k) = c)
theorem y_rFirst (d : Nat) (V : XM) (s a b : Int) (cs1 : 0 ≤ (V 14 0 22)) (cs2 : (V 14 0 22) ≤ 300) : Yf (d + 1) 212 [xr 14 0, xi s, xi a, xi b] V = some (xi (ff (senB V s a b) (V 14 0 22).toNat 0), V) := by
  rw [s_X12_first]
  refine loop_first (F := fun l => Xf d 212 3 [xr 14 0, xi s, xi a, xi b, xi l] [] V) cs1 (fun l h0 h1 => ?_)
  show Xf d 212 3 [xr 14 0, xi s, xi a, xi b, xi l] [] V = if _ then (if _ then _ else Xf d 212 3 [xr 14 0, xi s, xi a, xi b, xi (l + 1)] [] V) else _
  rw [s_X12_first_3]
  unfold senB
  simp only [decide_eq_true_eq]
  (repeat' (first | rfl | rw [ci_r] | rw [cl_r] | rw [cv_r] | rw [ite_b2] | rw [ite_b21] | rw [if_pos (by omega)] | rw [if_neg (by omega)] | rw [y_kindsHas] | rw [y_isKind _ _ _ (by omega)] | rw [y_valHas] | rw [y_isProp _ _ _ (by omega)] | rw [y_thgHas] | rw [y_isThing _ _ _ (by omega)] | rw [y_inRange] | rw [y_in] | rw [s_X11_faulted] | rw [s_X12_faulty] | rw [s_X11_against] | rw [s_X12_against] | simp (disch := omega) only [w32_i, Int.add_sub_cancel, mc64, mc24, mc6, mc8, mc5] | fail | split))
theorem y_rTold (d : Nat) (V : XM) (s a b c : Int) (cs1 : 0 ≤ (V 14 0 22)) (cs2 : (V 14 0 22) ≤ 300) : Yf (d + 1) 253 [xr 14 0, xi s, xi a, xi b, xi c] V = some (xi (ff (senB3 V s a b c) (V 14 0 22).toNat 0), V) := by
  rw [s_X12_told]
  refine loop_first (F := fun l => Xf d 253 3 [xr 14 0, xi s, xi a, xi b, xi c, xi l] [] V) cs1 (fun l h0 h1 => ?_)
  show Xf d 253 3 [xr 14 0, xi s, xi a, xi b, xi c, xi l] [] V = if _ then (if _ then _ else Xf d 253 3 [xr 14 0, xi s, xi a, xi b, xi c, xi (l + 1)] [] V) else _
  rw [s_X12_told_3]
  unfold senB3
  simp only [decide_eq_true_eq]
  (repeat' (first | rfl | rw [ci_r] | rw [cl_r] | rw [cv_r] | rw [ite_b2] | rw [ite_b21] | rw [if_pos (by omega)] | rw [if_neg (by omega)] | rw [y_kindsHas] | rw [y_isKind _ _ _ (by omega)] | rw [y_valHas] | rw [y_isProp _ _ _ (by omega)] | rw [y_thgHas] | rw [y_isThing _ _ _ (by omega)] | rw [y_inRange] | rw [y_in] | rw [s_X11_faulted] | rw [s_X12_faulty] | rw [s_X11_against] | rw [s_X12_against] | simp (disch := omega) only [w32_i, Int.add_sub_cancel, mc64, mc24, mc6, mc8, mc5] | fail | split))
theorem y_cEarliest (d : Nat) (V : XM) (h : Inv V) (s a b c : Int) : Yf (d + 1) 65 [xr 6 0, xi s, xi a, xi b, xi c] V = some (xi (ff (fun k => decide ((V 33 0 k) = s ∧ (V 34 0 k) = a ∧ (V 35 0 k) = b ∧ (V 36 0 k) = c)) (V 14 0 22).toNat 0), V) := by
  obtain ⟨⟨ck1, ck2, ck3, cp1, cp2, cp3, ct1, ct2, ct3, cs1, cs2, cs3, cq1, cq2, cq3, cr1, cr2, cr3, cf1, cf2, cf3, cb1, cb2, cb3, cw1, cw2, cw3, clf, clc⟩, hkin, hpro, husu, hgiv, hthg, hhom, hput, hrin, hsen, hbar, hset, hmos, hpai, hrel, hmap, hdoo, hshe, htab, hwor⟩ := h
  rw [s_X4_earliest]
  refine loop_first (F := fun l => Xf d 65 3 [xr 6 0, xi s, xi a, xi b, xi c, xi l] [] V) cs1 (fun l h0 h1 => ?_)
  show Xf d 65 3 [xr 6 0, xi s, xi a, xi b, xi c, xi l] [] V = if _ then (if _ then _ else Xf d 65 3 [xr 6 0, xi s, xi a, xi b, xi c, xi (l + 1)] [] V) else _
  rw [s_X4_earliest_3]
  simp only [decide_eq_true_eq]
  (repeat' (first | rfl | rw [ci_r] | rw [cl_r] | rw [cv_r] | rw [ite_b2] | rw [ite_b21] | rw [if_pos (by omega)] | rw [if_neg (by omega)] | rw [y_kindsHas] | rw [y_isKind _ _ _ (by omega)] | rw [y_valHas] | rw [y_isProp _ _ _ (by omega)] | rw [y_thgHas] | rw [y_isThing _ _ _ (by omega)] | rw [y_inRange] | rw [y_in] | rw [s_X11_faulted] | rw [s_X12_faulty] | rw [s_X11_against] | rw [s_X12_against] | simp (disch := omega) only [w32_i, Int.add_sub_cancel, mc64, mc24, mc6, mc8, mc5] | fail | split))
theorem y_cFirst (d : Nat) (V : XM) (h : Inv V) (s a b : Int) (hs : s ≤ 5) : Yf (d + 1) 65 [xr 6 0, xi s, xi a, xi b, xi (-9)] V = some (xi (ff (senB V s a b) (V 14 0 22).toNat 0), V) := by
  rw [y_cEarliest d V h]
  obtain ⟨⟨ck1, ck2, ck3, cp1, cp2, cp3, ct1, ct2, ct3, cs1, cs2, cs3, cq1, cq2, cq3, cr1, cr2, cr3, cf1, cf2, cf3, cb1, cb2, cb3, cw1, cw2, cw3, clf, clc⟩, hkin, hpro, husu, hgiv, hthg, hhom, hput, hrin, hsen, hbar, hset, hmos, hpai, hrel, hmap, hdoo, hshe, htab, hwor⟩ := h
  rw [ff_congr (g := senB V s a b)]
  intro k _ hk
  obtain ⟨x1, x2, x3, x4, x5, x6, x7⟩ := hsen (k : Int) (by omega) (by omega)
  rw [Int.toNat_natCast] at x1 x2 x3 x4 x5
  unfold senB
  rw [x1, x2, x3]
  refine decide_eq_decide.mpr ⟨fun ⟨y1, y2, y3, _⟩ => ⟨y1, y2, y3⟩, fun ⟨y1, y2, y3⟩ => ⟨y1, y2, y3, x4 (by omega)⟩⟩
theorem y_cTold3 (d : Nat) (V : XM) (h : Inv V) (s a b c : Int) (hs : 6 ≤ s) : Yf (d + 1) 65 [xr 6 0, xi s, xi a, xi b, xi c] V = some (xi (ff (senB3 V s a b c) (V 14 0 22).toNat 0), V) := by
  rw [y_cEarliest d V h]
  obtain ⟨⟨ck1, ck2, ck3, cp1, cp2, cp3, ct1, ct2, ct3, cs1, cs2, cs3, cq1, cq2, cq3, cr1, cr2, cr3, cf1, cf2, cf3, cb1, cb2, cb3, cw1, cw2, cw3, clf, clc⟩, hkin, hpro, husu, hgiv, hthg, hhom, hput, hrin, hsen, hbar, hset, hmos, hpai, hrel, hmap, hdoo, hshe, htab, hwor⟩ := h
  rw [ff_congr (g := senB3 V s a b c)]
  intro k _ hk
  obtain ⟨x1, x2, x3, x4, x5, x6, x7⟩ := hsen (k : Int) (by omega) (by omega)
  rw [Int.toNat_natCast] at x1 x2 x3 x4 x5
  unfold senB3
  rw [x1, x2, x3]
  refine decide_eq_decide.mpr ⟨fun ⟨y1, y2, y3, y4⟩ => ⟨y1, y2, y3, by rw [← x5 (by omega)]; exact y4⟩, fun ⟨y1, y2, y3, y4⟩ => ⟨y1, y2, y3, by rw [x5 (by omega)]; exact y4⟩⟩
theorem y_rAmong (d : Nat) (V : XM) (t : Int) (cs1 : 0 ≤ (V 14 0 22)) (cs2 : (V 14 0 22) ≤ 300) : Yf (d + 1) 213 [xr 14 0, xi t] V = some (xi (la (fun k => decide ((V 85 0 k) = 3 ∧ (V 86 0 k) = t)) (V 14 0 22).toNat), V) := by
  rw [s_X12_latestAmong]
  refine loop_acc (F := fun c l => Xf d 213 5 [xr 14 0, xi t, xi c, xi l] [] V) (S := la (fun k => decide ((V 85 0 k) = 3 ∧ (V 86 0 k) = t))) (N := (V 14 0 22)) (fun l h0 h1 => ?_) ?_ (V 14 0 22).toNat 0 (by omega) (by omega) cs1
  · show Xf d 213 5 [xr 14 0, xi t, xi _, xi l] [] V = Xf d 213 5 [xr 14 0, xi t, xi _, xi (l + 1)] [] V
    rw [s_X12_latestAmong_5, la_s]
    simp only [decide_eq_true_eq]
    rw [show (l.toNat : Int) = l by omega]
    (repeat' (first | rfl | rw [ci_r] | rw [cl_r] | rw [cv_r] | rw [ite_b2] | rw [ite_b21] | rw [if_pos (by omega)] | rw [if_neg (by omega)] | rw [y_kindsHas] | rw [y_isKind _ _ _ (by omega)] | rw [y_valHas] | rw [y_isProp _ _ _ (by omega)] | rw [y_thgHas] | rw [y_isThing _ _ _ (by omega)] | rw [y_inRange] | rw [y_in] | rw [s_X11_faulted] | rw [s_X12_faulty] | rw [s_X11_against] | rw [s_X12_against] | simp (disch := omega) only [w32_i, Int.add_sub_cancel, mc64, mc24, mc6, mc8, mc5] | fail | split))
  · show Xf d 213 5 [xr 14 0, xi t, xi _, xi (V 14 0 22)] [] V = _
    rw [s_X12_latestAmong_5, if_neg (by omega)]
/-- the latest AMONG, as the class keeps it -/
theorem among_la {V : XM} (h : Inv V) {t : Int} (h0 : 0 ≤ t) (h1 : t < (V 14 0 9)) (hs : (V 81 0 (t.toNat)) ≠ 0) : la (fun k => decide ((V 85 0 k) = 3 ∧ (V 86 0 k) = t)) (V 14 0 22).toNat = (V 42 0 (t.toNat)) := by
  obtain ⟨⟨ck1, ck2, ck3, cp1, cp2, cp3, ct1, ct2, ct3, cs1, cs2, cs3, cq1, cq2, cq3, cr1, cr2, cr3, cf1, cf2, cf3, cb1, cb2, cb3, cw1, cw2, cw3, clf, clc⟩, hkin, hpro, husu, hgiv, hthg, hhom, hput, hrin, hsen, hbar, hset, hmos, hpai, hrel, hmap, hdoo, hshe, htab, hwor⟩ := h
  obtain ⟨x1, x2, x3, x4, x5⟩ := hset t h0 h1
  rcases x3 with ⟨y1, _⟩ | ⟨y1, y2, y3, y4, y5, y6⟩
  · exact absurd y1 hs
  · rw [la_is (s := (V 42 0 (t.toNat)).toNat) (by simp [y4, y5]) (by omega)]
    · omega
    · intro k k1 k2
      have := x4 k (by omega) (by omega) (by omega)
      rw [Int.toNat_natCast] at this
      simp only [decide_eq_false_iff_not]
      exact fun ⟨z1, z2⟩ => this z1 z2
/-- which home it is -/
def nthB (V : XM) (t w : Int) (k : Nat) : Bool := decide ((V 78 0 ((6 * t + k).toNat)) = w)
theorem y_nth (d : Nat) (V : XM) {t : Int} (w : Int) (h0 : 0 ≤ t) (h1 : t < 64) (hh : 0 ≤ (V 80 0 (t.toNat)) ∧ (V 80 0 (t.toNat)) ≤ 6) : Yf (d + 1) 216 [xr 14 0, xi t, xi w] V = some (xi (ff (nthB V t w) (V 80 0 (t.toNat)).toNat 0), V) := by
  rw [s_X12_nth]
  refine loop_first (F := fun l => Xf d 216 2 [xr 14 0, xi t, xi w, xi l] [] V) hh.1 (fun l h2 h3 => ?_)
  show Xf d 216 2 [xr 14 0, xi t, xi w, xi l] [] V = if _ then (if _ then _ else Xf d 216 2 [xr 14 0, xi t, xi w, xi (l + 1)] [] V) else _
  rw [s_X12_nth_2]
  unfold nthB
  simp only [decide_eq_true_eq]
  rw [show (l.toNat : Int) = l by omega]
  (repeat' (first | rfl | rw [ci_r] | rw [cl_r] | rw [cv_r] | rw [ite_b2] | rw [ite_b21] | rw [if_pos (by omega)] | rw [if_neg (by omega)] | rw [y_kindsHas] | rw [y_isKind _ _ _ (by omega)] | rw [y_valHas] | rw [y_isProp _ _ _ (by omega)] | rw [y_thgHas] | rw [y_isThing _ _ _ (by omega)] | rw [y_inRange] | rw [y_in] | rw [s_X11_faulted] | rw [s_X12_faulty] | rw [s_X11_against] | rw [s_X12_against] | simp (disch := omega) only [w32_i, Int.add_sub_cancel, mc64, mc24, mc6, mc8, mc5] | fail | split))
theorem y_liesIn (d : Nat) (V : XM) (h : Inv V) {t : Int} (w : Int) (h0 : 0 ≤ t) (h1 : t < (V 14 0 9)) : Yf (d + 1) 10 [xr 7 0, xi t, xi w] V = some (xi (b2 (ff (nthB V t w) (V 80 0 (t.toNat)).toNat 0 ≠ -9)), V) := by
  obtain ⟨⟨ck1, ck2, ck3, cp1, cp2, cp3, ct1, ct2, ct3, cs1, cs2, cs3, cq1, cq2, cq3, cr1, cr2, cr3, cf1, cf2, cf3, cb1, cb2, cb3, cw1, cw2, cw3, clf, clc⟩, hkin, hpro, husu, hgiv, hthg, hhom, hput, hrin, hsen, hbar, hset, hmos, hpai, hrel, hmap, hdoo, hshe, htab, hwor⟩ := h
  obtain ⟨o1, o2, o3, o4, o5, o6⟩ := hhom t h0 h1
  rw [s_X1_liesIn]
  have := loop_find (F := fun l => Xf d 10 2 [xr 7 0, xi t, xi w, xi l] [] V) (f := nthB V t w) (A := fun _ => some (xi 1, V)) (Z := some (xi 0, V)) (N := (V 80 0 (t.toNat))) (fun l h2 h3 => by
    show Xf d 10 2 [xr 7 0, xi t, xi w, xi l] [] V = if _ then (if _ then _ else Xf d 10 2 [xr 7 0, xi t, xi w, xi (l + 1)] [] V) else _
    rw [s_X1_liesIn_2]
    unfold nthB
    simp only [decide_eq_true_eq]
    rw [show (l.toNat : Int) = l by omega, o1]
    by_cases hl : l < (V 80 0 (t.toNat))
    · have := (o6 l h2 hl).1
      (repeat' (first | rfl | rw [ci_r] | rw [cl_r] | rw [cv_r] | rw [ite_b2] | rw [ite_b21] | rw [if_pos (by omega)] | rw [if_neg (by omega)] | rw [y_kindsHas] | rw [y_isKind _ _ _ (by omega)] | rw [y_valHas] | rw [y_isProp _ _ _ (by omega)] | rw [y_thgHas] | rw [y_isThing _ _ _ (by omega)] | rw [y_inRange] | rw [y_in] | rw [s_X11_faulted] | rw [s_X12_faulty] | rw [s_X11_against] | rw [s_X12_against] | simp (disch := omega) only [w32_i, Int.add_sub_cancel, mc64, mc24, mc6, mc8, mc5] | rw [this] | split))
    · (repeat' (first | rfl | rw [ci_r] | rw [cl_r] | rw [cv_r] | rw [ite_b2] | rw [ite_b21] | rw [if_pos (by omega)] | rw [if_neg (by omega)] | rw [y_kindsHas] | rw [y_isKind _ _ _ (by omega)] | rw [y_valHas] | rw [y_isProp _ _ _ (by omega)] | rw [y_thgHas] | rw [y_isThing _ _ _ (by omega)] | rw [y_inRange] | rw [y_in] | rw [s_X11_faulted] | rw [s_X12_faulty] | rw [s_X11_against] | rw [s_X12_against] | simp (disch := omega) only [w32_i, Int.add_sub_cancel, mc64, mc24, mc6, mc8, mc5] | fail | split))) (V 80 0 (t.toNat)).toNat 0 (by omega) (by omega) o2
  refine this.trans ?_
  show (if ff (nthB V t w) (V 80 0 (t.toNat)).toNat 0 = -9 then some (xi 0, V) else some (xi 1, V) : XR) = _
  unfold b2
  (repeat' split) <;> first | rfl | omega
