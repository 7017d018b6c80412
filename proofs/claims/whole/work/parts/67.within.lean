/-! up the homes -/
theorem cnt_le {f g : Nat → Bool} : ∀ {n : Nat}, (∀ k, k < n → f k = true → g k = true) → cnt f n ≤ cnt g n := by
  intro n
  induction n with
  | zero => intro _; exact Int.le_refl _
  | succ n ih =>
    intro h
    have h1 := ih (fun k hk => h k (by omega))
    have h2 := h n (by omega)
    unfold cnt
    by_cases hf : f n = true
    · rw [if_pos hf, if_pos (h2 hf)]; omega
    · rw [if_neg hf]; split <;> omega
theorem cnt_lt {f g : Nat → Bool} {j : Nat} : ∀ {n : Nat}, (∀ k, k < n → f k = true → g k = true) → j < n → f j = false → g j = true → cnt f n < cnt g n := by
  intro n
  induction n with
  | zero => intro _ h; omega
  | succ n ih =>
    intro h hj hf hg
    unfold cnt
    by_cases hjn : j = n
    · subst hjn
      have h1 := cnt_le (f := f) (g := g) (n := j) (fun k hk => h k (by omega))
      rw [if_neg (by rw [hf]; simp), if_pos hg]; omega
    · have h1 := ih (fun k hk => h k (by omega)) (by omega) hf hg
      have h2 := h n (by omega)
      by_cases hfn : f n = true
      · rw [if_pos hfn, if_pos (h2 hfn)]; omega
      · rw [if_neg hfn]; split <;> omega
theorem cnt_lt_n {f : Nat → Bool} {j n : Nat} (hj : j < n) (hf : f j = false) : cnt f n < n := by
  have h1 := cnt_lt (f := f) (g := fun _ => true) (j := j) (n := n) (fun _ _ _ => rfl) hj hf rfl
  have h2 := (cnt_b (fun _ => true) n).2
  omega
/-- the walk up from h ends within n steps -/
def endsN (H : Nat → Int) (C : Nat → Int) : Nat → Int → Prop
  | 0, _ => False
  | n + 1, h => C h.toNat = 0 ∨ endsN H C n (H (6 * h).toNat)
theorem endsN_mono {H C : Nat → Int} : ∀ {n m : Nat} {h : Int}, n ≤ m → endsN H C n h → endsN H C m h := by
  intro n
  induction n with
  | zero => intro m h _ hh; exact hh.elim
  | succ n ih =>
    intro m h hm hh
    cases m with
    | zero => omega
    | succ m =>
      rcases hh with hh | hh
      · exact .inl hh
      · exact .inr (ih (by omega) hh)
def wiN (H : Nat → Int) (C : Nat → Int) (t : Int) : Nat → Int → Bool
  | 0, _ => false
  | n + 1, h => if h = t then true else if C h.toNat = 0 then false else wiN H C t n (H (6 * h).toNat)
theorem ends_rank {V : XM} (hhom : I_hom V) {r : Int → Nat} (hr : ∀ t : Int, 0 ≤ t → t < (V 14 0 9) → (V 21 0 (t.toNat)) ≠ 3 → 0 < (V 80 0 (t.toNat)) → r t < r (V 78 0 ((6 * t).toNat))) : ∀ (m : Nat) (h : Int), 0 ≤ h → h < (V 14 0 9) → (V 21 0 (h.toNat)) ≠ 3 → cnt (fun k => decide (r h < r k)) (V 14 0 9).toNat < m → endsN (V 78 0) (V 80 0) m h := by
  intro m
  induction m with
  | zero =>
    intro h h0 h1 h2 h3
    have := (cnt_b (fun k => decide (r h < r k)) (V 14 0 9).toNat).1
    omega
  | succ m ih =>
    intro h h0 h1 h2 h3
    by_cases hc : (V 80 0 (h.toNat)) = 0
    · exact .inl hc
    · obtain ⟨o1, o2, o3, o4, o5, o6⟩ := hhom h h0 h1
      obtain ⟨p1, p2, p3, p4, _⟩ := o6 0 (by omega) (by omega)
      rw [show 6 * h + 0 = 6 * h by omega] at p1 p2 p3 p4
      have hlt := hr h h0 h1 h2 (by omega)
      refine .inr (ih _ p2 p3 (by rcases p4 with e | e | e <;> omega) ?_)
      have := cnt_lt (f := fun k => decide (r (V 78 0 ((6 * h).toNat)) < r k)) (g := fun k => decide (r h < r k)) (j := (V 78 0 ((6 * h).toNat)).toNat) (n := (V 14 0 9).toNat) (fun k hk hf => by
        simp only [decide_eq_true_eq] at hf ⊢
        omega) (by omega) (by
        rw [show (((V 78 0 ((6 * h).toNat)).toNat : Nat) : Int) = (V 78 0 ((6 * h).toNat)) by omega]
        simp) (by
        rw [show (((V 78 0 ((6 * h).toNat)).toNat : Nat) : Int) = (V 78 0 ((6 * h).toNat)) by omega]
        simp only [decide_eq_true_eq]
        exact hlt)
      omega
theorem ends64 {V : XM} (h : Inv V) {t : Int} (h0 : 0 ≤ t) (h1 : t < (V 14 0 9)) (h2 : (V 21 0 (t.toNat)) ≠ 3) : endsN (V 78 0) (V 80 0) 64 t := by
  obtain ⟨⟨ck1, ck2, ck3, cp1, cp2, cp3, ct1, ct2, ct3, cs1, cs2, cs3, cq1, cq2, cq3, cr1, cr2, cr3, cf1, cf2, cf3, cb1, cb2, cb3, cw1, cw2, cw3, clf, clc⟩, hkin, hpro, husu, hgiv, hthg, hhom, hput, hrin, hsen, hbar, hset, hmos, hpai, hrel, hmap, hdoo, hshe, htab, hwor⟩ := h
  obtain ⟨r, hr⟩ := hrin
  refine ends_rank hhom hr 64 t h0 h1 h2 ?_
  have := cnt_lt_n (f := fun k => decide (r t < r k)) (j := t.toNat) (n := (V 14 0 9).toNat) (by omega) (by
    rw [show ((t.toNat : Nat) : Int) = t by omega]
    simp)
  omega
/-- rows of homes are in order, for the things below n -/
def HO (V : XM) (N : Int) : Prop := N ≤ 64 ∧ ∀ x : Int, 0 ≤ x → x < N → 0 ≤ (V 80 0 (x.toNat)) ∧ (0 < (V 80 0 (x.toNat)) → 0 ≤ (V 78 0 ((6 * x).toNat)) ∧ (V 78 0 ((6 * x).toNat)) < N)
theorem Inv.ho {V : XM} (h : Inv V) : HO V (V 14 0 9) := by
  obtain ⟨⟨ck1, ck2, ck3, cp1, cp2, cp3, ct1, ct2, ct3, cs1, cs2, cs3, cq1, cq2, cq3, cr1, cr2, cr3, cf1, cf2, cf3, cb1, cb2, cb3, cw1, cw2, cw3, clf, clc⟩, hkin, hpro, husu, hgiv, hthg, hhom, hput, hrin, hsen, hbar, hset, hmos, hpai, hrel, hmap, hdoo, hshe, htab, hwor⟩ := h
  refine ⟨ct2, fun x k1 k2 => ?_⟩
  obtain ⟨o1, o2, o3, o4, o5, o6⟩ := hhom x k1 k2
  refine ⟨o2, fun k => ?_⟩
  obtain ⟨p1, p2, p3, p4, _⟩ := o6 0 (by omega) k
  rw [show 6 * x + 0 = 6 * x by omega] at p1 p2 p3
  exact ⟨p2, p3⟩
theorem x_rWi (d : Nat) (V : XM) {N : Int} (hh : HO V N) (t : Int) : ∀ (n : Nat) (h : Int), 0 ≤ h → h < N → endsN (V 78 0) (V 80 0) n h → Xf d 214 2 [xr 14 0, xr 0 0, xi t, xi h] [] V = some (xi (b2 (wiN (V 78 0) (V 80 0) t n h = true)), V) := by
  intro n
  induction n with
  | zero => intro h _ _ he; exact he.elim
  | succ n ih =>
    intro h h0 h1 he
    have h64 := hh.1
    obtain ⟨a1, a2⟩ := hh.2 h h0 h1
    rw [s_X12_isWithin_2]
    unfold wiN
    by_cases ht : h = t
    · rw [if_pos ht, if_pos ht, if_pos ht]; rfl
    · rw [if_neg ht, if_neg ht, if_pos (by omega)]
      by_cases hc : (V 80 0 (h.toNat)) = 0
      · rw [if_neg (by omega), if_neg ht, if_pos hc]; rfl
      · obtain ⟨b1, b2'⟩ := a2 (by omega)
        rw [if_pos (by omega), w32_i (by omega) (by omega), if_pos (by omega), if_neg hc]
        rw [if_neg ht]
        exact ih _ b1 b2' (he.resolve_left hc)
theorem y_rWithin (d : Nat) (V : XM) {N : Int} (hh : HO V N) {h : Int} (t : Int) (h0 : 0 ≤ h) (h1 : h < N) (he : endsN (V 78 0) (V 80 0) 64 h) : Yf (d + 1) 214 [xr 14 0, xi h, xi t] V = some (xi (b2 (wiN (V 78 0) (V 80 0) t 64 h = true)), V) := by
  rw [s_X12_isWithin]
  exact x_rWi d V hh t 64 h h0 h1 he
/-- the class's homes are the reference's -/
def HC (V : XM) (N : Int) : Prop := ∀ x : Int, 0 ≤ x → x < N → (V 38 0 (x.toNat)) = (V 80 0 (x.toNat)) ∧ (V 80 0 (x.toNat)) ≤ 6 ∧ (0 < (V 80 0 (x.toNat)) → (V 37 0 ((6 * x).toNat)) = (V 78 0 ((6 * x).toNat)))
theorem Inv.hc {V : XM} (h : Inv V) : HC V (V 14 0 9) := by
  obtain ⟨⟨ck1, ck2, ck3, cp1, cp2, cp3, ct1, ct2, ct3, cs1, cs2, cs3, cq1, cq2, cq3, cr1, cr2, cr3, cf1, cf2, cf3, cb1, cb2, cb3, cw1, cw2, cw3, clf, clc⟩, hkin, hpro, husu, hgiv, hthg, hhom, hput, hrin, hsen, hbar, hset, hmos, hpai, hrel, hmap, hdoo, hshe, htab, hwor⟩ := h
  intro x k1 k2
  obtain ⟨o1, o2, o3, o4, o5, o6⟩ := hhom x k1 k2
  refine ⟨o1, o3, fun k => ?_⟩
  obtain ⟨p1, p2, p3, p4, _⟩ := o6 0 (by omega) k
  rw [show 6 * x + 0 = 6 * x by omega] at p1
  exact p1
theorem y_home0 (d : Nat) (V : XM) {N : Int} (hh : HO V N) (hc : HC V N) {t : Int} (h0 : 0 ≤ t) (h1 : t < N) : Yf (d + 2) 8 [xr 7 0, xi t, xi 0] V = some (xi (if (V 80 0 (t.toNat)) = 0 then -9 else (V 78 0 ((6 * t).toNat))), V) := by
  obtain ⟨a1, a2, a3⟩ := hc t h0 h1
  obtain ⟨b1, b2'⟩ := hh.2 t h0 h1
  have h64 := hh.1
  rw [y_homeAt _ V _ h0 (by omega) (by omega), a1]
  by_cases hz : (V 80 0 (t.toNat)) = 0
  · rw [if_pos hz, if_neg (by omega)]
  · rw [if_neg hz, if_pos (by omega), show 6 * t + 0 = 6 * t by omega, a3 (by omega)]
theorem x_cWi (d : Nat) (V : XM) {N : Int} (hh : HO V N) (hc : HC V N) (t : Int) : ∀ (n : Nat) (h s : Int), 0 ≤ h → h < N → 0 ≤ s → s + n ≤ 64 → endsN (V 78 0) (V 80 0) n h → Xf (d + 2) 12 5 [xr 7 0, xr 0 0, xi t, xi h, xi s] [] V = some (xi (b2 (wiN (V 78 0) (V 80 0) t n h = true)), V) := by
  intro n
  induction n with
  | zero => intro h s _ _ _ _ he; exact he.elim
  | succ n ih =>
    intro h s h0 h1 hs0 hs1 he
    have h64 := hh.1
    obtain ⟨a1, a2⟩ := hh.2 h h0 h1
    rw [s_X1_isWithin_5, if_neg (by omega), if_pos (by omega)]
    unfold wiN
    by_cases ht : h = t
    · rw [if_pos ht, if_pos ht]; rfl
    · rw [if_neg ht, if_neg ht, y_home0 _ V hh hc h0 h1, ci_r]
      by_cases hc0 : (V 80 0 (h.toNat)) = 0
      · rw [if_pos hc0, if_pos hc0, s_X1_isWithin_5, if_pos (by omega)]; rfl
      · obtain ⟨b1, b2'⟩ := a2 (by omega)
        rw [if_neg hc0, if_neg hc0, w32_i (by omega) (by omega)]
        exact ih _ _ b1 b2' (by omega) (by omega) (he.resolve_left hc0)
theorem y_cWithin (d : Nat) (V : XM) {N : Int} (hh : HO V N) (hc : HC V N) {h : Int} (t : Int) (h0 : 0 ≤ h) (h1 : h < N) (he : endsN (V 78 0) (V 80 0) 64 h) : Yf (d + 3) 12 [xr 7 0, xi h, xi t] V = some (xi (b2 (wiN (V 78 0) (V 80 0) t 64 h = true)), V) := by
  rw [s_X1_isWithin]
  exact x_cWi d V hh hc t 64 h 0 h0 h1 (by omega) (by omega) he
