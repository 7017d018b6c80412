/-! groups -/
theorem xff_xff (V : XM) (g i : Nat) (lo hi : Int) (F G : Nat → Int) : xff (xff V g i lo hi F) g i lo hi G = xff V g i lo hi G := by
  funext a b c; unfold xff
  by_cases h : a = g ∧ b = i ∧ (lo ≤ (c : Int) ∧ (c : Int) < hi)
  · simp only [if_pos h]
  · simp only [if_neg h]
theorem xff_congr {V : XM} {g i : Nat} {lo hi : Int} {F G : Nat → Int} (h : ∀ c : Nat, lo ≤ (c : Int) → (c : Int) < hi → F c = G c) : xff V g i lo hi F = xff V g i lo hi G := by
  funext a b c; unfold xff
  by_cases k : a = g ∧ b = i ∧ (lo ≤ (c : Int) ∧ (c : Int) < hi)
  · simp only [if_pos k]; exact h c k.2.2.1 k.2.2.2
  · simp only [if_neg k]
theorem x_g2 (d : Nat) (r e : Int) : ∀ (m : Nat) (V : XM) (l : Int), ((V 14 0 9) - l).toNat ≤ m → 0 ≤ l → l ≤ (V 14 0 9) → (V 14 0 9) ≤ 64 → Xf d 252 2 [xr 14 0, xi r, xi e, xi l, xr 0 0, xr 0 0, xr 0 0] [] V = Xf d 252 25 [xr 14 0, xi r, xi e, xi 0, xr 0 0, xr 0 0, xr 0 0] [] (xff V 91 0 l (V 14 0 9) (fun t => (t : Int))) := by
  intro m
  induction m with
  | zero =>
    intro V l hm h0 h1 h64
    rw [s_X12_groupUp_2, if_neg (by omega), show l = (V 14 0 9) by omega, xff_0]
  | succ m ih =>
    intro V l hm h0 h1 h64
    by_cases hl : l < (V 14 0 9)
    · have := ih (xu V 91 0 l.toNat l) (l + 1) (by show ((V 14 0 9) - (l + 1)).toNat ≤ m; omega) (by omega) (by show l + 1 ≤ (V 14 0 9); omega) h64
      rw [s_X12_groupUp_2, if_pos hl, if_pos (by omega), w32_i (by omega) (by omega), this]
      have es := xff_s V 91 0 l (V 14 0 9) (fun t => (t : Int)) h0 hl
      have ev : ((l.toNat : Nat) : Int) = l := by omega
      rw [ev] at es
      show Xf d 252 25 [xr 14 0, xi r, xi e, xi 0, xr 0 0, xr 0 0, xr 0 0] [] (xff (xu V 91 0 l.toNat l) 91 0 (l + 1) (V 14 0 9) (fun t => (t : Int))) = _
      rw [es]
    · rw [s_X12_groupUp_2, if_neg (by omega), show l = (V 14 0 9) by omega, xff_0]
theorem x_g105 (d : Nat) (r e k f t : Int) (G : Nat → Int) : ∀ (m : Nat) (V : XM) (l : Int), ((V 14 0 9) - l).toNat ≤ m → 0 ≤ l → l ≤ (V 14 0 9) → (V 14 0 9) ≤ 64 → (∀ c : Int, l ≤ c → c < (V 14 0 9) → V 91 0 c.toNat = G c.toNat) → Xf d 252 105 [xr 14 0, xi r, xi e, xi k, xi f, xi t, xi l] [] V = Xf d 252 25 [xr 14 0, xi r, xi e, xi (w32 (k + 1)), xr 0 0, xr 0 0, xr 0 0] [] (xff V 91 0 l (V 14 0 9) (fun c => if G c = f then t else G c)) := by
  intro m
  induction m with
  | zero =>
    intro V l hm h0 h1 h64 hG
    rw [s_X12_groupUp_105, if_neg (by omega), show l = (V 14 0 9) by omega, xff_0]
  | succ m ih =>
    intro V l hm h0 h1 h64 hG
    by_cases hl : l < (V 14 0 9)
    · have hg := hG l (by omega) hl
      have step : ∀ y : Int, y = (if G l.toNat = f then t else G l.toNat) → Xf d 252 105 [xr 14 0, xi r, xi e, xi k, xi f, xi t, xi (l + 1)] [] (xu V 91 0 l.toNat y) = Xf d 252 25 [xr 14 0, xi r, xi e, xi (w32 (k + 1)), xr 0 0, xr 0 0, xr 0 0] [] (xff V 91 0 l (V 14 0 9) (fun c => if G c = f then t else G c)) := by
        intro y hy
        have := ih (xu V 91 0 l.toNat y) (l + 1) (by show ((V 14 0 9) - (l + 1)).toNat ≤ m; omega) (by omega) (by show l + 1 ≤ (V 14 0 9); omega) h64 (fun c c1 c2 => by
          have c2' : c < (V 14 0 9) := c2
          rw [xu_rw, zup_ne (by omega)]
          exact hG c (by omega) c2')
        rw [this]
        show Xf d 252 25 [xr 14 0, xi r, xi e, xi (w32 (k + 1)), xr 0 0, xr 0 0, xr 0 0] [] (xff (xu V 91 0 l.toNat y) 91 0 (l + 1) (V 14 0 9) (fun c => if G c = f then t else G c)) = _
        have es := xff_s V 91 0 l (V 14 0 9) (fun c => if G c = f then t else G c) h0 hl
        rw [hy]
        exact congrArg _ es
      rw [s_X12_groupUp_105, if_pos hl, if_pos (by omega), hg, w32_i (x := l + 1) (by omega) (by omega)]
      by_cases c1 : G l.toNat = f
      · rw [if_pos c1, if_pos (by omega)]
        exact step t (by rw [if_pos c1])
      · rw [if_neg c1, if_pos (by omega), if_pos (by omega)]
        exact step _ (by rw [if_neg c1])
    · rw [s_X12_groupUp_105, if_neg (by omega), show l = (V 14 0 9) by omega, xff_0]
/-- what groups need of the reference's rows -/
def GR (V : XM) : Prop := 0 ≤ (V 14 0 9) ∧ (V 14 0 9) ≤ 64 ∧ 0 ≤ (V 14 0 22) ∧ (V 14 0 22) ≤ 300 ∧ ∀ s : Int, 0 ≤ s → s < (V 14 0 22) → (V 85 0 (s.toNat)) = 6 ∨ (V 85 0 (s.toNat)) = 7 → 0 ≤ (V 87 0 (s.toNat)) ∧ (V 87 0 (s.toNat)) < (V 14 0 9) ∧ 0 ≤ (V 88 0 (s.toNat)) ∧ (V 88 0 (s.toNat)) < (V 14 0 9)
theorem Inv.gr {V : XM} (h : Inv V) : GR V := by
  obtain ⟨⟨ck1, ck2, ck3, cp1, cp2, cp3, ct1, ct2, ct3, cs1, cs2, cs3, cq1, cq2, cq3, cr1, cr2, cr3, cf1, cf2, cf3, cb1, cb2, cb3, cw1, cw2, cw3, clf, clc⟩, hkin, hpro, husu, hgiv, hthg, hhom, hput, hrin, hsen, hbar, hset, hmos, hpai, hrel, hmap, hdoo, hshe, htab, hwor⟩ := h
  refine ⟨ct1, ct2, cs1, cs2, fun s k1 k2 k3 => ?_⟩
  have := hrel.1 s k1 k2 k3
  exact ⟨this.2.2.1, this.2.2.2.1, this.2.2.2.2.1, this.2.2.2.2.2.1⟩
def gF (V : XM) (r : Int) (n : Nat) (t : Nat) : Int := glN (V 85 0) (V 86 0) (V 87 0) (V 88 0) r n (t : Int)
def gS (V : XM) (r : Int) (n : Nat) : XM := xff V 91 0 0 (V 14 0 9) (gF V r n)
theorem x_g25 (d : Nat) (V : XM) (h : GR V) (r e : Int) (he : e ≤ (V 14 0 22)) : ∀ (m : Nat) (k : Nat), e.toNat - k ≤ m → (k : Int) ≤ e → Xf d 252 25 [xr 14 0, xi r, xi e, xi (k : Int), xr 0 0, xr 0 0, xr 0 0] [] (gS V r k) = some (xi 0, gS V r e.toNat) := by
  obtain ⟨t1, t2, s1, s2, hh⟩ := h
  intro m
  induction m with
  | zero =>
    intro k hm hk
    rw [s_X12_groupUp_25, if_neg (by omega), show k = e.toNat by omega]
  | succ m ih =>
    intro k hm hk
    by_cases hl : (k : Int) < e
    · have ih := ih (k + 1) (by omega) (by omega)
      have row : ∀ c : Int, 0 ≤ c → c < (V 14 0 9) → (gS V r k) 91 0 c.toNat = gF V r k c.toNat := by
        intro c c0 c1
        show (xff V 91 0 0 (V 14 0 9) (gF V r k)) 91 0 c.toNat = _
        rw [xff_e, if_pos (by omega)]
      have e85 : ∀ j, (gS V r k) 85 0 j = V 85 0 j := fun j => rfl
      have e86 : ∀ j, (gS V r k) 86 0 j = V 86 0 j := fun j => rfl
      have e87 : ∀ j, (gS V r k) 87 0 j = V 87 0 j := fun j => rfl
      have e88 : ∀ j, (gS V r k) 88 0 j = V 88 0 j := fun j => rfl
      have ew : w32 ((k : Int) + 1) = ((k + 1 : Nat) : Int) := by rw [w32_i (by omega) (by omega)]; omega
      have same : ∀ t : Nat, (¬ ((V 85 0 k) = 6 ∧ (V 86 0 k) = r ∧ gF V r k (V 87 0 k).toNat ≠ gF V r k (V 88 0 k).toNat)) → 0 ≤ (V 87 0 k) ∨ (V 85 0 k) ≠ 6 → 0 ≤ (V 88 0 k) ∨ (V 85 0 k) ≠ 6 → gF V r (k + 1) t = gF V r k t := by
        intro t hn h2 h3
        unfold gF
        rw [glN_s, if_neg]
        rintro ⟨q1, q2, q3, q4⟩
        refine hn ⟨q1, q2, ?_⟩
        unfold gF
        rw [show (((V 87 0 k).toNat : Nat) : Int) = (V 87 0 k) by omega, show (((V 88 0 k).toNat : Nat) : Int) = (V 88 0 k) by omega]
        exact q3
      rw [s_X12_groupUp_25, if_pos hl, if_pos (by omega), Int.toNat_natCast, e85, e86, e87, e88, ew]
      by_cases c1 : (V 85 0 k) = 6
      · obtain ⟨y1, y2, y3, y4⟩ := hh k (by omega) (by omega) (.inl (by rw [Int.toNat_natCast]; exact c1))
        rw [Int.toNat_natCast] at y1 y2 y3 y4
        rw [if_pos c1, if_pos (by omega)]
        by_cases c2 : (V 86 0 k) = r
        · rw [if_pos c2, if_pos (by omega), if_pos (by omega), if_pos (by omega), if_pos (by omega), row _ y1 y2, row _ y3 y4]
          by_cases c3 : gF V r k (V 87 0 k).toNat = gF V r k (V 88 0 k).toNat
          · rw [if_pos c3, ← ih]
            have : gS V r (k + 1) = gS V r k := xff_congr (fun c _ _ => same c (fun q => q.2.2 c3) (.inl y1) (.inl y3))
            rw [this]
          · rw [if_neg c3, if_pos (by omega), if_pos (by omega), if_pos (by omega), if_pos (by omega)]
            have := x_g105 d r e (k : Int) (gF V r k (V 88 0 k).toNat) (gF V r k (V 87 0 k).toNat) (gF V r k) 64 (gS V r k) 0 (by show ((V 14 0 9) - 0).toNat ≤ 64; omega) (by omega) t1 t2 (fun c c0 c1 => row c c0 c1)
            rw [this, ew, ← ih]
            have : gS V r (k + 1) = xff (gS V r k) 91 0 0 ((gS V r k) 14 0 9) (fun c => if gF V r k c = gF V r k (V 88 0 k).toNat then gF V r k (V 87 0 k).toNat else gF V r k c) := by
              show xff V 91 0 0 (V 14 0 9) (gF V r (k + 1)) = xff (xff V 91 0 0 (V 14 0 9) (gF V r k)) 91 0 0 (V 14 0 9) _
              rw [xff_xff]
              refine xff_congr (fun c _ _ => ?_)
              unfold gF at c3 ⊢
              rw [show (((V 87 0 k).toNat : Nat) : Int) = (V 87 0 k) by omega, show (((V 88 0 k).toNat : Nat) : Int) = (V 88 0 k) by omega] at c3 ⊢
              rw [glN_s]
              by_cases c4 : glN (V 85 0) (V 86 0) (V 87 0) (V 88 0) r k (c : Int) = glN (V 85 0) (V 86 0) (V 87 0) (V 88 0) r k (V 88 0 k)
              · rw [if_pos ⟨c1, c2, c3, c4⟩, if_pos c4]
              · rw [if_neg (fun q => c4 q.2.2.2), if_neg c4]
            rw [this]
        · rw [if_neg c2, ← ih]
          have : gS V r (k + 1) = gS V r k := xff_congr (fun c _ _ => same c (fun q => c2 q.2.1) (.inl y1) (.inl y3))
          rw [this]
      · rw [if_neg c1, ← ih]
        have : gS V r (k + 1) = gS V r k := xff_congr (fun c _ _ => same c (fun q => c1 q.1) (.inr c1) (.inr c1))
        rw [this]
    · rw [s_X12_groupUp_25, if_neg (by omega), show k = e.toNat by omega]
theorem y_groupUp (d : Nat) (V : XM) (h : GR V) (r e : Int) (h0 : 0 ≤ e) (he : e ≤ (V 14 0 22)) : Yf (d + 1) 252 [xr 14 0, xi r, xi e] V = some (xi 0, gS V r e.toNat) := by
  rw [s_X12_groupUp, x_g2 d r e 64 V 0 (by have := h.2.1; omega) (by omega) h.1 h.2.1]
  exact x_g25 d V h r e he e.toNat 0 (by omega) (by omega)
