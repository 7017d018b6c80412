/-! put: what holds afterwards -/
theorem wiN_fuel {H C : Nat → Int} (t : Int) : ∀ (n m : Nat) (h : Int), n ≤ m → endsN H C n h → wiN H C t m h = wiN H C t n h := by
  intro n
  induction n with
  | zero => intro m h _ he; exact he.elim
  | succ n ih =>
    intro m h hm he
    cases m with
    | zero => omega
    | succ m =>
      unfold wiN
      by_cases h1 : h = t
      · rw [if_pos h1, if_pos h1]
      · rw [if_neg h1, if_neg h1]
        by_cases h2 : C h.toNat = 0
        · rw [if_pos h2, if_pos h2]
        · rw [if_neg h2, if_neg h2]
          exact ih m _ (by omega) (he.resolve_left h2)
theorem wiN_up {V : XM} (h : Inv V) {t x : Int} (h0 : 0 ≤ x) (h1 : x < (V 14 0 9)) (h2 : (V 21 0 (x.toNat)) ≠ 3) (hx : x ≠ t) (hc : 0 < (V 80 0 (x.toNat))) : wiN (V 78 0) (V 80 0) t 64 x = wiN (V 78 0) (V 80 0) t 64 (V 78 0 ((6 * x).toNat)) := by
  have he := ends64 h h0 h1 h2
  have he2 : endsN (V 78 0) (V 80 0) 63 (V 78 0 ((6 * x).toNat)) := by
    rcases he with he | he
    · omega
    · exact he
  rw [wiN_fuel t 63 64 _ (by omega) he2]
  show (if x = t then true else if (V 80 0 (x.toNat)) = 0 then false else wiN (V 78 0) (V 80 0) t 63 (V 78 0 ((6 * x).toNat))) = _
  rw [if_neg hx, if_neg (by omega)]
theorem cnt_up {f g : Nat → Bool} {j : Nat} (hf : f j = false) (hg : g j = true) : ∀ {n : Nat}, j < n → (∀ k, k < n → k ≠ j → g k = f k) → cnt g n = cnt f n + 1 := by
  intro n
  induction n with
  | zero => intro h; omega
  | succ n ih =>
    intro hj h
    unfold cnt
    by_cases e : j = n
    · subst e
      rw [if_pos hg, if_neg (by rw [hf]; simp), cnt_congr (fun k hk => h k (by omega) (by omega))]; omega
    · rw [ih (by omega) (fun k hk hk2 => h k (by omega) hk2), h n (by omega) (by omega)]; omega
theorem put_comps {V W : XM} (h : Inv V) {t w : Int} (h0 : 0 ≤ t) (h1 : t < (V 14 0 9)) (h2 : 0 ≤ w) (h3 : w < (V 14 0 9))
    (hfx : ¬ ((V 21 0 (t.toNat)) = 1 ∨ (V 21 0 (t.toNat)) = 2)) (hw : isH (V 21 0 (w.toNat))) (hwi : wiN (V 78 0) (V 80 0) t 64 w = false)
    (hnt : ff (nthB V t w) (V 80 0 (t.toNat)).toNat 0 = -9) (hl : (V 21 0 (t.toNat)) ≠ 3 → (V 80 0 (t.toNat)) = 0) (h6 : (V 80 0 (t.toNat)) < 6)
    (hmo : (V 21 0 (t.toNat)) ≠ 3 → (V 82 0 (w.toNat)) ≠ -9 → cnt (heB V (V 21 0) w) (V 14 0 9).toNat < (V 87 0 ((V 82 0 (w.toNat)).toNat))) (hpa : ff (rpB V t w) (V 14 0 22).toNat 0 = -9)
    (T : Told V W 0 t w (-9) 0) (e37 : W 37 0 = zup (V 37 0) (6 * t + (V 80 0 (t.toNat))).toNat w) (e38 : W 38 0 = zup (V 38 0) t.toNat ((V 80 0 (t.toNat)) + 1)) (e39 : W 39 0 = zup (V 39 0) t.toNat (V 14 0 22))
    (e43 : W 43 0 = if (V 21 0 (t.toNat)) = 3 then V 43 0 else zup (V 43 0) w.toNat ((V 43 0 (w.toNat)) + 1))
    (e78 : W 78 0 = zup (V 78 0) (6 * t + (V 80 0 (t.toNat))).toNat w) (e79 : W 79 0 = zup (V 79 0) (6 * t + (V 80 0 (t.toNat))).toNat (V 14 0 22)) (e80 : W 80 0 = zup (V 80 0) t.toNat ((V 80 0 (t.toNat)) + 1))
    (e21 : W 21 0 = V 21 0) (e44 : W 44 0 = V 44 0) (e45 : W 45 0 = V 45 0) (e82 : W 82 0 = V 82 0) (et : (W 14 0 9) = (V 14 0 9)) :
    I_hom W ∧ I_put W ∧ I_rin W ∧ I_mos W := by
  have h' := h
  obtain ⟨⟨ck1, ck2, ck3, cp1, cp2, cp3, ct1, ct2, ct3, cs1, cs2, cs3, cq1, cq2, cq3, cr1, cr2, cr3, cf1, cf2, cf3, cb1, cb2, cb3, cw1, cw2, cw3, clf, clc⟩, hkin, hpro, husu, hgiv, hthg, hhom, hput, hrin, hsen, hbar, hset, hmos, hpai, hrel, hmap, hdoo, hshe, htab, hwor⟩ := h'
  clear hpa ck1 ck2 ck3 cp1 cp2 cp3 ct3 cs3 cq1 cq2 cq3 cr1 cr2 cr3 cf1 cf2 cf3 cb1 cb2 cb3 cw1 cw2 cw3 clf clc
  obtain ⟨o1, o2, o3, o4, o5, o6⟩ := hhom t h0 h1
  obtain ⟨_, _, _, _, T5, T6, T7, T8, T9⟩ := T
  have hno : ∀ k : Int, 0 ≤ k → k < (V 80 0 (t.toNat)) → (V 78 0 ((6 * t + k).toNat)) ≠ w := by
    intro k k1 k2 e
    rcases ff_spec (nthB V t w) (V 80 0 (t.toNat)).toNat 0 with ⟨_, x2⟩ | ⟨s, x1, _⟩
    · have := x2 k.toNat (by omega) (by omega)
      unfold nthB at this
      simp only [decide_eq_false_iff_not] at this
      rw [show ((k.toNat : Nat) : Int) = k by omega] at this
      exact this e
    · omega
  refine ⟨?_, ?_, ?_, ?_⟩
  · -- homes
    unfold I_hom
    rw [e37, e38, e78, e80, e21, et]
    intro x k1 k2
    by_cases hx : x = t
    · subst hx
      rw [zup_eq, zup_eq]
      refine ⟨rfl, by omega, by omega, fun k => by have := hl k; omega, fun k => absurd k hfx, fun k g1 g2 => ?_⟩
      by_cases hk : k = (V 80 0 (x.toNat))
      · subst hk
        rw [zup_eq, zup_eq]
        refine ⟨rfl, h2, h3, hw, fun l g3 g4 g5 => ?_⟩
        by_cases hl2 : l = (V 80 0 (x.toNat))
        · exact hl2.symm
        · rw [zup_ne (by omega)] at g5
          exact absurd g5.symm (hno l g3 (by omega))
      · rw [zup_ne (by omega), zup_ne (by omega)]
        obtain ⟨q1, q2, q3, q4, q5⟩ := o6 k g1 (by omega)
        refine ⟨q1, q2, q3, q4, fun l g3 g4 g5 => ?_⟩
        by_cases hl2 : l = (V 80 0 (x.toNat))
        · subst hl2
          rw [zup_eq] at g5
          exact absurd g5 (hno k g1 (by omega))
        · rw [zup_ne (by omega)] at g5
          exact q5 l g3 (by omega) g5
    · have hne : x.toNat ≠ t.toNat := by omega
      rw [zup_ne hne, zup_ne hne]
      obtain ⟨q1, q2, q3, q4, q5, q6⟩ := hhom x k1 k2
      refine ⟨q1, q2, q3, q4, q5, fun k g1 g2 => ?_⟩
      obtain ⟨r1, r2, r3, r4, r5⟩ := q6 k g1 g2
      rw [zup_ne (by omega), zup_ne (by omega)]
      refine ⟨r1, r2, r3, r4, fun l g3 g4 g5 => ?_⟩
      rw [zup_ne (by omega)] at g5
      exact r5 l g3 g4 g5
  · -- homes and sentences
    unfold I_put
    rw [e39, e78, e79, e80, e21, et, T5, T6, T7, T9]
    refine ⟨fun x k1 k2 => ?_, fun u k1 k2 k3 => ?_⟩
    · by_cases hx : x = t
      · subst hx
        rw [zup_eq, zup_eq]
        refine ⟨fun k _ => ?_, fun k g1 g2 => ?_⟩
        · have := hl k
          rw [this, show 6 * x + 0 = 6 * x by omega, zup_eq]
        · by_cases hk : k = (V 80 0 (x.toNat))
          · subst hk
            rw [zup_eq, zup_eq, zup_eq, zup_eq, zup_eq]
            exact ⟨cs1, by omega, rfl, rfl, rfl⟩
          · have hne : (6 * x + k).toNat ≠ (6 * x + (V 80 0 (x.toNat))).toNat := by omega
            rw [zup_ne hne, zup_ne hne]
            obtain ⟨y1, y2, y3, y4, y5⟩ := (hput.1 x k1 k2).2 k g1 (by omega)
            have hn2 : (V 79 0 ((6 * x + k).toNat)).toNat ≠ (V 14 0 22).toNat := by omega
            rw [zup_ne hn2, zup_ne hn2, zup_ne hn2]
            exact ⟨y1, by omega, y3, y4, y5⟩
      · have hne : x.toNat ≠ t.toNat := by omega
        rw [zup_ne hne, zup_ne hne]
        obtain ⟨q1, q2, q3, q4, q5, q6⟩ := hhom x k1 k2
        obtain ⟨x1, x2⟩ := hput.1 x k1 k2
        refine ⟨fun k g => ?_, fun k g1 g2 => ?_⟩
        · rw [zup_ne (by omega)]; exact x1 k g
        · have hn1 : (6 * x + k).toNat ≠ (6 * t + (V 80 0 (t.toNat))).toNat := by omega
          rw [zup_ne hn1, zup_ne hn1]
          obtain ⟨y1, y2, y3, y4, y5⟩ := x2 k g1 g2
          have hn2 : (V 79 0 ((6 * x + k).toNat)).toNat ≠ (V 14 0 22).toNat := by omega
          rw [zup_ne hn2, zup_ne hn2, zup_ne hn2]
          exact ⟨y1, by omega, y3, y4, y5⟩
    · by_cases hu : u = (V 14 0 22)
      · subst hu
        rw [zup_eq]
        refine ⟨h0, h1, (V 80 0 (t.toNat)), o2, ?_, ?_⟩
        · rw [zup_eq]; omega
        · rw [zup_eq]
      · have hn2 : u.toNat ≠ (V 14 0 22).toNat := by omega
        rw [zup_ne hn2] at k3
        rw [zup_ne hn2]
        obtain ⟨z1, z2, k, z3, z4, z5⟩ := hput.2 u k1 (by omega) k3
        have hb6 := (hhom _ z1 z2).2.2.1
        refine ⟨z1, z2, k, z3, ?_, ?_⟩
        · by_cases hx : (V 86 0 (u.toNat)) = t
          · rw [hx] at z4 ⊢; rw [zup_eq]; omega
          · rw [zup_ne (by omega)]; exact z4
        · by_cases hx : (V 86 0 (u.toNat)) = t
          · rw [hx] at z4 z5 ⊢; rw [zup_ne (by omega)]; exact z5
          · rw [zup_ne (by omega)]; exact z5
  · -- no ring
    unfold I_rin
    rw [e78, e80, e21, et]
    by_cases hb3 : (V 21 0 (t.toNat)) = 3
    · obtain ⟨r, hr⟩ := hrin
      refine ⟨r, fun x k1 k2 k3 k4 => ?_⟩
      have hx : x ≠ t := fun e => k3 (by rw [e]; exact hb3)
      rw [zup_ne (by omega)] at k4
      have := (hhom x k1 k2).2.2.1
      rw [zup_ne (by omega)]
      exact hr x k1 k2 k3 k4
    · have hl0 := hl hb3
      obtain ⟨r, hr⟩ := id hrin
      refine ⟨fun x => if wiN (V 78 0) (V 80 0) t 64 x = true then r x else r x + r t + 1, fun x k1 k2 k3 k4 => ?_⟩
      show (if wiN (V 78 0) (V 80 0) t 64 x = true then r x else r x + r t + 1) < (if wiN (V 78 0) (V 80 0) t 64 (zup (V 78 0) (6 * t + (V 80 0 (t.toNat))).toNat w (6 * x).toNat) = true then r (zup (V 78 0) (6 * t + (V 80 0 (t.toNat))).toNat w (6 * x).toNat) else r (zup (V 78 0) (6 * t + (V 80 0 (t.toNat))).toNat w (6 * x).toNat) + r t + 1)
      by_cases hx : x = t
      · subst hx
        rw [hl0, show 6 * x + 0 = 6 * x by omega, zup_eq, hwi]
        have : wiN (V 78 0) (V 80 0) x 64 x = true := by
          show (if x = x then true else _) = true
          rw [if_pos rfl]
        rw [this, if_pos rfl, if_neg (by simp)]
        omega
      · rw [zup_ne (by omega)] at k4
        have := (hhom x k1 k2).2.2.1
        rw [zup_ne (by omega)]
        have hlt := hr x k1 k2 k3 k4
        rw [wiN_up h k1 k2 k3 hx k4]
        split <;> omega
  · -- the most
    unfold I_mos
    rw [e43, e44, e45, e78, e80, e82, e21, et, T5, T6, T7, T9]
    intro w' k1 k2
    obtain ⟨m1, m2, m3, m4⟩ := hmos w' k1 k2
    have hsent : cnt (fun s => decide (zup (V 85 0) (V 14 0 22).toNat 0 s = 0 ∧ zup (V 87 0) (V 14 0 22).toNat w s = w' ∧ V 21 0 (zup (V 86 0) (V 14 0 22).toNat t s).toNat ≠ 3)) ((V 14 0 22) + 1).toNat = (V 43 0 (w'.toNat)) + if w = w' ∧ (V 21 0 (t.toNat)) ≠ 3 then 1 else 0 := by
      rw [cnt_s _ cs1, m2]
      congr 1
      · refine cnt_congr (fun k hk => ?_)
        have hk' : k ≠ (V 14 0 22).toNat := by omega
        rw [zup_ne hk', zup_ne hk', zup_ne hk']
      · simp only [zup_eq, decide_eq_true_eq, true_and]
    have hth : cnt (fun x => decide (V 21 0 x ≠ 3 ∧ 0 < zup (V 80 0) t.toNat ((V 80 0 (t.toNat)) + 1) x ∧ zup (V 78 0) (6 * t + (V 80 0 (t.toNat))).toNat w (6 * x) = w')) (V 14 0 9).toNat = (V 43 0 (w'.toNat)) + if w = w' ∧ (V 21 0 (t.toNat)) ≠ 3 then 1 else 0 := by
      rw [m1]
      by_cases hb3 : (V 21 0 (t.toNat)) = 3
      · rw [if_neg (fun k => k.2 hb3), Int.add_zero]
        refine cnt_congr (fun k hk => ?_)
        by_cases hk2 : k = t.toNat
        · subst hk2; simp only [hb3, ne_eq, not_true, false_and]
        · have := (hhom (k : Int) (by omega) (by omega)).2.2.1
          rw [zup_ne hk2, zup_ne (by omega)]
      · have hl0 := hl hb3
        rw [hl0]
        by_cases hww : w = w'
        · rw [if_pos ⟨hww, hb3⟩]
          refine cnt_up (j := t.toNat) ?_ ?_ (by omega) (fun k hk hk2 => ?_)
          · simp only [decide_eq_false_iff_not]; intro ⟨_, b, _⟩; omega
          · simp only [decide_eq_true_eq]
            refine ⟨hb3, ?_, ?_⟩
            · rw [zup_eq]; omega
            · rw [show 6 * t.toNat = (6 * t + 0).toNat by omega, zup_eq]; exact hww
          · rw [zup_ne hk2, zup_ne (by omega)]
        · rw [if_neg (fun k => hww k.1)]
          refine Eq.trans ?_ (Int.add_zero _).symm
          refine cnt_congr (fun k hk => ?_)
          by_cases hk2 : k = t.toNat
          · subst hk2
            rw [show 6 * t.toNat = (6 * t + 0).toNat by omega, zup_eq]
            refine decide_eq_decide.mpr ⟨fun ⟨_, _, c⟩ => absurd ((zup_eq _ _ _).symm.trans c) hww, fun ⟨_, b, _⟩ => by omega⟩
          · rw [zup_ne hk2, zup_ne (by omega)]
    have hins : (if (V 21 0 (t.toNat)) = 3 then V 43 0 else zup (V 43 0) w.toNat ((V 43 0 (w.toNat)) + 1)) w'.toNat = (V 43 0 (w'.toNat)) + if w = w' ∧ (V 21 0 (t.toNat)) ≠ 3 then 1 else 0 := by
      by_cases hb3 : (V 21 0 (t.toNat)) = 3
      · rw [if_pos hb3, if_neg (fun k => k.2 hb3), Int.add_zero]
      · rw [if_neg hb3]
        by_cases hww : w = w'
        · subst hww; rw [zup_eq, if_pos ⟨rfl, hb3⟩]
        · rw [zup_ne (by omega), if_neg (fun k => hww k.1), Int.add_zero]
    rw [hins]
    refine ⟨hth.symm, hsent.symm, m3, ?_⟩
    rcases m4 with m4 | ⟨y1, y2, y3, y4⟩
    · exact .inl m4
    · refine .inr ⟨y1, by omega, ?_, ?_⟩
      · rw [zup_ne (by omega)]; exact y3
      · by_cases hc : w = w' ∧ (V 21 0 (t.toNat)) ≠ 3
        · rw [if_pos hc]
          obtain ⟨rfl, hb3⟩ := hc
          have := hmo hb3 (by omega)
          have hm1 : cnt (heB V (V 21 0) w) (V 14 0 9).toNat = (V 43 0 (w.toNat)) := m1.symm
          omega
        · rw [if_neg hc]; omega
theorem pair_h1 {C O H Ho al w : Int} (hx : ¬ (0 < C ∧ ((H = w ∧ al ≠ 1) ∨ (H ≠ w ∧ al = 1)))) (hc : C = O) (hh : 0 < O → H = Ho) (ho : 0 < O) : (Ho = w ↔ al = 1) := by
  have := hh ho
  omega
theorem put_pai {V W : XM} (h : Inv V) {t w : Int} (h0 : 0 ≤ t) (h1 : t < (V 14 0 9)) (hl : (V 21 0 (t.toNat)) ≠ 3 → (V 80 0 (t.toNat)) = 0) (o2 : 0 ≤ (V 80 0 (t.toNat))) (h6 : (V 80 0 (t.toNat)) < 6) (hpa : ff (rpB V t w) (V 14 0 22).toNat 0 = -9)
    (T : Told V W 0 t w (-9) 0) (e78 : W 78 0 = zup (V 78 0) (6 * t + (V 80 0 (t.toNat))).toNat w) (e80 : W 80 0 = zup (V 80 0) t.toNat ((V 80 0 (t.toNat)) + 1))
    (e21 : W 21 0 = V 21 0) (e46 : W 46 0 = V 46 0) (e47 : W 47 0 = V 47 0) (e48 : W 48 0 = V 48 0) (e49 : W 49 0 = V 49 0) (et : (W 14 0 9) = (V 14 0 9)) (ep : (W 14 0 27) = (V 14 0 27)) : I_pai W := by
  obtain ⟨_, _, _, _, T5, T6, T7, T8, T9⟩ := T
  have hcc := h.hc
  have hcf : cpF V t w = -9 := (pairs_eq h t w).1.trans hpa
  obtain ⟨hcnt, hrest⟩ := id h
  have cs1 := hcnt.2.2.2.2.2.2.2.2.2.1
  have cq3 := hcnt.2.2.2.2.2.2.2.2.2.2.2.2.2.2.1
  have hpai : I_pai V := hrest.2.2.2.2.2.2.2.2.2.2.2.2.1
  clear hcnt hrest
  unfold I_pai
  rw [e46, e47, e48, e49, e78, e80, e21, et, ep, T5, T6, T7, T8, T9]
  have hcp : ∀ p : Int, 0 ≤ p → p < (V 14 0 27) → cpB (V 46 0) (V 47 0) (V 48 0) (V 37 0) (V 38 0) t w p.toNat = false := by
    intro p k1 k2
    rcases ff_spec (cpB (V 46 0) (V 47 0) (V 48 0) (V 37 0) (V 38 0) t w) (V 14 0 27).toNat 0 with ⟨_, x2⟩ | ⟨s, x1, x2, x3, _⟩
    · exact x2 p.toNat (by omega) (by omega)
    · unfold cpF at hcf
      rw [cq3, x1, if_neg (by omega), Int.toNat_natCast] at hcf
      have := (hpai.1 s (by omega) (by omega)).1
      rw [Int.toNat_natCast] at this
      omega
  refine ⟨fun p k1 k2 => ?_, fun u k1 k2 k3 => ?_⟩
  · obtain ⟨y1, y2, y3, y4, y5, y6, y7, y8, y9, y10, y11, y12, y13, y14, y15, y16⟩ := hpai.1 p k1 k2
    have hn2 : (V 49 0 (p.toNat)).toNat ≠ (V 14 0 22).toNat := by omega
    rw [zup_ne hn2, zup_ne hn2, zup_ne hn2, zup_ne hn2]
    refine ⟨y1, by omega, y3, y4, y5, y6, y7, y8, y9, y10, y11, y12, y13, y14, ?_, y16⟩
    have hcpp := hcp p k1 k2
    unfold cpB at hcpp
    simp only [decide_eq_false_iff_not] at hcpp
    have c1 := hcc _ y8 y9
    have c2 := hcc _ y10 y11
    have n1 : (V 46 0 (p.toNat)) ≠ t → (V 46 0 (p.toNat)).toNat ≠ t.toNat ∧ (6 * (V 46 0 (p.toNat))).toNat ≠ (6 * t + (V 80 0 (t.toNat))).toNat := by
      clear hcpp c1 c2 y13 y14 y15 y16 hcp hcc hpai y7
      intro e; omega
    have n2 : (V 47 0 (p.toNat)) ≠ t → (V 47 0 (p.toNat)).toNat ≠ t.toNat ∧ (6 * (V 47 0 (p.toNat))).toNat ≠ (6 * t + (V 80 0 (t.toNat))).toNat := by
      clear hcpp c1 c2 y13 y14 y15 y16 hcp hcc hpai y7
      intro e; omega
    intro g1 g2
    by_cases ea : (V 46 0 (p.toNat)) = t
    · have hb3 : (V 21 0 (t.toNat)) ≠ 3 := by
        rw [← ea]; clear hcpp c1 c2; rcases y13 with e | e | e <;> rw [e] <;> decide
      have hl0 := hl hb3
      have ho : (V 47 0 (p.toNat)) ≠ t := fun e => y12 (ea.trans e.symm)
      rw [zup_ne (n2 ho).1] at g2
      have e2 := (n2 ho).2
      rw [hl0, show 6 * t + 0 = 6 * t by omega] at e2
      rw [hl0, ea, show 6 * t + 0 = 6 * t by omega, zup_eq, zup_ne e2, eq_comm]
      exact pair_h1 (fun k => hcpp (.inl ⟨ea, k⟩)) c2.1 c2.2.2 g2
    · rw [zup_ne (n1 ea).1] at g1
      by_cases eb : (V 47 0 (p.toNat)) = t
      · have hb3 : (V 21 0 (t.toNat)) ≠ 3 := by
          rw [← eb]; clear hcpp c1 c2; rcases y14 with e | e | e <;> rw [e] <;> decide
        have hl0 := hl hb3
        have e2 := (n1 ea).2
        rw [hl0, show 6 * t + 0 = 6 * t by omega] at e2
        rw [hl0, eb, show 6 * t + 0 = 6 * t by omega, zup_eq, zup_ne e2]
        exact pair_h1 (fun k => hcpp (.inr ⟨ea, eb, k⟩)) c1.1 c1.2.2 g1
      · rw [zup_ne (n2 eb).1] at g2
        rw [zup_ne (n1 ea).2, zup_ne (n2 eb).2]
        exact y15 g1 g2
  · by_cases hu : u = (V 14 0 22)
    · subst hu; rw [zup_eq] at k3; omega
    · rw [zup_ne (by omega)] at k3
      exact hpai.2 u k1 (by omega) k3
