/-! make -/
theorem glN_in {so on tw th : Nat → Int} {r N : Int} : ∀ (n : Nat), (∀ k, k < n → so k = 6 → (0 ≤ tw k ∧ tw k < N) ∧ (0 ≤ th k ∧ th k < N)) → ∀ t, (0 ≤ t ∧ t < N → 0 ≤ glN so on tw th r n t ∧ glN so on tw th r n t < N) ∧ (N ≤ t → glN so on tw th r n t = t) := by
  intro n
  induction n with
  | zero => intro _ t; exact ⟨fun h => h, fun _ => rfl⟩
  | succ n ih =>
    intro h t
    have ih := ih (fun k hk => h k (by omega))
    rw [glN_s]
    by_cases c : so n = 6 ∧ on n = r ∧ glN so on tw th r n (tw n) ≠ glN so on tw th r n (th n) ∧ glN so on tw th r n t = glN so on tw th r n (th n)
    · rw [if_pos c]
      obtain ⟨h1, h2⟩ := h n (by omega) c.1
      refine ⟨fun _ => (ih (tw n)).1 h1, fun k => ?_⟩
      have a1 := (ih t).2 k
      have a2 := (ih (th n)).1 h2
      have a3 := c.2.2.2
      omega
    · rw [if_neg c]
      exact ih t
theorem row_out {V : XM} (h : Inv V) {r : Int} {t i : Nat} (ir : 0 ≤ r ∧ r < (V 14 0 29)) (ht : (t : Int) < (V 14 0 9)) (hi : (V 14 0 9) ≤ (i : Int)) (h64 : i < 64) : bt (V 55 0 ((64 * r + t).toNat)) i = false := by
  obtain ⟨⟨ck1, ck2, ck3, cp1, cp2, cp3, ct1, ct2, ct3, cs1, cs2, cs3, cq1, cq2, cq3, cr1, cr2, cr3, cf1, cf2, cf3, cb1, cb2, cb3, cw1, cw2, cw3, clf, clc⟩, hkin, hpro, husu, hgiv, hthg, hhom, hput, hrin, hsen, hbar, hset, hmos, hpai, hrel, hmap, hdoo, hshe, htab, hwor⟩ := h
  clear hkin hpro husu hgiv hthg hhom hput hrin hsen hbar hset hmos hpai hmap hdoo hshe htab hwor ck1 ck2 ck3 cp1 cp2 cp3 cq1 cq2 cq3 cf1 cf2 cf3 cb1 cb2 cb3 cw1 cw2 cw3 clf clc
  obtain ⟨f1, f2, f3, f4⟩ := hrel.2.1 r ir.1 ir.2
  have fb := f4 (t : Int) (i : Int) (by omega) (by omega) (by omega) (by omega)
  rw [Int.toNat_natCast] at fb
  have g := glN_in (so := (V 85 0)) (on := (V 86 0)) (tw := (V 87 0)) (th := (V 88 0)) (r := r) (N := (V 14 0 9)) (V 14 0 22).toNat (fun k hk h6 => by
    have := hrel.1 (k : Int) (by omega) (by omega) (.inl (by rw [Int.toNat_natCast]; exact h6))
    rw [Int.toNat_natCast] at this
    exact ⟨⟨this.2.2.1, this.2.2.2.1⟩, ⟨this.2.2.2.2.1, this.2.2.2.2.2.1⟩⟩)
  cases hz : bt (V 55 0 ((64 * r + t).toNat)) i with
  | false => rfl
  | true =>
    exfalso
    rcases fb.mp hz with ⟨_, k⟩ | ⟨_, s, k1, k2, k3, k4, k5⟩
    · have a1 := (g (t : Int)).1 ⟨by omega, ht⟩
      have a2 := (g (i : Int)).2 hi
      rw [k, a2] at a1
      omega
    · have hr := hrel.1 s k1 k2 (.inl k3)
      rcases k5 with k5 | k5
      · have := hr.2.2.2.2.2.1
        rw [k5.2] at this
        omega
      · have := hr.2.2.2.1
        rw [k5.2.1] at this
        omega
theorem cc_eq {V : XM} (h : Inv V) {r N : Nat} (hN : (V 14 0 9) = (N : Int)) (hr : (r : Int) < (V 14 0 29)) {C : Nat → Int} (hC : ∀ x y : Nat, (x : Int) < (V 14 0 9) → (y : Int) < (V 14 0 9) → v01 (C (64 * x + y)) (rE V (r : Int) x y)) : cnt (gcB N C) (64 * N) = kcF V N r := by
  have t2 : (V 14 0 9) ≤ 64 := h.1.2.2.2.2.2.2.2.1
  have ir : 0 ≤ (r : Int) ∧ (r : Int) < (V 14 0 29) := ⟨by omega, hr⟩
  have eN : (V 14 0 9).toNat = N := by omega
  have key : ∀ t, t ≤ N → cnt (gcB N C) (64 * t) = smN (ccF V (r : Int)) t := by
    intro t
    induction t with
    | zero => intro _; rfl
    | succ t ih =>
      intro ht
      rw [show 64 * (t + 1) = 64 * t + 64 by omega, cnt_add, ih (by omega)]
      show _ = smN (ccF V (r : Int)) t + ccF V (r : Int) t
      congr 1
      unfold ccF
      refine cnt_congr (fun i hi => ?_)
      have e1 : bt (lAnd (V 55 0 ((64 * (r : Int) + (t : Int)).toNat)) (lXor (lShl 1 (t : Int)) (-1))) i = (bt (V 55 0 ((64 * (r : Int) + (t : Int)).toNat)) i && !decide (i = t)) := by
        rw [bt_and, bt_not _ hi, bt_bit (by omega) (by omega), Int.toNat_natCast]
      rw [e1]
      show gcB N C (64 * t + i) = _
      unfold gcB
      by_cases hiN : i < N
      · have hRG := rel_RG h ir t i
        have hv := (hC t i (by omega) (by omega)).iff
        have hP : ((64 * t + i) % 64 < N ∧ C (64 * t + i) ≠ 0) ↔ (bt (V 55 0 ((64 * (r : Int) + (t : Int)).toNat)) i = true ∧ i ≠ t) := by
          rw [show (64 * t + i) % 64 = i by omega, hv]
          constructor
          · rintro ⟨_, k⟩
            have := hRG.mpr ⟨by omega, by omega, k⟩
            obtain ⟨j, j1, j2⟩ := this
            obtain ⟨z1, z2, z3, z4⟩ := relE_s j2
            subst z1
            exact ⟨z3, z4⟩
          · rintro ⟨k1, k2⟩
            refine ⟨hiN, (hRG.mp ⟨i, by omega, ?_⟩).2.2⟩
            unfold relE
            rw [if_pos ⟨by omega, k1, k2⟩]
        cases hz : bt (V 55 0 ((64 * (r : Int) + (t : Int)).toNat)) i with
        | false =>
          rw [hz] at hP
          simp only [Bool.false_and, decide_eq_false_iff_not]
          intro k
          have := (hP.mp k).1
          cases this
        | true =>
          rw [hz] at hP
          by_cases c : i = t
          · have e2 : (decide (i = t)) = true := decide_eq_true c
            rw [e2]
            simp only [Bool.not_true, Bool.and_false, decide_eq_false_iff_not]
            intro k
            exact (hP.mp k).2 c
          · have e2 : (decide (i = t)) = false := decide_eq_false c
            rw [e2]
            simp only [Bool.not_false, Bool.and_true, decide_eq_true_eq]
            exact hP.mpr ⟨rfl, c⟩
      · have hz := row_out h (r := (r : Int)) (t := t) (i := i) ir (by omega) (by omega) hi
        rw [hz]
        simp only [Bool.false_and, decide_eq_false_iff_not]
        intro k
        have := k.1
        omega
  exact key N (Nat.le_refl N)
theorem x_m4 (d : Nat) (V : XM) {B : Nat → Int} (hb : RB V B) {N : Nat} (hN : (V 14 0 9) = (N : Int)) : ∀ (m t : Nat), N - t ≤ m → t ≤ N → Xf (d + 3) 301 4 [xr 14 0, xi (b2 (ff (fun t => decide (B t = 1)) t 0 ≠ -9)), xi (t : Int), xr 0 0, xr 0 0] [] V = Xf (d + 3) 301 4 [xr 14 0, xi (b2 (ff (fun t => decide (B t = 1)) N 0 ≠ -9)), xi (N : Int), xr 0 0, xr 0 0] [] V := by
  obtain ⟨_, t1, t2, _⟩ := id hb
  intro m
  induction m with
  | zero =>
    intro t hm ht
    rw [show t = N by omega]
  | succ m ih =>
    intro t hm ht
    by_cases hlt : t < N
    · have ih := ih (t + 1) (by omega) (by omega)
      have wt : Unit → w32 ((t : Int) + 1) = ((t + 1 : Nat) : Int) := fun _ => by rw [w32_i (by omega) (by omega)]; omega
      have hs : ff (fun t => decide (B t = 1)) (t + 1) 0 ≠ -9 ↔ (ff (fun t => decide (B t = 1)) t 0 ≠ -9 ∨ B t = 1) := by
        rw [ff_ex, ff_ex]
        constructor
        · rintro ⟨k, k1, k2, k3⟩
          by_cases c : k = t
          · subst c; exact .inr (by simpa using k3)
          · exact .inl ⟨k, k1, by omega, k3⟩
        · rintro (⟨k, k1, k2, k3⟩ | k)
          · exact ⟨k, k1, by omega, k3⟩
          · exact ⟨t, by omega, by omega, decide_eq_true k⟩
      have F1 := y_rRoom d V hb (t : Int)
      have hR : (0 ≤ (t : Int) ∧ (t : Int) < (V 14 0 9) ∧ B ((t : Int).toNat) = 1) ↔ B t = 1 := by
        rw [Int.toNat_natCast]
        exact ⟨fun z => z.2.2, fun z => ⟨by omega, by omega, z⟩⟩
      rw [← ih, s_X12_make_4, hN, if_pos (by omega), ite_b2, F1, ci_r, ite_b2, wt ()]
      by_cases c1 : ff (fun t => decide (B t = 1)) t 0 ≠ -9
      · rw [if_pos c1, b2_1.mpr (hs.mpr (.inl c1))]
      · rw [if_neg c1]
        by_cases c2 : B t = 1
        · rw [if_pos (hR.mpr c2), b2_1.mpr (hs.mpr (.inr c2))]
        · rw [if_neg (fun z => c2 (hR.mp z)), b2_0.mpr (fun z => by
            rcases hs.mp z with z | z
            · exact c1 z
            · exact c2 z)]
    · rw [show t = N by omega]
theorem r_make (d : Nat) (V : XM) {B K : Nat → Int} (hb : RB V B) (hg : GR V) {N P Q : Nat} (hN : (V 14 0 9) = (N : Int)) (hP : (V 14 0 3) = (P : Int)) (hP2 : P ≤ 12) (hQ : (V 14 0 29) = (Q : Int)) (h8 : Q ≤ 8) (he : ∀ t k, t < N → k < 8 → (V 95 0 (8 * t + k)) = 0 → (V 96 0 (8 * t + k)) = -9) (hK : ∀ (r : Nat) (C : Nat → Int), r < Q → (∀ x y : Nat, (x : Int) < (V 14 0 9) → (y : Int) < (V 14 0 9) → v01 (C (64 * x + y)) (rE V (r : Int) x y)) → cnt (gcB N C) (64 * N) = K r) : (¬ hasR B N → Yf (d + 30) 301 [xr 14 0] V = some (xi (-3), V)) ∧ (hasR B N → 0 < cnt (unsB V) N → Yf (d + 30) 301 [xr 14 0] V = some (xi (-3), V)) ∧ (hasR B N → ¬ 0 < cnt (unsB V) N → ∃ A C : Nat → Nat → Int, Yf (d + 30) 301 [xr 14 0] V = some (xi ((mkL V B K N P Q).length : Int), bS (ovr V A C) (mkL V B K N P Q))) := by
  obtain ⟨_, t1, t2, _⟩ := id hb
  have U := y_rUnsettled (d + 27) V t1 t2
  rw [show (V 14 0 9).toNat = N by omega] at U
  have x4 := x_m4 (d + 26) V hb hN N 0 (by omega) (by omega)
  have e0 : b2 (ff (fun t => decide (B t = 1)) 0 0 ≠ -9) = 0 := b2_0.mpr (fun z => z rfl)
  rw [e0] at x4
  have x4' : Xf (d + 29) 301 4 [xr 14 0, xi 0, xi 0, xr 0 0, xr 0 0] [] V = Xf (d + 29) 301 4 [xr 14 0, xi (b2 (ff (fun t => decide (B t = 1)) N 0 ≠ -9)), xi (N : Int), xr 0 0, xr 0 0] [] V := x4
  unfold hasR
  refine ⟨fun k => ?_, fun k u => ?_, fun k u => ?_⟩
  · rw [s_X12_make, x4', s_X12_make_4, hN, if_neg (by omega), ite_b2, if_neg k]
  · rw [s_X12_make, x4', s_X12_make_4, hN, if_neg (by omega), ite_b2, if_pos k, U, ci_r, if_pos u]
  · have lt := wtA_len hP2 (V 73 0) (plF V) (V 74 0) (pvF V) [(V 14 0 1), (V 14 0 9)] N
    have l2 : [(V 14 0 1), (V 14 0 9)].length = 2 := rfl
    have lr := wrA_len B (exF V) (wtA P (V 73 0) (plF V) (V 74 0) (pvF V) [(V 14 0 1), (V 14 0 9)] N) N
    have lc := wcA_len (V 90 0) K (wrA B (exF V) (wtA P (V 73 0) (plF V) (V 74 0) (pvF V) [(V 14 0 1), (V 14 0 9)] N) N) Q
    have x1 := x_m73 (d + 27) V hb hN hP hP2 [(V 14 0 1), (V 14 0 9)] rfl N 0 (by omega) (by omega)
    have x2 := x_m164 (d + 25) V hb hN he (wtA P (V 73 0) (plF V) (V 74 0) (pvF V) [(V 14 0 1), (V 14 0 9)] N) (by omega) N 0 (by omega) (by omega)
    obtain ⟨A, C, x3⟩ := x_m212 (d + 27) V hg hN hQ h8 hK (wrA B (exF V) (wtA P (V 73 0) (plF V) (V 74 0) (pvF V) [(V 14 0 1), (V 14 0 9)] N) N) (by omega) Q 0 (V 91) (V 94) (by omega) (by omega)
    have eo : ovr V (V 91) (V 94) = V := by
      funext g b c
      unfold ovr
      by_cases h1 : g = 91
      · rw [if_pos h1, h1]
      · rw [if_neg h1]
        by_cases h2 : g = 94
        · rw [if_pos h2, h2]
        · rw [if_neg h2]
    rw [eo] at x3
    refine ⟨A, C, ?_⟩
    have e0 : xu V 14 0 56 0 = bS V [] := by
      funext a b c
      show (if a = 14 ∧ b = 0 ∧ c = 56 then 0 else V a b c) = (if a = 14 ∧ b = 0 ∧ c = 56 then 0 else if a = 113 ∧ b = 0 then V 113 0 c else V a b c)
      by_cases c1 : a = 14 ∧ b = 0 ∧ c = 56
      · rw [if_pos c1, if_pos c1]
      · rw [if_neg c1, if_neg c1]
        by_cases c2 : a = 113 ∧ b = 0
        · rw [if_pos c2, c2.1, c2.2]
        · rw [if_neg c2]
    have e9 : ∀ l, (bS V l) 14 0 9 = (V 14 0 9) := fun l => rfl
    have x1' : Xf (d + 29) 301 73 [xr 14 0, xr 0 0, xi 0, xr 0 0, xr 0 0] [] (bS V [(V 14 0 1), (V 14 0 9)]) = Xf (d + 29) 301 164 [xr 14 0, xr 0 0, xi 0, xr 0 0, xr 0 0] [] (bS V (wtA P (V 73 0) (plF V) (V 74 0) (pvF V) [(V 14 0 1), (V 14 0 9)] N)) := x1
    have x2' : Xf (d + 29) 301 164 [xr 14 0, xr 0 0, xi 0, xr 0 0, xr 0 0] [] (bS V (wtA P (V 73 0) (plF V) (V 74 0) (pvF V) [(V 14 0 1), (V 14 0 9)] N)) = Xf (d + 29) 301 212 [xr 14 0, xr 0 0, xi 0, xr 0 0, xr 0 0] [] (bS V (wrA B (exF V) (wtA P (V 73 0) (plF V) (V 74 0) (pvF V) [(V 14 0 1), (V 14 0 9)] N) N)) := x2
    have x3' : Xf (d + 29) 301 212 [xr 14 0, xr 0 0, xi 0, xr 0 0, xr 0 0] [] (bS V (wrA B (exF V) (wtA P (V 73 0) (plF V) (V 74 0) (pvF V) [(V 14 0 1), (V 14 0 9)] N) N)) = some (xi (((wrA B (exF V) (wtA P (V 73 0) (plF V) (V 74 0) (pvF V) [(V 14 0 1), (V 14 0 9)] N) N).length + 2 * Q : Nat) : Int), bS (ovr V A C) (mkL V B K N P Q)) := x3
    rw [s_X12_make, x4', s_X12_make_4, if_neg (by rw [hN]; omega), ite_b2, if_pos k, U, ci_r, if_neg u, e0, y_addR _ V _ _ (by show 0 < 2048; omega), cv_r, e9, y_addR _ V _ _ (by show 1 < 2048; omega), cv_r, List.nil_append]
    show Xf (d + 29) 301 73 [xr 14 0, xr 0 0, xi 0, xr 0 0, xr 0 0] [] (bS V [(V 14 0 1), (V 14 0 9)]) = _
    rw [x1', x2', x3']
    have : (mkL V B K N P Q).length = (wrA B (exF V) (wtA P (V 73 0) (plF V) (V 74 0) (pvF V) [(V 14 0 1), (V 14 0 9)] N) N).length + 2 * Q := lc
    rw [this]
theorem Inv.make {V : XM} (h : Inv V) {L : List Int} (hL : L.length ≤ 1490) (A C : Nat → Nat → Int) : Inv (bS (ovr (aS V L) A C) L) := by
  obtain ⟨⟨ck1, ck2, ck3, cp1, cp2, cp3, ct1, ct2, ct3, cs1, cs2, cs3, cq1, cq2, cq3, cr1, cr2, cr3, cf1, cf2, cf3, cb1, cb2, cb3, cw1, cw2, cw3, clf, clc⟩, hkin, hpro, husu, hgiv, hthg, hhom, hput, hrin, hsen, hbar, hset, hmos, hpai, hrel, hmap, hdoo, hshe, htab, hwor⟩ := h
  refine ⟨⟨ck1, ck2, ck3, cp1, cp2, cp3, ct1, ct2, ct3, cs1, cs2, cs3, cq1, cq2, cq3, cr1, cr2, cr3, cf1, cf2, cf3, cb1, cb2, cb3, ?_, ?_, rfl, clf, clc⟩, hkin, hpro, husu, hgiv, hthg, hhom, hput, hrin, hsen, hbar, hset, hmos, hpai, hrel, hmap, hdoo, hshe, htab, ?_⟩
  · show 0 ≤ (L.length : Int); omega
  · show (L.length : Int) ≤ 1490; omega
  · intro i h0 h1
    have h1 : i < (L.length : Int) := h1
    show (L[i.toNat]?).getD (V 18 0 i.toNat) = (L[i.toNat]?).getD (V 113 0 i.toNat)
    have : L[i.toNat]? = some (L[i.toNat]'(by omega)) := List.getElem?_eq_getElem (by omega)
    rw [this]
    rfl
theorem g_make (d : Nat) (V : XM) (h : Inv V) : AG d 176 301 [] V := by
  have h' := h
  obtain ⟨⟨ck1, ck2, ck3, cp1, cp2, cp3, ct1, ct2, ct3, cs1, cs2, cs3, cq1, cq2, cq3, cr1, cr2, cr3, cf1, cf2, cf3, cb1, cb2, cb3, cw1, cw2, cw3, clf, clc⟩, hkin, hpro, husu, hgiv, hthg, hhom, hput, hrin, hsen, hbar, hset, hmos, hpai, hrel, hmap, hdoo, hshe, htab, hwor⟩ := h'
  obtain ⟨N, hN⟩ : ∃ n : Nat, (V 14 0 9) = (n : Int) := ⟨(V 14 0 9).toNat, by omega⟩
  obtain ⟨P, hP⟩ : ∃ n : Nat, (V 14 0 3) = (n : Int) := ⟨(V 14 0 3).toNat, by omega⟩
  obtain ⟨Q, hQ⟩ : ∃ n : Nat, (V 14 0 29) = (n : Int) := ⟨(V 14 0 29).toNat, by omega⟩
  obtain ⟨c1, c2, c3⟩ := c_make d V h hN hP hQ
  have he : ∀ t k, t < N → k < 8 → (V 95 0 (8 * t + k)) = 0 → (V 96 0 (8 * t + k)) = -9 := fun t k ht hk hs => by
    obtain ⟨_, m⟩ := hmap ((8 * t + k : Nat) : Int) (by omega) (by omega)
    obtain ⟨m1, m2, m3, m4, m5, m6, m7, m8, m9, m10⟩ := m (by omega)
    rw [Int.toNat_natCast] at m8
    exact m8 (.inl hs)
  have hK : ∀ (r : Nat) (C : Nat → Int), r < Q → (∀ x y : Nat, (x : Int) < (V 14 0 9) → (y : Int) < (V 14 0 9) → v01 (C (64 * x + y)) (rE V (r : Int) x y)) → cnt (gcB N C) (64 * N) = kcF V N r := fun r C hr hC => cc_eq h hN (by omega) hC
  by_cases k : hasR (V 21 0) N
  · by_cases u : 0 < cnt (unsB V) N
    · obtain ⟨r1, r2, r3⟩ := r_make d V h.rb h.gr hN hP (by omega) hQ (by omega) he hK
      exact AG.no h (c2 k u) (r2 k u)
    · obtain ⟨hl, hc⟩ := c3 k u
      obtain ⟨r1, r2, r3⟩ := r_make d (aS V (mkL V (V 21 0) (kcF V N) N P Q)) (B := (V 21 0)) (K := kcF V N) (N := N) (P := P) (Q := Q) (by exact h.rb) (by exact h.gr) (by exact hN) (by exact hP) (by omega) (by exact hQ) (by omega) (by exact he) (by exact hK)
      obtain ⟨A, C, hr⟩ := r3 k (by exact u)
      exact AG.mk hc hr (h.make hl A C) rfl
  · obtain ⟨r1, r2, r3⟩ := r_make d V h.rb h.gr hN hP (by omega) hQ (by omega) he hK
    exact AG.no h (c1 k) (r1 k)
