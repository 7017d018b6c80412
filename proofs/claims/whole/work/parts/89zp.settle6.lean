/-! settle -/
theorem x_r194 (d : Nat) (Y : XM) {N m : Nat} {un : Nat → Nat} {q : Nat → Int} (n n0 : Int) (hN : (Y 14 0 9) = (N : Int)) (h64 : N ≤ 64) (hU : UE Y N m un) (hn : (Y 14 0 22) = n0 ∧ 0 ≤ n0 ∧ n0 + m ≤ 300) (hq : ∀ k, k < N → Y 89 0 k = q k) : ∀ (s t j : Nat), N - t ≤ s → t ≤ N → j ≤ m → (∀ i, i < j → un i < t) → (∀ i, j ≤ i → i < m → t ≤ un i) → Xf (d + 3) 249 194 [xr 14 0, xi n, xr 0 0, xr 0 0, xr 0 0, xi (t : Int), xr 0 0] [] (rT Y un q n0 j) = some (xi n, rT Y un q n0 m) := by
  obtain ⟨U1, U2, U3⟩ := hU
  have r22 : ∀ j, (rT Y un q n0 j) 14 0 22 = n0 + j ∧ (rT Y un q n0 j) 14 0 9 = (N : Int) := by
    intro j
    induction j with
    | zero => exact ⟨by show Y 14 0 22 = _; omega, hN⟩
    | succ j ih => exact ⟨by show n0 + (j : Int) + 1 = n0 + ((j + 1 : Nat) : Int); omega, ih.2⟩
  have r80 : ∀ j, j ≤ m → ∀ k, (∀ i, i < j → un i ≠ k) → (rT Y un q n0 j) 80 0 k = Y 80 0 k := by
    intro j
    induction j with
    | zero => intro _ k _; rfl
    | succ j ih =>
      intro hj k hk
      have e80 : (rLay (rT Y un q n0 j) (un j : Int) (q (un j)) (n0 + j)) 80 0 = zup ((rT Y un q n0 j) 80 0) ((un j : Int).toNat) ((rT Y un q n0 j) 80 0 ((un j : Int).toNat) + 1) := xu_rw (rT Y un q n0 j) 80 0 _ _
      show (rLay (rT Y un q n0 j) (un j : Int) (q (un j)) (n0 + j)) 80 0 k = _
      rw [e80, Int.toNat_natCast, zup_ne (fun e => hk j (by omega) e.symm)]
      exact ih (by omega) k (fun i hi => hk i (by omega))
  have r81 : ∀ j, (rT Y un q n0 j) 81 = Y 81 := fun j => rT_ne Y un q n0 (by unfold inR; decide) j
  have r89 : ∀ j, (rT Y un q n0 j) 89 = Y 89 := fun j => rT_ne Y un q n0 (by unfold inR; decide) j
  have uns : ∀ j, j ≤ m → ∀ k, (∀ i, i < j → un i ≠ k) → unsB (rT Y un q n0 j) k = unsB Y k := fun j hj k hk => by
    unfold unsB
    rw [r81, r80 j hj k hk]
  intro s
  induction s with
  | zero =>
    intro t j hs ht hj h1 h2
    have hjm : j = m := by
      by_cases c : j < m
      · have := h2 j (Nat.le_refl j) c
        have := (U1 j c).1
        omega
      · omega
    rw [s_X12_settle_194, (r22 j).2, if_neg (by omega), hjm]
  | succ s ih =>
    intro t j hs ht hj h1 h2
    by_cases hlt : t < N
    · have hnt : ∀ i, i < j → un i ≠ t := fun i hi => by have := h1 i hi; omega
      have wt : Unit → w32 ((t : Int) + 1) = ((t + 1 : Nat) : Int) := fun _ => by rw [w32_i (by omega) (by omega)]; omega
      have F := y_rUns (d + 2) (rT Y un q n0 j) (t := (t : Int)) (by omega) (by omega)
      rw [Int.toNat_natCast, uns j hj t hnt] at F
      rw [s_X12_settle_194, (r22 j).2, if_pos (by omega), F, ci_r, ite_b2, wt ()]
      by_cases c : unsB Y t = true
      · obtain ⟨i, i1, i2⟩ := U3 t hlt c
        have hij : i = j := by
          by_cases a : i < j
          · exact absurd i2 (hnt i a)
          · by_cases b : j < i
            · have := U2 j i b i1
              have := h2 j (Nat.le_refl j) (by omega)
              omega
            · omega
        subst hij
        have e89 : (rT Y un q n0 i) 89 0 t = q t := by rw [r89]; exact hq t hlt
        have h80 : (rT Y un q n0 i) 80 0 ((t : Int).toNat) = 0 := by
          rw [Int.toNat_natCast, r80 i hj t hnt]
          exact (uns_h c).2
        have L := y_rLies (d + 1) (rT Y un q n0 i) (t := (t : Int)) (n := n0 + i) (q t) (by omega) (by omega) (by rw [h80]; omega) (r22 i).1 (by omega) (by omega)
        rw [if_pos c, if_pos (by omega), Int.toNat_natCast, e89, L, ci_r]
        have en : rLay (rT Y un q n0 i) (t : Int) (q t) (n0 + i) = rT Y un q n0 (i + 1) := by
          show _ = rLay (rT Y un q n0 i) (un i : Int) (q (un i)) (n0 + i)
          rw [i2]
        rw [en]
        refine ih (t + 1) (i + 1) (by omega) (by omega) (by omega) (fun x hx => ?_) (fun x hx1 hx2 => ?_)
        · by_cases e : x = i
          · subst e; omega
          · have := h1 x (by omega); omega
        · have := U2 i x (by omega) hx2
          omega
      · rw [if_neg c]
        refine ih (t + 1) j (by omega) (by omega) hj (fun x hx => by have := h1 x hx; omega) (fun x hx1 hx2 => ?_)
        have := h2 x hx1 hx2
        have hne : un x ≠ t := fun e => by
          have := (U1 x hx2).2
          rw [e] at this
          exact c this
        omega
    · have hjm : j = m := by
        by_cases c : j < m
        · have := h2 j (Nat.le_refl j) c
          have := (U1 j c).1
          omega
        · omega
      rw [s_X12_settle_194, (r22 j).2, if_neg (by omega), hjm]
def ovz (X Y : XM) : XM := fun g b c => if g = 50 ∨ g = 8 ∨ g = 89 then Y g b c else X g b c
theorem Inv.ovz {X : XM} (h : Inv X) (Y : XM) : Inv (ovz X Y) := by
  obtain ⟨h1, h2, h3, h4, h5, h6, h7, h8, h9, h10, h11, h12, h13, h14, h15, h16, h17, h18, h19, h20⟩ := h
  exact ⟨h1, h2, h3, h4, h5, h6, h7, h8, h9, h10, h11, h12, h13, h14, h15, h16, h17, h18, h19, h20⟩
def ovc (X Y : XM) : XM := fun g b c => if g = 33 ∨ g = 34 ∨ g = 35 ∨ g = 36 ∨ g = 6 ∨ g = 37 ∨ g = 38 ∨ g = 39 ∨ g = 43 ∨ g = 50 ∨ g = 8 then Y g b c else X g b c
/-- nothing was laid: only unread places of homes are other ones -/
theorem Inv.nolay {V : XM} (h : Inv V) {N : Nat} (hN : (V 14 0 9) = (N : Int)) {G P : Nat → Int} (hG : ∀ c, (∀ k, k < N → unsB V k = true → c ≠ 6 * k) → G c = V 37 0 c) (hP : ∀ k, ¬ (k < N ∧ unsB V k = true) → P k = V 39 0 k) : Inv (zS V G (V 38 0) P (V 43 0)) := by
  have h' := h
  obtain ⟨⟨ck1, ck2, ck3, cp1, cp2, cp3, ct1, ct2, ct3, cs1, cs2, cs3, cq1, cq2, cq3, cr1, cr2, cr3, cf1, cf2, cf3, cb1, cb2, cb3, cw1, cw2, cw3, clf, clc⟩, hkin, hpro, husu, hgiv, hthg, hhom, hput, hrin, hsen, hbar, hset, hmos, hpai, hrel, hmap, hdoo, hshe, htab, hwor⟩ := h'
  refine ⟨⟨ck1, ck2, ck3, cp1, cp2, cp3, ct1, ct2, ct3, cs1, cs2, cs3, cq1, cq2, cq3, cr1, cr2, cr3, cf1, cf2, cf3, cb1, cb2, cb3, cw1, cw2, cw3, clf, clc⟩, hkin, hpro, husu, hgiv, hthg, ?_, ?_, hrin, hsen, hbar, hset, hmos, hpai, hrel, hmap, hdoo, hshe, htab, hwor⟩
  · intro t k1 k2
    have k2 : t < (V 14 0 9) := k2
    obtain ⟨o1, o2, o3, o4, o5, o6⟩ := hhom t k1 k2
    refine ⟨o1, o2, o3, o4, o5, fun k l1 l2 => ?_⟩
    have l2 : k < (V 80 0 (t.toNat)) := l2
    have e : G (6 * t + k).toNat = V 37 0 (6 * t + k).toNat := hG _ (fun x hx hu e6 => by
      have : x = t.toNat := by omega
      subst this
      have := (uns_h hu).2
      omega)
    have := o6 k l1 l2
    rw [← e] at this
    exact this
  · refine ⟨fun t k1 k2 => ?_, hput.2⟩
    have k2 : t < (V 14 0 9) := k2
    obtain ⟨p1, p2⟩ := hput.1 t k1 k2
    refine ⟨fun a b => ?_, p2⟩
    have b : 0 < (V 80 0 (t.toNat)) := b
    have e : P t.toNat = V 39 0 t.toNat := hP _ (fun z => by
      have := (uns_h z.2).2
      omega)
    show P t.toNat = _
    rw [e]
    exact p1 a b
theorem pv_all {V : XM} (h : Inv V) {N m : Nat} {un : Nat → Nat} {q : Nat → Int} (hN : (V 14 0 9) = (N : Int)) (hU : UE V N m un) (hm : (V 14 0 22) + m ≤ 300) (hd : dfs (ltB V (V 21 0) N) (unsB V) (V 81 0) N 0 (p0F V (V 21 0) N) = some q) : ∀ j, j ≤ m → PVI V N un q (V 14 0 22) (p0F V (V 21 0) N) j ∧ ∃ a, (∀ i, i < j → un i < a) ∧ (j < m → a ≤ un j) ∧ gq V N (cj (p0F V (V 21 0) N) un q j) a := by
  obtain ⟨f1, f2, f3, f4, f5, f6⟩ := st_facts h hN
  obtain ⟨U1, U2, U3⟩ := id hU
  obtain ⟨p1, p2⟩ := dfs_path N 0 _ hd
  have hin := h
  obtain ⟨⟨ck1, ck2, ck3, cp1, cp2, cp3, ct1, ct2, ct3, cs1, cs2, cs3, cq1, cq2, cq3, cr1, cr2, cr3, cf1, cf2, cf3, cb1, cb2, cb3, cw1, cw2, cw3, clf, clc⟩, hkin, hpro, husu, hgiv, hthg, hhom, hput, hrin, hsen, hbar, hset, hmos, hpai, hrel, hmap, hdoo, hshe, htab, hwor⟩ := hin
  clear hkin hpro husu hgiv hthg hput hrin hbar hset hmos hpai hrel hmap hdoo hshe htab hwor hsen ck1 ck2 ck3 cp1 cp2 cp3 cq1 cq2 cq3 cr1 cr2 cr3 cf1 cf2 cf3 cb1 cb2 cb3 cw1 cw2 cw3 clf clc
  intro j
  induction j with
  | zero =>
    intro _
    refine ⟨⟨h, by show (V 14 0 22) = (V 14 0 22) + ((0 : Nat) : Int); omega, rfl, rfl, rfl, rfl, fun s _ => ⟨rfl, rfl, rfl, rfl⟩, fun s s1 s2 => by omega, fun k hk hB => ?_⟩, 0, fun i hi => by omega, fun _ => by omega, f6⟩
    show (V 80 0 k = 0 ↔ p0F V (V 21 0) N k = -9) ∧ (p0F V (V 21 0) N k ≠ -9 → V 78 0 (6 * k) = p0F V (V 21 0) N k)
    rw [p0_bp hk]
    unfold bp
    rw [if_neg hB]
    obtain ⟨o1, o2, o3, o4, o5, o6⟩ := hhom (k : Int) (by omega) (by omega)
    rw [Int.toNat_natCast] at o2
    by_cases c : (V 80 0 k) = 0
    · rw [if_pos c]
      exact ⟨⟨fun _ => rfl, fun _ => c⟩, fun z => absurd rfl z⟩
    · rw [if_neg c]
      obtain ⟨q1, q2, q3, q4, _⟩ := o6 0 (by omega) (by rw [Int.toNat_natCast]; omega)
      rw [show (6 * (k : Int) + 0).toNat = 6 * k by omega] at q2
      exact ⟨⟨fun z => absurd z c, fun z => by omega⟩, fun _ => rfl⟩
  | succ j ih =>
    intro hj
    obtain ⟨i1, a, i2, i3, i4⟩ := ih (by omega)
    obtain ⟨u1, u2⟩ := U1 j (by omega)
    obtain ⟨w, w1, w2, w3, w4⟩ := p2 (un j) (by omega) (by omega) u2
    have ecut : cutp q (p0F V (V 21 0) N) (un j) = cj (p0F V (V 21 0) N) un q j := by
      obtain ⟨c1, c2⟩ := cj_un (p := p0F V (V 21 0) N) (q := q) (m := m) U2 j (by omega)
      funext x
      unfold cutp
      by_cases hx : x < un j
      · rw [if_pos hx]
        cases hu : unsB V x with
        | true =>
          obtain ⟨i, e1, e2⟩ := U3 x (by omega) hu
          have hij : i < j := by
            by_cases z : i < j
            · exact z
            · by_cases z2 : i = j
              · subst z2; omega
              · have := U2 j i (by omega) e1; omega
          rw [← e2, c1 i hij]
        | false =>
          rw [c2 x (fun i hi e => by have := (U1 i (by omega)).2; rw [e, hu] at this; cases this), p1 x (.inr (.inr hu))]
      · rw [if_neg hx, c2 x (fun i hi e => by have := U2 i j hi (by omega); omega)]
    rw [ecut] at w4
    have gqj := i4.to (i3 (by omega))
    have hBw : (V 21 0 w) ≠ 3 := by
      rcases (f3 (un j) w u1 u2 w1 w2).1 with z | z | z <;> omega
    have st := pv_step h hN hU hm (by omega) w3 w1 w2 w4 gqj i1
    refine ⟨st, un j + 1, fun i hi => ?_, fun hjm => ?_, ?_⟩
    · by_cases e : i = j
      · subst e; omega
      · have := U2 i j (by omega) (by omega); omega
    · have := U2 j (j + 1) (by omega) hjm; omega
    · have := gqj.up h hN f2 u1 u2 w1 w2 hBw w4
      show gq V N (zup (cj (p0F V (V 21 0) N) un q j) (un j) (q (un j))) (un j + 1)
      rw [w3]
      exact this
