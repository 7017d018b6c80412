/-! settle: lay and lift, from one unsettled thing to the next -/
def UN (Z : XM) (N m : Nat) (un : Nat → Nat) : Prop := m ≤ 7 ∧ Z 8 0 3 = (m : Int) ∧ (∀ i, i < m → Z 50 0 i = (un i : Int) ∧ un i < N ∧ unsB Z (un i) = true) ∧ (∀ i j, i < j → j < m → un i < un j) ∧ (∀ k, k < N → unsB Z k = true → ∃ i, i < m ∧ un i = k)
def CM (Z : XM) (N m : Nat) (un : Nat → Nat) (n0 : Int) (p : Nat → Int) (W : XM) : Prop := ∃ G P : Nat → Int, W = zS Z G (hcF Z N p) P (inF Z N p) ∧ hmG Z N p G ∧ (∀ i, i < m → p (un i) ≠ -9 → P (un i) = n0 + i) ∧ (∀ k, ¬ (k < N ∧ unsB Z k = true) → P k = Z 39 0 k)
theorem hcF_up {Z : XM} {N t : Nat} {p : Nat → Int} {w : Int} (ht : t < N) (hu : unsB Z t = true) (hw : w ≠ -9) : hcF Z N (zup p t w) = zup (hcF Z N p) t 1 := by
  funext k
  by_cases c : k = t
  · subst c
    rw [zup_eq]
    unfold hcF
    rw [zup_eq, if_pos ⟨ht, hu, hw⟩]
  · rw [zup_ne c]
    unfold hcF
    rw [zup_ne c]
theorem inF_up {Z : XM} {N t w : Nat} {p : Nat → Int} (ht : t < N) (hu : unsB Z t = true) (hp : p t = -9) : inF Z N (zup p t (w : Int)) = zup (inF Z N p) w (inF Z N p w + 1) := by
  funext x
  by_cases c : x = w
  · subst c
    rw [zup_eq]
    unfold inF
    rw [cnt_up (f := fun k => decide (unsB Z k = true ∧ p k = (x : Int))) (g := fun k => decide (unsB Z k = true ∧ zup p t (x : Int) k = (x : Int))) (j := t) (by rw [decide_eq_false_iff_not]; exact fun z => by have := z.2; omega) (by rw [decide_eq_true_eq]; exact ⟨hu, zup_eq _ _ _⟩) ht (fun k _ hk => by simp only [zup_ne hk])]
    omega
  · rw [zup_ne c]
    unfold inF
    congr 1
    refine cnt_congr (fun k hk => ?_)
    by_cases e : k = t
    · subst e
      rw [zup_eq, hp]
      exact decide_eq_decide.mpr ⟨fun z => by have := z.2; omega, fun z => by have := z.2; omega⟩
    · rw [zup_ne e]
theorem y_wlay (d : Nat) {Z : XM} (h : Inv Z) {N m : Nat} {un : Nat → Nat} {n0 : Int} (hN : (Z 14 0 9) = (N : Int)) (hU : UN Z N m un) {p : Nat → Int} {a i w : Nat} {W : XM} (hq : gq Z N p a) (hC : CM Z N m un n0 p W) (hi : i < m) (ha : a ≤ un i) (hw : w < N) : ∃ W', CM Z N m un n0 (zup p (un i) (w : Int)) W' ∧ Yf (d + 1) 13 [xr 7 0, xi (un i : Int), xi (w : Int), xi (n0 + i)] W = some (xi 0, W') := by
  obtain ⟨u1, u2, u3, u4, u5⟩ := hU
  obtain ⟨a1, a2, a3⟩ := u3 i hi
  obtain ⟨G, P, e, hG, hP1, hP2⟩ := hC
  have hp := hq.1.2.2.2.2.2 (un i) a2 ha a3
  have t2 : (Z 14 0 9) ≤ 64 := h.1.2.2.2.2.2.2.2.1
  have hB : (Z 21 0 (un i)) ≠ 3 := by
    obtain ⟨⟨ck1, ck2, ck3, cp1, cp2, cp3, ct1, ct2, ct3, cs1, cs2, cs3, cq1, cq2, cq3, cr1, cr2, cr3, cf1, cf2, cf3, cb1, cb2, cb3, cw1, cw2, cw3, clf, clc⟩, hkin, hpro, husu, hgiv, hthg, hhom, hput, hrin, hsen, hbar, hset, hmos, hpai, hrel, hmap, hdoo, hshe, htab, hwor⟩ := h
    obtain ⟨s1, s2, s3, s4, s5⟩ := hset (un i : Int) (by omega) (by omega)
    rw [Int.toNat_natCast] at s3
    rcases s3 with s3 | s3
    · exact absurd s3.1 (uns_h a3).1
    · rcases s3.2.2.2.2.2 with z | z | z <;> omega
  obtain ⟨c1, c2, c3, c4⟩ := cm_home h hN hq.2.1 hG a2 hB
  have hc0 : hcF Z N p (un i) = 0 := by
    have : ¬ 0 < hcF Z N p (un i) := fun z => c3.mp z hp
    omega
  have iC := inF_C h hN hq.2.1 hw
  have ib : 0 ≤ inF Z N p w ∧ inF Z N p w ≤ 64 := by
    rw [iC]
    have := cnt_b (fun k => decide ((Z 21 0 k) ≠ 3 ∧ p k = (w : Int))) N
    unfold inC
    omega
  have e38 : W 38 0 ((un i : Int).toNat) = 0 := by rw [e, Int.toNat_natCast]; exact hc0
  have e43 : W 43 0 ((w : Int).toNat) = inF Z N p w := by rw [e, Int.toNat_natCast]; rfl
  have e21 : W 21 0 ((un i : Int).toNat) = (Z 21 0 (un i)) := by rw [e, Int.toNat_natCast]; rfl
  have L := y_lay d W (t := (un i : Int)) (w := (w : Int)) (n0 + i) (by omega) (by omega) (by omega) (by omega) (by rw [e38]; omega) (by rw [e21]; exact hB) (by rw [e43]; exact ib)
  refine ⟨_, ?_, L⟩
  unfold cLay
  rw [e38, e43, e, Int.toNat_natCast, Int.toNat_natCast, show (6 * (un i : Int) + 0).toNat = 6 * un i by omega, zS_u37, zS_u38, zS_u39, zS_u43]
  refine ⟨zup G (6 * un i) (w : Int), zup P (un i) (n0 + i), ?_, ⟨fun k hk hu hpk => ?_, fun c hc => ?_⟩, fun j hj hpj => ?_, fun k hk => ?_⟩
  · rw [hcF_up a2 a3 (by omega), inF_up a2 a3 hp]
    rfl
  · by_cases c : k = un i
    · subst c; rw [zup_eq, zup_eq]
    · rw [zup_ne c] at hpk
      rw [zup_ne (by omega), zup_ne c]
      exact hG.1 k hk hu hpk
  · rw [zup_ne (hc (un i) a2 a3)]
    exact hG.2 c hc
  · by_cases c : un j = un i
    · have : j = i := by
        by_cases c1 : j < i
        · have := u4 j i c1 hi; omega
        · by_cases c2 : i < j
          · have := u4 i j c2 hj; omega
          · omega
      subst this
      rw [zup_eq]
    · rw [zup_ne c] at hpj ⊢
      exact hP1 j hj hpj
  · rw [zup_ne (fun z => hk (by rw [z]; exact ⟨a2, a3⟩))]
    exact hP2 k hk
theorem y_wlift (d : Nat) {Z : XM} (h : Inv Z) {N m : Nat} {un : Nat → Nat} {n0 : Int} (hN : (Z 14 0 9) = (N : Int)) (hU : UN Z N m un) {p : Nat → Int} {a i w : Nat} {W : XM} (hq : gq Z N p a) (hC : CM Z N m un n0 (zup p (un i) (w : Int)) W) (hi : i < m) (ha : a ≤ un i) (hw : w < N) : ∃ W', CM Z N m un n0 p W' ∧ Yf (d + 1) 14 [xr 7 0, xi (un i : Int)] W = some (xi 0, W') := by
  obtain ⟨u1, u2, u3, u4, u5⟩ := hU
  obtain ⟨a1, a2, a3⟩ := u3 i hi
  obtain ⟨G, P, e, hG, hP1, hP2⟩ := hC
  have hp := hq.1.2.2.2.2.2 (un i) a2 ha a3
  have t2 : (Z 14 0 9) ≤ 64 := h.1.2.2.2.2.2.2.2.1
  have h38 : Z 38 0 (un i) = 0 := by
    obtain ⟨⟨ck1, ck2, ck3, cp1, cp2, cp3, ct1, ct2, ct3, cs1, cs2, cs3, cq1, cq2, cq3, cr1, cr2, cr3, cf1, cf2, cf3, cb1, cb2, cb3, cw1, cw2, cw3, clf, clc⟩, hkin, hpro, husu, hgiv, hthg, hhom, hput, hrin, hsen, hbar, hset, hmos, hpai, hrel, hmap, hdoo, hshe, htab, hwor⟩ := h
    obtain ⟨o1, _⟩ := hhom (un i : Int) (by omega) (by omega)
    rw [Int.toNat_natCast] at o1
    rw [o1]
    exact (uns_h a3).2
  have g6 : G (6 * un i) = (w : Int) := by
    have := hG.1 (un i) a2 a3 (by rw [zup_eq]; omega)
    rw [zup_eq] at this
    exact this
  have ib := (cnt_b (fun k => decide ((Z 21 0 k) ≠ 3 ∧ p k = (w : Int))) N)
  have iC : inF Z N p w = cnt (fun k => decide ((Z 21 0 k) ≠ 3 ∧ p k = (w : Int))) N := inF_C h hN hq.2.1 hw
  have e37 : W 37 0 (6 * un i) = (w : Int) := by rw [e]; exact g6
  have e43 : W 43 0 w = inF Z N p w + 1 := by
    rw [e]
    show inF Z N (zup p (un i) (w : Int)) w = _
    rw [inF_up a2 a3 hp, zup_eq]
  have w6 : Unit → w32 ((un i : Int) * 6) = ((6 * un i : Nat) : Int) := fun _ => by rw [w32_i (by omega) (by omega)]; omega
  have w1 : Unit → w32 (inF Z N p w + 1 - 1) = inF Z N p w := fun _ => by rw [w32_i (by omega) (by omega)]; omega
  have r6 : 0 ≤ (un i : Int) ∧ (un i : Int) < 64 := by omega
  have rw' : 0 ≤ (w : Int) ∧ (w : Int) < 64 := by omega
  have L : Yf (d + 1) 14 [xr 7 0, xi (un i : Int)] W = some (xi 0, xu (xu (xu W 43 0 w (inF Z N p w)) 38 0 (un i) 0) 39 0 (un i) (-9)) := by
    rw [s_X1_lift, w6 (), if_pos (by omega), Int.toNat_natCast, e37, if_pos rw', if_pos rw', if_pos r6, if_pos r6, Int.toNat_natCast, e43, w1 (), Int.toNat_natCast]
  refine ⟨_, ?_, L⟩
  rw [e, zS_u43, zS_u38, zS_u39]
  refine ⟨G, zup P (un i) (-9), ?_, ⟨fun k hk hu hpk => ?_, fun c hc => hG.2 c hc⟩, fun j hj hpj => ?_, fun k hk => ?_⟩
  · have q1 : zup (hcF Z N (zup p (un i) (w : Int))) (un i) 0 = hcF Z N p := by
      rw [hcF_up a2 a3 (by omega)]
      funext k
      by_cases c : k = un i
      · subst c
        rw [zup_eq]
        unfold hcF
        rw [if_neg (fun z => z.2.2 hp), h38]
      · rw [zup_ne c, zup_ne c]
    have q2 : zup (inF Z N (zup p (un i) (w : Int))) w (inF Z N p w) = inF Z N p := by
      rw [inF_up a2 a3 hp]
      funext k
      by_cases c : k = w
      · subst c; rw [zup_eq]
      · rw [zup_ne c, zup_ne c]
    rw [q1, q2]
  · by_cases c : k = un i
    · subst c; exact absurd hp hpk
    · have := hG.1 k hk hu (by rw [zup_ne c]; exact hpk)
      rw [zup_ne c] at this
      exact this
  · by_cases c : un j = un i
    · rw [c] at hpj; exact absurd hp hpj
    · rw [zup_ne c]
      have := hP1 j hj (by rw [zup_ne c]; exact hpj)
      exact this
  · rw [zup_ne (fun z => hk (by rw [z]; exact ⟨a2, a3⟩))]
    exact hP2 k hk
theorem dfs_skip {L : (Nat → Int) → Nat → Nat → Bool} {u : Nat → Bool} {S : Nat → Int} {N : Nat} (p : Nat → Int) : ∀ (n a b : Nat), b - a = n → a ≤ b → b ≤ N → (∀ k, a ≤ k → k < b → u k = false) → dfs L u S (N - a) a p = dfs L u S (N - b) b p := by
  intro n
  induction n with
  | zero => intro a b hn h1 h2 _; rw [show a = b by omega]
  | succ n ih =>
    intro a b hn h1 h2 h
    rw [show N - a = (N - (a + 1)) + 1 by omega]
    show (if u a = true then _ else dfs L u S (N - (a + 1)) (a + 1) p) = _
    rw [if_neg (by rw [h a (by omega) (by omega)]; simp)]
    exact ih (a + 1) b (by omega) (by omega) h2 (fun k k1 k2 => h k (by omega) k2)
theorem gq.up {Z : XM} (h : Inv Z) {N : Nat} (hN : (Z 14 0 9) = (N : Int)) {p : Nat → Int} {t w : Nat} (g : gv Z (Z 21 0) N (unsB Z) (Z 81 0)) (hq : gq Z N p t) (ht : t < N) (hu : unsB Z t = true) (hw : w < 64) (hs : bt (Z 81 0 t) w = true) (hB : (Z 21 0 w) ≠ 3) (hl : ltB Z (Z 21 0) N p t w = true) : gq Z N (zup p t (w : Int)) (t + 1) := by
  obtain ⟨q1, q2, q3⟩ := hq
  refine ⟨q1.up g ht hu hw hs hl, fun k hk huk => ?_, fun k hk hpk => ?_⟩
  · rw [zup_ne (fun z => by rw [z, hu] at huk; cases huk)]
    exact q2 k hk huk
  · by_cases c : k = t
    · subst c
      rw [zup_eq, Int.toNat_natCast]
      exact hB
    · rw [zup_ne c] at hpk ⊢
      exact q3 k hk hpk
theorem gq.to {Z : XM} {N : Nat} {p : Nat → Int} {a b : Nat} (hq : gq Z N p a) (hab : a ≤ b) : gq Z N p b := by
  obtain ⟨⟨h1, h2, h3, h4, h5, h6⟩, q2, q3⟩ := hq
  exact ⟨⟨h1, h2, h3, h4, h5, fun k hk hkb => h6 k hk (by omega)⟩, q2, q3⟩
theorem x_layF (d : Nat) {Z : XM} (h : Inv Z) {N m : Nat} {un : Nat → Nat} {n0 : Int} (hN : (Z 14 0 9) = (N : Int)) (hU : UN Z N m un) (hn0 : 0 ≤ n0 ∧ n0 ≤ 300) (g : gv Z (Z 21 0) N (unsB Z) (Z 81 0)) (hSB : ∀ t w, t < N → unsB Z t = true → w < 64 → bt (Z 81 0 t) w = true → (Z 21 0 w) ≠ 3) : ∀ (j i a : Nat) (p : Nat → Int) (W : XM), i + j = m → (∀ i', i' < i → un i' < a) → (i < m → a ≤ un i) → a ≤ N → gq Z N p a → CM Z N m un n0 p W →
    (∀ q, dfs (ltB Z (Z 21 0) N) (unsB Z) (Z 81 0) (N - a) a p = some q → ∃ W', CM Z N m un n0 q W' ∧ Yf (d + j + 6) 70 [xr 8 0, xi (i : Int), xi n0] W = some (xi 1, W')) ∧
    (dfs (ltB Z (Z 21 0) N) (unsB Z) (Z 81 0) (N - a) a p = none → ∃ W', CM Z N m un n0 p W' ∧ Yf (d + j + 6) 70 [xr 8 0, xi (i : Int), xi n0] W = some (xi 0, W')) := by
  obtain ⟨u1, u2, u3, u4, u5⟩ := id hU
  have t2 : N ≤ 64 := g.1
  have t3 : (Z 4 0 7) = (Z 14 0 9) := h.1.2.2.2.2.2.2.2.2.1
  have eW : ∀ (p : Nat → Int) (W : XM), CM Z N m un n0 p W → W 8 0 3 = (m : Int) ∧ W 4 0 7 = (N : Int) ∧ (∀ i, i < m → W 50 0 i = (un i : Int)) ∧ (∀ k, W 41 0 k = Z 41 0 k) := fun p W hC => by
    obtain ⟨G, P, e, _⟩ := hC
    subst e
    exact ⟨u2, by show Z 4 0 7 = _; omega, fun i hi => (u3 i hi).1, fun k => rfl⟩
  intro j
  induction j with
  | zero =>
    intro i a p W hij hpre hnx ha hq hC
    have hsk := dfs_skip (L := ltB Z (Z 21 0) N) (u := unsB Z) (S := Z 81 0) (N := N) p (N - a) a N rfl ha (Nat.le_refl N) (fun k k1 k2 => by
      cases hu : unsB Z k with
      | false => rfl
      | true =>
        obtain ⟨i', h1, h2⟩ := u5 k k2 hu
        have := hpre i' (by omega)
        omega)
    rw [hsk, Nat.sub_self]
    have hx : Yf (d + 0 + 6) 70 [xr 8 0, xi (i : Int), xi n0] W = some (xi 1, W) := by
      rw [s_X5_layFrom, (eW p W hC).1, if_neg (by omega)]
    refine ⟨fun q hqq => ?_, fun hn => by cases hn⟩
    have : p = q := by
      have hqq : some p = some q := hqq
      simpa using hqq
    subst this
    exact ⟨W, hC, hx⟩
  | succ j ih =>
    intro i a p W hij hpre hnx ha hq hC
    have hi : i < m := by omega
    obtain ⟨a1, a2, a3⟩ := u3 i hi
    have hau := hnx hi
    have hsk := dfs_skip (L := ltB Z (Z 21 0) N) (u := unsB Z) (S := Z 81 0) (N := N) p (un i - a) a (un i) rfl hau (by omega) (fun k k1 k2 => by
      cases hu : unsB Z k with
      | false => rfl
      | true =>
        obtain ⟨i', h1, h2⟩ := u5 k (by omega) hu
        by_cases c : i' < i
        · have := hpre i' c; omega
        · by_cases c2 : i' = i
          · subst c2; omega
          · have := u4 i i' (by omega) h1; omega)
    have hqu : gq Z N p (un i) := hq.to hau
    have hset : Z 41 0 (un i) = (Z 81 0 (un i)) := by
      obtain ⟨⟨ck1, ck2, ck3, cp1, cp2, cp3, ct1, ct2, ct3, cs1, cs2, cs3, cq1, cq2, cq3, cr1, cr2, cr3, cf1, cf2, cf3, cb1, cb2, cb3, cw1, cw2, cw3, clf, clc⟩, hkin, hpro, husu, hgiv, hthg, hhom, hput, hrin, hsen, hbar, hset, hmos, hpai, hrel, hmap, hdoo, hshe, htab, hwor⟩ := h
      have := (hset (un i : Int) (by omega) (by omega)).1
      rw [Int.toNat_natCast] at this
      exact this
    have hd : dfs (ltB Z (Z 21 0) N) (unsB Z) (Z 81 0) (N - un i) (un i) p = sr1 (fun w => if ltB Z (Z 21 0) N p (un i) w = true then dfs (ltB Z (Z 21 0) N) (unsB Z) (Z 81 0) (N - (un i + 1)) (un i + 1) (zup p (un i) (w : Int)) else none) (Z 81 0 (un i)) 64 0 := by
      rw [show N - un i = (N - (un i + 1)) + 1 by omega]
      show (if unsB Z (un i) = true then _ else _) = _
      rw [if_pos a3]
    have wi1 : Unit → w32 ((i : Int) + 1) = ((i + 1 : Nat) : Int) := fun _ => by rw [w32_i (by omega) (by omega)]; omega
    have wn : Unit → w32 (n0 + (i : Int)) = n0 + i := fun _ => w32_i (by omega) (by omega)
    have loop : ∀ (k w : Nat) (W : XM), w + k = N → CM Z N m un n0 p W →
        (∀ q, sr1 (fun w => if ltB Z (Z 21 0) N p (un i) w = true then dfs (ltB Z (Z 21 0) N) (unsB Z) (Z 81 0) (N - (un i + 1)) (un i + 1) (zup p (un i) (w : Int)) else none) (Z 81 0 (un i)) (64 - w) w = some q → ∃ W', CM Z N m un n0 q W' ∧ Xf (d + j + 6) 70 30 [xr 8 0, xi (i : Int), xi n0, xi (un i : Int), xl (Z 81 0 (un i)), xr 0 0, xi (w : Int)] [] W = some (xi 1, W')) ∧
        (sr1 (fun w => if ltB Z (Z 21 0) N p (un i) w = true then dfs (ltB Z (Z 21 0) N) (unsB Z) (Z 81 0) (N - (un i + 1)) (un i + 1) (zup p (un i) (w : Int)) else none) (Z 81 0 (un i)) (64 - w) w = none → ∃ W', CM Z N m un n0 p W' ∧ Xf (d + j + 6) 70 30 [xr 8 0, xi (i : Int), xi n0, xi (un i : Int), xl (Z 81 0 (un i)), xr 0 0, xi (w : Int)] [] W = some (xi 0, W')) := by
      intro k
      induction k with
      | zero =>
        intro w W hw hC
        have hn := sr1_none (f := fun w => if ltB Z (Z 21 0) N p (un i) w = true then dfs (ltB Z (Z 21 0) N) (unsB Z) (Z 81 0) (N - (un i + 1)) (un i + 1) (zup p (un i) (w : Int)) else none) (s := Z 81 0 (un i)) (a := w) (by omega) (fun x x1 x2 => by
          cases hz : bt (Z 81 0 (un i)) x with
          | false => rfl
          | true => have := (g.2.2.1 (un i) x a2 a3 x2 hz).1; omega)
        refine ⟨fun q hqq => (by rw [hn] at hqq; cases hqq), fun _ => ⟨W, hC, ?_⟩⟩
        rw [s_X5_layFrom_30, (eW p W hC).2.1, if_neg (by omega)]
      | succ k ihk =>
        intro w W hw hC
        have hwN : w < N := by omega
        have w64 : w < 64 := by omega
        have ww : Unit → w32 ((w : Int) + 1) = ((w + 1 : Nat) : Int) := fun _ => by rw [w32_i (by omega) (by omega)]; omega
        rw [s_X5_layFrom_30, (eW p W hC).2.1, if_pos (c := (w : Int) < (N : Int)) (by omega), s_X11_bit, cl_r]
        simp only [cmp3_eq]
        rw [show 64 - w = (64 - (w + 1)) + 1 by omega, sr1_s]
        by_cases hb : bt (Z 81 0 (un i)) w = true
        · have hBw := hSB (un i) w a2 a3 w64 hb
          have hlets : Yf (d + j + 6) 71 [xr 8 0, xi (un i : Int), xi (w : Int)] W = some (xi (b2 (ltB Z (Z 21 0) N p (un i) w = true)), W) := by
            obtain ⟨G, P, e, hG, _⟩ := id hC
            subst e
            have := y_lets (d + j + 2) h hN hqu hG (P := P) (t := un i) a2 hwN hBw
            rw [show d + j + 2 + 4 = d + j + 6 by omega] at this
            exact this
          rw [if_pos hb, if_neg (c := lAnd (Z 81 0 (un i)) (lShl 1 (w : Int)) = 0) (fun z => (bt_nat _ w64).mp z hb), hlets, ci_r, ite_b2]
          by_cases hl : ltB Z (Z 21 0) N p (un i) w = true
          · rw [if_pos hl, if_pos hl, wn ()]
            obtain ⟨W1, c1, y1⟩ := y_wlay (d + j + 5) h hN hU hqu hC hi (Nat.le_refl _) hwN
            rw [show d + j + 5 + 1 = d + j + 6 by omega] at y1
            rw [y1, cv_r, wi1 ()]
            have hqn := hqu.up h hN g a2 a3 w64 hb hBw hl
            obtain ⟨r1, r2⟩ := ih (i + 1) (un i + 1) (zup p (un i) (w : Int)) W1 (by omega) (fun i' hi' => by
              by_cases c : i' = i
              · subst c; omega
              · have := u4 i' i (by omega) hi; omega) (fun hi1 => by have := u4 i (i + 1) (by omega) hi1; omega) (by omega) hqn c1
            cases hf : dfs (ltB Z (Z 21 0) N) (unsB Z) (Z 81 0) (N - (un i + 1)) (un i + 1) (zup p (un i) (w : Int)) with
            | some q' =>
              obtain ⟨W2, c2, y2⟩ := r1 q' hf
              refine ⟨fun q hqq => ⟨W2, ?_, ?_⟩, fun hn => by cases hn⟩
              · have : q' = q := by
                  have hqq : some q' = some q := hqq
                  simpa using hqq
                rw [← this]; exact c2
              · rw [y2, ci_r, if_neg (by omega)]
            | none =>
              obtain ⟨W2, c2, y2⟩ := r2 hf
              obtain ⟨W3, c3, y3⟩ := y_wlift (d + j + 5) h hN hU hqu c2 hi (Nat.le_refl _) hwN
              rw [show d + j + 5 + 1 = d + j + 6 by omega] at y3
              rw [y2, ci_r, if_pos (c := (0 : Int) = 0) rfl, y3, cv_r, ww ()]
              exact ihk (w + 1) W3 (by omega) c3
          · rw [if_neg hl, if_neg hl, ww ()]
            exact ihk (w + 1) W (by omega) hC
        · rw [if_neg hb, if_pos (c := lAnd (Z 81 0 (un i)) (lShl 1 (w : Int)) = 0) ((bt_nat _ w64).mpr hb), ww ()]
          exact ihk (w + 1) W (by omega) hC
    have hY : Yf (d + (j + 1) + 6) 70 [xr 8 0, xi (i : Int), xi n0] W = Xf (d + j + 6) 70 30 [xr 8 0, xi (i : Int), xi n0, xi (un i : Int), xl (Z 81 0 (un i)), xr 0 0, xi ((0 : Nat) : Int)] [] W := by
      obtain ⟨e1, e2, e3, e4⟩ := eW p W hC
      have F : Yf (d + j + 6) 24 [xr 7 0, xi (un i : Int)] W = some (xl (Z 81 0 (un i)), W) := by
        rw [show d + j + 6 = (d + j + 5) + 1 by omega, s_X1_setOf, if_pos (by omega), Int.toNat_natCast, e4, hset]
      rw [show d + (j + 1) + 6 = (d + j + 6) + 1 by omega, s_X5_layFrom, e1, if_pos (by omega), if_pos (by omega), Int.toNat_natCast, e3 i hi, F, cl_r]
      rfl
    rw [hsk, hd, hY]
    exact loop N 0 W (by omega) hC
