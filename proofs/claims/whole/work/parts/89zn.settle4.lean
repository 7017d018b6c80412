/-! settle: the way that is found, thing by thing -/
def pv (V : XM) (un : Nat → Nat) (q : Nat → Int) (n0 : Int) : Nat → XM
  | 0 => V
  | j + 1 => rLay (xu (cLay (cTell (pv V un q n0 j) (n0 + j) 0 (un j : Int) (q (un j)) (-9)) (un j : Int) (q (un j)) (n0 + j)) 43 0 (q (un j)).toNat ((pv V un q n0 j) 43 0 (q (un j)).toNat + 1)) (un j : Int) (q (un j)) (n0 + j)
def cj (p : Nat → Int) (un : Nat → Nat) (q : Nat → Int) : Nat → (Nat → Int)
  | 0 => p
  | j + 1 => zup (cj p un q j) (un j) (q (un j))
/-- the i-th of m unsettled things -/
def UE (V : XM) (N m : Nat) (un : Nat → Nat) : Prop := (∀ i, i < m → un i < N ∧ unsB V (un i) = true) ∧ (∀ i j, i < j → j < m → un i < un j) ∧ (∀ k, k < N → unsB V k = true → ∃ i, i < m ∧ un i = k)
theorem cj_un {p : Nat → Int} {un : Nat → Nat} {q : Nat → Int} {m : Nat} (hi : ∀ i j, i < j → j < m → un i < un j) : ∀ (j : Nat), j ≤ m → (∀ i, i < j → cj p un q j (un i) = q (un i)) ∧ (∀ k, (∀ i, i < j → un i ≠ k) → cj p un q j k = p k) := by
  intro j
  induction j with
  | zero => intro _; exact ⟨fun i hi => by omega, fun k _ => rfl⟩
  | succ j ih =>
    intro hj
    obtain ⟨i1, i2⟩ := ih (by omega)
    refine ⟨fun i hij => ?_, fun k hk => ?_⟩
    · show zup (cj p un q j) (un j) (q (un j)) (un i) = _
      by_cases c : i = j
      · subst c; rw [zup_eq]
      · have := hi i j (by omega) (by omega)
        rw [zup_ne (by omega)]
        exact i1 i (by omega)
    · show zup (cj p un q j) (un j) (q (un j)) k = _
      rw [zup_ne (fun e => hk j (by omega) e.symm)]
      exact i2 k (fun i hi' => hk i (by omega))
theorem wiN_wi {H C p B : Nat → Int} {N : Nat} {t : Int} (hH : ∀ k, k < N → B k ≠ 3 → (C k = 0 ↔ p k = -9) ∧ (p k ≠ -9 → H (6 * k) = p k)) (hv : ∀ k, k < N → p k = -9 ∨ (0 ≤ p k ∧ p k < N)) (h3 : ∀ k, k < N → p k ≠ -9 → B (p k).toNat ≠ 3) : ∀ (n x : Nat), x < N → B x ≠ 3 → wiN H C t n (x : Int) = wi p t n (x : Int) := by
  intro n
  induction n with
  | zero => intro x _ _; rfl
  | succ n ih =>
    intro x hx hB
    show (if (x : Int) = t then true else if C (x : Int).toNat = 0 then false else wiN H C t n (H (6 * (x : Int)).toNat)) = (if (x : Int) = t then true else if p (x : Int).toNat = -9 then false else wi p t n (p (x : Int).toNat))
    rw [Int.toNat_natCast, show (6 * (x : Int)).toNat = 6 * x by omega]
    obtain ⟨e1, e2⟩ := hH x hx hB
    by_cases c : p x = -9
    · rw [if_pos c, if_pos (e1.mpr c)]
    · have v := (hv x hx).resolve_left c
      have hB' := h3 x hx c
      rw [if_neg c, if_neg (fun z => c (e1.mp z)), e2 c]
      obtain ⟨y, hy⟩ : ∃ y : Nat, p x = (y : Int) := ⟨(p x).toNat, by omega⟩
      rw [hy, Int.toNat_natCast] at hB'
      rw [hy, ih y (by omega) hB']
/-- what is kept of the memory when j things are laid -/
def PVI (V : XM) (N : Nat) (un : Nat → Nat) (q : Nat → Int) (n0 : Int) (p : Nat → Int) (j : Nat) : Prop :=
  Inv (pv V un q n0 j) ∧ (pv V un q n0 j) 14 0 22 = n0 + j ∧ (pv V un q n0 j) 14 0 9 = V 14 0 9 ∧ (pv V un q n0 j) 21 = V 21 ∧ (pv V un q n0 j) 81 = V 81 ∧ (pv V un q n0 j) 82 = V 82 ∧
  (∀ s : Nat, (s : Int) < n0 → (pv V un q n0 j) 85 0 s = V 85 0 s ∧ (pv V un q n0 j) 86 0 s = V 86 0 s ∧ (pv V un q n0 j) 87 0 s = V 87 0 s ∧ (pv V un q n0 j) 88 0 s = V 88 0 s) ∧
  (∀ s : Nat, n0 ≤ (s : Int) → (s : Int) < n0 + j → (pv V un q n0 j) 85 0 s = 0) ∧
  (∀ k, k < N → V 21 0 k ≠ 3 → ((pv V un q n0 j) 80 0 k = 0 ↔ cj p un q j k = -9) ∧ (cj p un q j k ≠ -9 → (pv V un q n0 j) 78 0 (6 * k) = cj p un q j k))
theorem pv_step {V : XM} (h : Inv V) {N m : Nat} {un : Nat → Nat} {q : Nat → Int} {j w : Nat} (hN : (V 14 0 9) = (N : Int)) (hU : UE V N m un) (hm : (V 14 0 22) + m ≤ 300) (hj : j < m) (hw : q (un j) = (w : Int)) (hw64 : w < 64) (hb : bt (V 81 0 (un j)) w = true) (hl : ltB V (V 21 0) N (cj (p0F V (V 21 0) N) un q j) (un j) w = true) (hgq : gq V N (cj (p0F V (V 21 0) N) un q j) (un j)) (hP : PVI V N un q (V 14 0 22) (p0F V (V 21 0) N) j) : PVI V N un q (V 14 0 22) (p0F V (V 21 0) N) (j + 1) := by
  obtain ⟨f1, f2, f3, f4, f5, f6⟩ := st_facts h hN
  obtain ⟨U1, U2, U3⟩ := hU
  obtain ⟨u1, u2⟩ := U1 j hj
  obtain ⟨wN, wt⟩ := f2.2.2.1 (un j) w u1 u2 hw64 hb
  obtain ⟨hH, hbar⟩ := f3 (un j) w u1 u2 hw64 hb
  have hO := f5 (un j) u1 u2
  have t2 : N ≤ 64 := f2.1
  have s1 : 0 ≤ (V 14 0 22) := f1.2.2.1.1
  have hBt : (V 21 0 (un j)) ≠ 3 := by rcases hO with z | z | z <;> omega
  have hBw : (V 21 0 w) ≠ 3 := by rcases hH with z | z | z <;> omega
  obtain ⟨P1, P2, P3, P4, P5, P6, P7, P8, P9⟩ := hP
  obtain ⟨⟨g1, g2, g3, g4, g5, g6⟩, gb, g7⟩ := hgq
  have hpj := g6 (un j) u1 (Nat.le_refl _) u2
  unfold ltB at hl
  simp only [decide_eq_true_eq] at hl
  obtain ⟨l1, l2, l3⟩ := hl
  rw [ff_no] at l3
  generalize hX : pv V un q (V 14 0 22) j = X at *
  generalize hc : cj (p0F V (V 21 0) N) un q j = c at *
  have c80 : X 80 0 (un j) = 0 := (P9 (un j) u1 hBt).1.mpr hpj
  have nn : ∀ k, k < N → 0 ≤ X 80 0 k := fun k hk => by
    have hI := P1
    obtain ⟨⟨ck1, ck2, ck3, cp1, cp2, cp3, ct1, ct2, ct3, cs1, cs2, cs3, cq1, cq2, cq3, cr1, cr2, cr3, cf1, cf2, cf3, cb1, cb2, cb3, cw1, cw2, cw3, clf, clc⟩, hkin, hpro, husu, hgiv, hthg, hhom, hput, hrin, hsen, hbar, hset, hmos, hpai, hrel, hmap, hdoo, hshe, htab, hwor⟩ := hI
    have := (hhom (k : Int) (by omega) (by omega)).2.1
    rw [Int.toNat_natCast] at this
    exact this
  have e21 : ∀ k, X 21 0 k = V 21 0 k := fun k => by rw [P4]
  -- put's own conditions
  have hok : pokB X (X 21 0) (un j : Int) (w : Int) = true := by
    unfold pokB
    simp only [decide_eq_true_eq]
    rw [Int.toNat_natCast, Int.toNat_natCast, e21, e21, c80]
    refine ⟨fun z => by rcases hO with y | y | y <;> omega, .inr ⟨hBt, hH⟩, ?_, rfl⟩
    rw [wiN_wi (B := V 21 0) P9 g1 g7 64 w wN hBw]
    exact l1
  have hpf : putF X (X 21 0) (un j : Int) (w : Int) = -9 := by
    unfold putF
    rw [Int.toNat_natCast, Int.toNat_natCast, c80, if_neg (fun z => by have := z.2; omega)]
    have hbf : ff (senB X 1 (un j : Int) (w : Int)) (X 14 0 22).toNat 0 = -9 := by
      refine (bar_ff P1 (t := (un j : Int)) (w := (w : Int)) (by omega) (by omega) (by omega) (by omega)).mpr ?_
      have hI := P1
      obtain ⟨⟨ck1, ck2, ck3, cp1, cp2, cp3, ct1, ct2, ct3, cs1, cs2, cs3, cq1, cq2, cq3, cr1, cr2, cr3, cf1, cf2, cf3, cb1, cb2, cb3, cw1, cw2, cw3, clf, clc⟩, hkin, hpro, husu, hgiv, hthg, hhom, hput, hrin, hsen, hbar, hset, hmos, hpai, hrel, hmap, hdoo, hshe, htab, hwor⟩ := hI
      obtain ⟨z1, z2, z3, z4, z5⟩ := hset (un j : Int) (by omega) (by omega)
      have := z5 (w : Int) (by omega) (by omega) (by
        rw [Int.toNat_natCast, Int.toNat_natCast, P5]
        exact hb)
      exact this.2.2.2
    rw [if_neg (fun z => z hbf), P5, if_neg (fun z => by rw [hb] at z; cases z.2), if_neg]
    · refine ff_no.mpr (fun s hs => ?_)
      unfold rpB
      rw [decide_eq_false_iff_not]
      intro z
      by_cases cs : (s : Int) < (V 14 0 22)
      · obtain ⟨r1, r2, r3, r4⟩ := P7 s cs
        rw [r1, r2, r3, r4] at z
        obtain ⟨so, z⟩ := z
        obtain ⟨o1, o2, o3, o4, o5⟩ := f2.2.2.2 s (by omega) so
        have l3 := l3 s (by omega)
        rw [decide_eq_false_iff_not] at l3
        have hpO : isO (V 21 0 ((V 86 0 s).toNat)) ∧ isO (V 21 0 ((V 87 0 s).toNat)) := by
          have hI := h
          obtain ⟨⟨ck1, ck2, ck3, cp1, cp2, cp3, ct1, ct2, ct3, cs1, cs2, cs3, cq1, cq2, cq3, cr1, cr2, cr3, cf1, cf2, cf3, cb1, cb2, cb3, cw1, cw2, cw3, clf, clc⟩, hkin, hpro, husu, hgiv, hthg, hhom, hput, hrin, hsen, hbar, hset, hmos, hpai, hrel, hmap, hdoo, hshe, htab, hwor⟩ := hI
          obtain ⟨i, i0, i1, i2⟩ := hpai.2 (s : Int) (by omega) (by omega) (by rw [Int.toNat_natCast]; exact so)
          obtain ⟨y1, y2, y3, y4, y5, y6, y7, y8, y9, y10, y11, y12, y13, y14, _⟩ := hpai.1 i i0 i1
          rw [i2, Int.toNat_natCast] at y4 y5
          rw [y4] at y13
          rw [y5] at y14
          exact ⟨y13, y14⟩
        have q1 := P9 (V 86 0 s).toNat (by omega) (by rcases hpO.1 with y | y | y <;> omega)
        have q2 := P9 (V 87 0 s).toNat (by omega) (by rcases hpO.2 with y | y | y <;> omega)
        rw [show (6 * (V 86 0 s)).toNat = 6 * (V 86 0 s).toNat by omega, show (6 * (V 87 0 s)).toNat = 6 * (V 87 0 s).toNat by omega] at z
        have iff3 : ∀ x : Int, ((x = (w : Int) ∧ (V 88 0 s) ≠ 1) ∨ (x ≠ (w : Int) ∧ (V 88 0 s) = 1)) → ¬ (x = (w : Int) ↔ (V 88 0 s) = 1) := fun x hx y => by
          rcases hx with hx | hx
          · exact hx.2 (y.mp hx.1)
          · exact hx.1 (y.mpr hx.2)
        rcases z with ⟨z1, z2, z3⟩ | z
        · have n9 : c (V 87 0 s).toNat ≠ -9 := fun y => by have := q2.1.mpr y; omega
          rw [q2.2 n9] at z3
          exact l3 ⟨so, .inl ⟨z1, n9, iff3 _ z3⟩⟩
        · obtain ⟨z0, z1, z2, z3⟩ := z
          have n9 : c (V 86 0 s).toNat ≠ -9 := fun y => by have := q1.1.mpr y; omega
          rw [q1.2 n9] at z3
          exact l3 ⟨so, .inr ⟨z1, n9, iff3 _ z3⟩⟩
      · have := P8 s (by omega) (by omega)
        rw [this] at z
        have := z.1
        omega
    · rintro ⟨z1, z2, z3⟩
      rw [P6] at z2 z3
      have hm300 := (f1.2.2.2.1 w wN).resolve_left z2
      have hml : (V 82 0 w) < (V 14 0 22) := by
        have hI := h
        obtain ⟨⟨ck1, ck2, ck3, cp1, cp2, cp3, ct1, ct2, ct3, cs1, cs2, cs3, cq1, cq2, cq3, cr1, cr2, cr3, cf1, cf2, cf3, cb1, cb2, cb3, cw1, cw2, cw3, clf, clc⟩, hkin, hpro, husu, hgiv, hthg, hhom, hput, hrin, hsen, hbar, hset, hmos, hpai, hrel, hmap, hdoo, hshe, htab, hwor⟩ := hI
        obtain ⟨_, _, _, m4⟩ := hmos (w : Int) (by omega) (by omega)
        rw [Int.toNat_natCast] at m4
        have := m4.resolve_left z2
        exact this.2.1
      rw [(P7 (V 82 0 w).toNat (by omega)).2.2.1] at z3
      refine l2 ⟨z2, ?_⟩
      have e : cnt (heB X (X 21 0) (w : Int)) (X 14 0 9).toNat = inC (V 21 0) c N (w : Int) := by
        rw [P3, show (V 14 0 9).toNat = N by omega]
        unfold inC
        refine cnt_congr (fun k hk => ?_)
        unfold heB
        refine decide_eq_decide.mpr ?_
        rw [e21]
        constructor
        · rintro ⟨y1, y2, y3⟩
          have n9 : c k ≠ -9 := fun y => by have := (P9 k hk y1).1.mpr y; omega
          exact ⟨y1, by rw [← (P9 k hk y1).2 n9]; exact y3⟩
        · rintro ⟨y1, y2⟩
          have n9 : c k ≠ -9 := by omega
          have h0 : X 80 0 k ≠ 0 := fun y => n9 ((P9 k hk y1).1.mp y)
          have := nn k hk
          exact ⟨y1, by omega, by rw [(P9 k hk y1).2 n9]; exact y2⟩
      rw [e] at z3
      exact z3
  have hput := (Inv.put3 P1 (t := (un j : Int)) (w := (w : Int)) (by omega) (by omega) (by omega) (by omega) hok (by omega) (by rw [Int.toNat_natCast, c80]; omega) hpf).2 (by rw [Int.toNat_natCast, e21]; exact hBt)
  rw [P2] at hput
  have en : pv V un q (V 14 0 22) (j + 1) = rLay (xu (cLay (cTell X ((V 14 0 22) + j) 0 (un j : Int) (w : Int) (-9)) (un j : Int) (w : Int) ((V 14 0 22) + j)) 43 0 ((w : Int)).toNat (X 43 0 ((w : Int)).toNat + 1)) (un j : Int) (w : Int) ((V 14 0 22) + j) := by
    show rLay (xu (cLay (cTell (pv V un q (V 14 0 22) j) ((V 14 0 22) + j) 0 (un j : Int) (q (un j)) (-9)) (un j : Int) (q (un j)) ((V 14 0 22) + j)) 43 0 (q (un j)).toNat ((pv V un q (V 14 0 22) j) 43 0 (q (un j)).toNat + 1)) (un j : Int) (q (un j)) ((V 14 0 22) + j) = _
    rw [hX, hw]
  have ec : cj (p0F V (V 21 0) N) un q (j + 1) = zup c (un j) (w : Int) := by
    show zup (cj (p0F V (V 21 0) N) un q j) (un j) (q (un j)) = _
    rw [hc, hw]
  unfold PVI
  rw [en, ec]
  have e85 : (rLay (xu (cLay (cTell X ((V 14 0 22) + j) 0 (un j : Int) (w : Int) (-9)) (un j : Int) (w : Int) ((V 14 0 22) + j)) 43 0 ((w : Int)).toNat (X 43 0 ((w : Int)).toNat + 1)) (un j : Int) (w : Int) ((V 14 0 22) + j)) 85 0 = zup (X 85 0) ((V 14 0 22) + (j : Int)).toNat 0 := xu_rw X 85 0 _ _
  have e86 : (rLay (xu (cLay (cTell X ((V 14 0 22) + j) 0 (un j : Int) (w : Int) (-9)) (un j : Int) (w : Int) ((V 14 0 22) + j)) 43 0 ((w : Int)).toNat (X 43 0 ((w : Int)).toNat + 1)) (un j : Int) (w : Int) ((V 14 0 22) + j)) 86 0 = zup (X 86 0) ((V 14 0 22) + (j : Int)).toNat (un j : Int) := xu_rw X 86 0 _ _
  have e87 : (rLay (xu (cLay (cTell X ((V 14 0 22) + j) 0 (un j : Int) (w : Int) (-9)) (un j : Int) (w : Int) ((V 14 0 22) + j)) 43 0 ((w : Int)).toNat (X 43 0 ((w : Int)).toNat + 1)) (un j : Int) (w : Int) ((V 14 0 22) + j)) 87 0 = zup (X 87 0) ((V 14 0 22) + (j : Int)).toNat (w : Int) := xu_rw X 87 0 _ _
  have e88 : (rLay (xu (cLay (cTell X ((V 14 0 22) + j) 0 (un j : Int) (w : Int) (-9)) (un j : Int) (w : Int) ((V 14 0 22) + j)) 43 0 ((w : Int)).toNat (X 43 0 ((w : Int)).toNat + 1)) (un j : Int) (w : Int) ((V 14 0 22) + j)) 88 0 = zup (X 88 0) ((V 14 0 22) + (j : Int)).toNat 0 := xu_rw X 88 0 _ _
  have e78 : (rLay (xu (cLay (cTell X ((V 14 0 22) + j) 0 (un j : Int) (w : Int) (-9)) (un j : Int) (w : Int) ((V 14 0 22) + j)) 43 0 ((w : Int)).toNat (X 43 0 ((w : Int)).toNat + 1)) (un j : Int) (w : Int) ((V 14 0 22) + j)) 78 0 = zup (X 78 0) (6 * (un j : Int) + X 80 0 ((un j : Int).toNat)).toNat (w : Int) := xu_rw X 78 0 _ _
  have e80 : (rLay (xu (cLay (cTell X ((V 14 0 22) + j) 0 (un j : Int) (w : Int) (-9)) (un j : Int) (w : Int) ((V 14 0 22) + j)) 43 0 ((w : Int)).toNat (X 43 0 ((w : Int)).toNat + 1)) (un j : Int) (w : Int) ((V 14 0 22) + j)) 80 0 = zup (X 80 0) ((un j : Int).toNat) (X 80 0 ((un j : Int).toNat) + 1) := xu_rw X 80 0 _ _
  have cu : (un j : Int).toNat = un j := Int.toNat_natCast _
  rw [cu, c80] at e78 e80
  rw [show (6 * (un j : Int) + 0).toNat = 6 * un j by omega] at e78
  refine ⟨hput, by show (V 14 0 22) + (j : Int) + 1 = (V 14 0 22) + ((j + 1 : Nat) : Int); omega, P3, P4, P5, P6, fun s hs => ?_, fun s hs1 hs2 => ?_, fun k hk hB => ?_⟩
  · obtain ⟨r1, r2, r3, r4⟩ := P7 s hs
    have hne : s ≠ ((V 14 0 22) + (j : Int)).toNat := by omega
    rw [e85, e86, e87, e88, zup_ne hne, zup_ne hne, zup_ne hne, zup_ne hne]
    exact ⟨r1, r2, r3, r4⟩
  · rw [e85]
    by_cases cs : s = ((V 14 0 22) + (j : Int)).toNat
    · rw [cs, zup_eq]
    · rw [zup_ne cs]
      exact P8 s hs1 (by omega)
  · rw [e80, e78]
    by_cases ck : k = un j
    · subst ck
      rw [zup_eq, zup_eq, zup_eq]
      exact ⟨⟨fun z => by omega, fun z => by omega⟩, fun _ => rfl⟩
    · rw [zup_ne ck, zup_ne ck, zup_ne (by omega)]
      exact P9 k hk hB
