/-! settle: what the search begins with -/
def cutp (q p : Nat → Int) (k : Nat) : Nat → Int := fun x => if x < k then q x else p x
theorem dfs_path {L : (Nat → Int) → Nat → Nat → Bool} {u : Nat → Bool} {S : Nat → Int} {q : Nat → Int} : ∀ (m t : Nat) (p : Nat → Int), dfs L u S m t p = some q → (∀ k, (k < t ∨ t + m ≤ k ∨ u k = false) → q k = p k) ∧ (∀ k, t ≤ k → k < t + m → u k = true → ∃ w : Nat, w < 64 ∧ bt (S k) w = true ∧ q k = (w : Int) ∧ L (cutp q p k) k w = true) := by
  intro m
  induction m with
  | zero =>
    intro t p h
    have h : some p = some q := h
    have h : p = q := by simpa using h
    subst h
    exact ⟨fun k _ => rfl, fun k h1 h2 => by omega⟩
  | succ m ih =>
    intro t p h
    have h : (if u t = true then sr1 (fun w => if L p t w = true then dfs L u S m (t + 1) (zup p t (w : Int)) else none) (S t) 64 0 else dfs L u S m (t + 1) p) = some q := h
    by_cases c : u t = true
    · rw [if_pos c] at h
      obtain ⟨w, _, w2, w3, w4⟩ := sr1_some 64 0 (by omega) h
      have w4 : (if L p t w = true then dfs L u S m (t + 1) (zup p t (w : Int)) else none) = some q := w4
      by_cases hl : L p t w = true
      · rw [if_pos hl] at w4
        obtain ⟨i2, i3⟩ := ih (t + 1) _ w4
        have agr : ∀ k, (k < t ∨ t + (m + 1) ≤ k ∨ u k = false) → q k = p k := fun k hk => by
          have hkt : k ≠ t := fun e => by
            subst e
            rcases hk with z | z | z
            · omega
            · omega
            · rw [c] at z; cases z
          rw [i2 k (by rcases hk with z | z | z; exact .inl (by omega); exact .inr (.inl (by omega)); exact .inr (.inr z)), zup_ne hkt]
        refine ⟨agr, fun k k1 k2 k3 => ?_⟩
        by_cases e : k = t
        · subst e
          refine ⟨w, w2, w3, by rw [i2 k (.inl (by omega)), zup_eq], ?_⟩
          have : cutp q p k = p := by
            funext x
            unfold cutp
            by_cases cx : x < k
            · rw [if_pos cx, agr x (.inl cx)]
            · rw [if_neg cx]
          rw [this]; exact hl
        · obtain ⟨w', v1, v2, v3, v4⟩ := i3 k (by omega) (by omega) k3
          refine ⟨w', v1, v2, v3, ?_⟩
          have : cutp q (zup p t (w : Int)) k = cutp q p k := by
            funext x
            unfold cutp
            by_cases cx : x < k
            · rw [if_pos cx, if_pos cx]
            · rw [if_neg cx, if_neg cx, zup_ne (by omega)]
          rw [this] at v4; exact v4
      · rw [if_neg hl] at w4; cases w4
    · rw [if_neg c] at h
      obtain ⟨i2, i3⟩ := ih (t + 1) _ h
      refine ⟨fun k hk => i2 k (by
        by_cases e : k = t
        · subst e; right; right; cases hu : u k with
          | false => rfl
          | true => exact absurd hu c
        · rcases hk with z | z | z
          · exact .inl (by omega)
          · exact .inr (.inl (by omega))
          · exact .inr (.inr z)), fun k k1 k2 k3 => ?_⟩
      by_cases e : k = t
      · subst e; exact absurd k3 c
      · exact i3 k (by omega) (by omega) k3
theorem p0_bp {V : XM} {N k : Nat} (hk : k < N) : p0F V (V 21 0) N k = bp V k := by
  unfold p0F bp
  rw [if_pos hk]
theorem st_facts {V : XM} (h : Inv V) {N : Nat} (hN : (V 14 0 9) = (N : Int)) : KR V (V 21 0) N ∧ gv V (V 21 0) N (unsB V) (V 81 0) ∧ (∀ t w, t < N → unsB V t = true → w < 64 → bt (V 81 0 t) w = true → isH (V 21 0 w) ∧ bt (V 40 0 t) w = false) ∧ (∀ k, k < N → unsB V k = true → ∃ x, x < 64 ∧ bt (V 81 0 k) x = true) ∧ (∀ k, k < N → unsB V k = true → isO (V 21 0 k)) ∧ gq V N (p0F V (V 21 0) N) 0 := by
  have h' := h
  obtain ⟨⟨ck1, ck2, ck3, cp1, cp2, cp3, ct1, ct2, ct3, cs1, cs2, cs3, cq1, cq2, cq3, cr1, cr2, cr3, cf1, cf2, cf3, cb1, cb2, cb3, cw1, cw2, cw3, clf, clc⟩, hkin, hpro, husu, hgiv, hthg, hhom, hput, hrin, hsen, hbar, hset, hmos, hpai, hrel, hmap, hdoo, hshe, htab, hwor⟩ := h'
  clear hkin hpro husu hgiv hthg hput hbar hrel hmap hdoo hshe htab hwor hsen ck1 ck2 ck3 cp1 cp2 cp3 cr1 cr2 cr3 cf1 cf2 cf3 cb1 cb2 cb3 cw1 cw2 cw3 clf clc
  have hO : ∀ k, k < N → unsB V k = true → isO (V 21 0 k) := fun k hk hu => by
    obtain ⟨s1, s2, s3, s4, s5⟩ := hset (k : Int) (by omega) (by omega)
    rw [Int.toNat_natCast] at s3
    rcases s3 with s3 | s3
    · exact absurd s3.1 (uns_h hu).1
    · exact s3.2.2.2.2.2
  have hbit : ∀ t w, t < N → unsB V t = true → w < 64 → bt (V 81 0 t) w = true → (w < N ∧ w ≠ t) ∧ isH (V 21 0 w) ∧ bt (V 40 0 t) w = false := fun t w ht hu hw hb => by
    obtain ⟨s1, s2, s3, s4, s5⟩ := hset (t : Int) (by omega) (by omega)
    have := s5 (w : Int) (by omega) (by omega) (by rw [Int.toNat_natCast, Int.toNat_natCast]; exact hb)
    rw [Int.toNat_natCast, Int.toNat_natCast] at this
    exact ⟨⟨by omega, by omega⟩, this.2.2.1, this.2.2.2⟩
  have hpr : ∀ s, s < (V 14 0 22).toNat → (V 85 0 s) = 4 → 0 ≤ (V 86 0 s) ∧ (V 86 0 s) < N ∧ 0 ≤ (V 87 0 s) ∧ (V 87 0 s) < N ∧ (V 86 0 s) ≠ (V 87 0 s) ∧ (0 < (V 80 0 ((V 86 0 s).toNat)) → 0 < (V 80 0 ((V 87 0 s).toNat)) → ((V 78 0 ((6 * (V 86 0 s)).toNat)) = (V 78 0 ((6 * (V 87 0 s)).toNat)) ↔ (V 88 0 s) = 1)) ∧ isO (V 21 0 ((V 86 0 s).toNat)) ∧ isO (V 21 0 ((V 87 0 s).toNat)) := fun s hs so => by
    obtain ⟨i, i0, i1, i2⟩ := hpai.2 (s : Int) (by omega) (by omega) (by rw [Int.toNat_natCast]; exact so)
    obtain ⟨y1, y2, y3, y4, y5, y6, y7, y8, y9, y10, y11, y12, y13, y14, y15, _⟩ := hpai.1 i i0 i1
    rw [i2, Int.toNat_natCast] at y4 y5 y6
    rw [y4] at y8 y9 y12 y13 y15
    rw [y5] at y10 y11 y12 y14 y15
    rw [y6] at y15
    exact ⟨y8, by omega, y10, by omega, y12, y15, y13, y14⟩
  have hh : ∀ k, k < N → (V 21 0 k) ≠ 3 → (V 80 0 k) ≠ 0 → 0 < (V 80 0 k) ∧ 0 ≤ (V 78 0 (6 * k)) ∧ (V 78 0 (6 * k)) < N ∧ isH (V 21 0 ((V 78 0 (6 * k)).toNat)) := fun k hk _ hn => by
    obtain ⟨o1, o2, o3, o4, o5, o6⟩ := hhom (k : Int) (by omega) (by omega)
    rw [Int.toNat_natCast] at o2
    obtain ⟨q1, q2, q3, q4, _⟩ := o6 0 (by omega) (by rw [Int.toNat_natCast]; omega)
    rw [show (6 * (k : Int) + 0).toNat = 6 * k by omega] at q2 q3 q4
    exact ⟨by omega, q2, by omega, q4⟩
  have hbp : ∀ k, k < N → bp V k ≠ -9 → (V 21 0 k) ≠ 3 ∧ (V 80 0 k) ≠ 0 ∧ bp V k = (V 78 0 (6 * k)) := fun k hk hp => by
    unfold bp at hp ⊢
    by_cases c1 : (V 21 0 k) = 3
    · rw [if_pos c1] at hp; exact absurd rfl hp
    · rw [if_neg c1] at hp ⊢
      by_cases c2 : (V 80 0 k) = 0
      · rw [if_pos c2] at hp; exact absurd rfl hp
      · rw [if_neg c2]; exact ⟨c1, c2, rfl⟩
  have hub : ∀ k, k < N → unsB V k = true → bp V k = -9 := fun k hk hu => by
    unfold bp
    rw [(uns_h hu).2]
    split
    · rfl
    · rfl
  refine ⟨⟨h.rb, hN, ⟨cs1, cs2⟩, fun t ht => ?_, fun s hs so => ?_⟩, ⟨by omega, fun k hk hu => ?_, fun k w hk hu hw hb => (hbit k w hk hu hw hb).1, fun s hs so => ?_⟩, fun t w ht hu hw hb => (hbit t w ht hu hw hb).2, fun k hk hu => ?_, hO, ⟨⟨fun k hk => ?_, fun k hk hB => ?_, ?_, fun w hw hm => ?_, fun s hs so a b => ?_, fun k hk _ hu => ?_⟩, fun k hk _ => p0_bp hk, fun k hk hp => ?_⟩⟩
  · obtain ⟨_, _, m3, m4⟩ := hmos (t : Int) (by omega) (by omega)
    rw [Int.toNat_natCast] at m4
    rcases m4 with m4 | m4
    · exact .inl m4
    · exact .inr (by omega)
  · obtain ⟨z1, z2, z3, z4, _⟩ := hpr s hs so
    exact ⟨z1, z2, z3, z4⟩
  · rcases hO k hk hu with z | z | z <;> omega
  · obtain ⟨z1, z2, z3, z4, z5, _⟩ := hpr s hs so
    exact ⟨z1, z2, z3, z4, z5⟩
  · have hc : c64 (V 81 0 k) := by
      have := (hset (k : Int) (by omega) (by omega)).2.1
      rw [Int.toNat_natCast] at this
      exact this
    refine Classical.byContradiction (fun hn => (uns_h hu).1 ((bt_eq0 hc).mpr (fun i hi => ?_)))
    cases hz : bt (V 81 0 k) i with
    | false => rfl
    | true => exact absurd ⟨i, hi, hz⟩ hn
  · rw [p0_bp hk]
    by_cases c : bp V k = -9
    · exact .inl c
    · obtain ⟨z1, z2, z3⟩ := hbp k hk c
      have := hh k hk z1 z2
      rw [z3]
      exact .inr ⟨this.2.1, this.2.2.1⟩
  · rw [p0_bp hk]
    unfold bp
    rw [if_pos hB]
  · obtain ⟨r, hr⟩ := hrin
    refine ⟨fun k => r (k : Int), fun k hk hp => ?_⟩
    rw [p0_bp hk] at hp ⊢
    obtain ⟨z1, z2, z3⟩ := hbp k hk hp
    obtain ⟨y1, y2, y3, _⟩ := hh k hk z1 z2
    have := hr (k : Int) (by omega) (by omega) (by rw [Int.toNat_natCast]; exact z1) (by rw [Int.toNat_natCast]; exact y1)
    rw [show (6 * (k : Int)).toNat = 6 * k by omega] at this
    rw [z3]
    show r (k : Int) < r (((V 78 0 (6 * k)).toNat : Nat) : Int)
    rw [show (((V 78 0 (6 * k)).toNat : Nat) : Int) = (V 78 0 (6 * k)) by omega]
    exact this
  · obtain ⟨m1, _, m3, m4⟩ := hmos (w : Int) (by omega) (by omega)
    rw [Int.toNat_natCast] at m1 m4
    have n4 := m4.resolve_left hm
    rw [show (V 14 0 9).toNat = N by omega] at m1
    have e : inC (V 21 0) (p0F V (V 21 0) N) N (w : Int) = cnt (fun t => decide ((V 21 0 t) ≠ 3 ∧ 0 < (V 80 0 t) ∧ (V 78 0 (6 * t)) = (w : Int))) N := by
      unfold inC
      refine cnt_congr (fun k hk => decide_eq_decide.mpr ?_)
      rw [p0_bp hk]
      constructor
      · rintro ⟨z1, z2⟩
        obtain ⟨y1, y2, y3⟩ := hbp k hk (by omega)
        exact ⟨z1, (hh k hk y1 y2).1, by rw [← y3]; exact z2⟩
      · rintro ⟨z1, z2, z3⟩
        refine ⟨z1, ?_⟩
        unfold bp
        rw [if_neg z1, if_neg (by omega)]
        exact z3
    rw [e, ← m1]
    omega
  · obtain ⟨z1, z2, z3, z4, z5, z6, z7, z8⟩ := hpr s hs so
    rw [p0_bp (by omega)] at a ⊢
    rw [p0_bp (by omega)] at b ⊢
    obtain ⟨a1, a2, a3⟩ := hbp _ (by omega) a
    obtain ⟨b1, b2, b3⟩ := hbp _ (by omega) b
    have y1 := (hh _ (by omega) a1 a2).1
    have y2 := (hh _ (by omega) b1 b2).1
    have := z6 y1 y2
    rw [show (6 * (V 86 0 s)).toNat = 6 * (V 86 0 s).toNat by omega, show (6 * (V 87 0 s)).toNat = 6 * (V 87 0 s).toNat by omega] at this
    rw [a3, b3]
    exact this
  · rw [p0_bp hk]
    exact hub k hk hu
  · rw [p0_bp hk] at hp ⊢
    obtain ⟨z1, z2, z3⟩ := hbp k hk hp
    have := (hh k hk z1 z2).2.2.2
    rw [z3]
    rcases this with z | z | z <;> omega
theorem un_of {V : XM} {N m : Nat} {F : Nat → Int} (hE : EN V N m F) (h7 : cnt (unsB V) N ≤ 7) : UN (fS V F (m : Int)) N m (fun i => (F i).toNat) := by
  obtain ⟨E1, E2, E3, E4⟩ := hE
  refine ⟨by omega, rfl, fun i hi => ?_, fun i j hij hj => ?_, fun k hk hu => ?_⟩
  · obtain ⟨z1, z2, z3⟩ := E1 i hi
    exact ⟨by show F i = (((F i).toNat : Nat) : Int); omega, z2, z3⟩
  · have := E2 i j hij hj
    have a := (E1 i (by omega)).1
    have b := (E1 j hj).1
    show (F i).toNat < (F j).toNat
    omega
  · obtain ⟨i, i1, i2⟩ := E3 k hk hu
    exact ⟨i, i1, by show (F i).toNat = k; omega⟩
theorem cm_0 {Z : XM} {N m : Nat} {un : Nat → Nat} (n0 : Int) {p : Nat → Int} (hU : UN Z N m un) (hp : ∀ k, k < N → unsB Z k = true → p k = -9) : CM Z N m un n0 p Z := by
  refine ⟨Z 37 0, Z 39 0, ?_, ⟨fun k hk hu hpk => absurd (hp k hk hu) hpk, fun c _ => rfl⟩, fun i hi hpi => absurd (hp _ (hU.2.2.1 i hi).2.1 (hU.2.2.1 i hi).2.2) hpi, fun k _ => rfl⟩
  have e1 : hcF Z N p = Z 38 0 := by
    funext k
    unfold hcF
    rw [if_neg (fun z => z.2.2 (hp k z.1 z.2.1))]
  have e2 : inF Z N p = Z 43 0 := by
    funext w
    unfold inF
    have : cnt (fun k => decide (unsB Z k = true ∧ p k = (w : Int))) N = cnt (fun _ => false) N := cnt_congr (fun k hk => by
      rw [decide_eq_false_iff_not]
      intro z
      have := hp k hk z.1
      have := z.2
      omega)
    have h0 : ∀ n, cnt (fun _ => false) n = 0 := by
      intro n
      induction n with
      | zero => rfl
      | succ n ih => show cnt (fun _ => false) n + (if false = true then 1 else 0) = 0; rw [ih]; simp
    rw [this, h0]
    omega
  rw [e1, e2, zS_self]
theorem c_settle (d : Nat) (V : XM) (h : Inv V) {N : Nat} (hN : (V 14 0 9) = (N : Int)) : (7 < cnt (unsB V) N ∨ 3000 < wyN V N → Yf (d + 30) 146 [xr 2 0] V = some (xi (-3), V)) ∧ (¬ (7 < cnt (unsB V) N ∨ 3000 < wyN V N) → 300 < (V 14 0 22) + cnt (unsB V) N → Yf (d + 30) 146 [xr 2 0] V = some (xi (-4), V)) ∧ (¬ (7 < cnt (unsB V) N ∨ 3000 < wyN V N) → ¬ 300 < (V 14 0 22) + cnt (unsB V) N → ∃ (F : Nat → Int) (m : Nat), EN V N m F ∧ (dfs (ltB V (V 21 0) N) (unsB V) (V 81 0) N 0 (p0F V (V 21 0) N) = none → ∃ W, CM (fS V F (m : Int)) N m (fun i => (F i).toNat) (V 14 0 22) (p0F V (V 21 0) N) W ∧ Yf (d + 30) 146 [xr 2 0] V = some (xi (-5), W)) ∧ (∀ q, dfs (ltB V (V 21 0) N) (unsB V) (V 81 0) N 0 (p0F V (V 21 0) N) = some q → ∃ W, CM (fS V F (m : Int)) N m (fun i => (F i).toNat) (V 14 0 22) q W ∧ Yf (d + 30) 146 [xr 2 0] V = some (xi (m : Int), cT W (fun i => (F i).toNat) q (V 14 0 22) m))) := by
  obtain ⟨f1, f2, f3, f4, f5, f6⟩ := st_facts h hN
  have t2 : N ≤ 64 := f2.1
  have s3 : (V 6 0 4) = (V 14 0 22) := h.1.2.2.2.2.2.2.2.2.2.2.2.1
  have s1 : 0 ≤ (V 14 0 22) := h.1.2.2.2.2.2.2.2.2.2.1
  have s2 : (V 14 0 22) ≤ 300 := h.1.2.2.2.2.2.2.2.2.2.2.1
  have U := y_cUnsettled (d + 26) V h
  rw [show (V 14 0 9).toNat = N by omega] at U
  have hcb := cnt_b (unsB V) N
  have w1 : Yf (d + 29) 67 [xr 8 0] V = some (xi (wyN V N), V) := by
    rw [s_X5_ways]
    exact x_cWays (d + 26) V h hN N 0 (by omega) (by omega)
  have ws : Unit → w32 ((V 14 0 22) + cnt (unsB V) N) = (V 14 0 22) + cnt (unsB V) N := fun _ => w32_i (by omega) (by omega)
  refine ⟨fun c => ?_, fun c k => ?_, fun c k => ?_⟩
  · rw [s_X11_settle, U, ci_r]
    by_cases c1 : 7 < cnt (unsB V) N
    · rw [if_pos c1]
    · rw [if_neg c1, w1, ci_r, if_pos (by omega)]
  · rw [s_X11_settle, U, ci_r, if_neg (by omega), w1, ci_r, if_neg (by omega), s3, ws (), if_pos k]
  · obtain ⟨F, m, hE, hX⟩ := x_tl7 (d + 26) V h (V 14 0 22) hN (by omega) N 0 0 (V 50 0) (by omega) (by omega) ⟨fun i hi => by omega, fun i j hij hj => by omega, fun x hx => by omega, rfl⟩
    have hm : (m : Int) = cnt (unsB V) N := hE.2.2.2
    have h7 : m ≤ 7 := by omega
    have hU := un_of hE (by omega)
    have hI := h.fs F (m : Int)
    have hC := cm_0 (Z := fS V F (m : Int)) (V 14 0 22) (p := p0F V (V 21 0) N) hU (fun k hk hu => by
      rw [p0_bp hk]
      have hu : unsB V k = true := hu
      unfold bp
      rw [(uns_h hu).2]
      split <;> rfl)
    have key := x_layF (d + 22 - m) hI (n0 := (V 14 0 22)) (by exact hN) hU ⟨s1, s2⟩ (by exact f2) (fun t w ht hu hw hb => by
      have := (f3 t w ht hu hw hb).1
      show V 21 0 w ≠ 3
      rcases this with z | z | z <;> omega) m 0 0 (p0F V (V 21 0) N) (fS V F (m : Int)) (by omega) (fun i hi => by omega) (fun _ => by omega) (by omega) (by exact f6) hC
    have hT : Yf (d + 29) 69 [xr 8 0, xi (V 14 0 22)] V = ci (Yf (d + 28) 70 [xr 8 0, xi 0, xi (V 14 0 22)] (fS V F (m : Int))) (fun x6 V5 => if x6 = 0 ∨ x6 = 1 then some (xi x6, V5) else none) := by
      rw [s_X5_takeLeastWay, fS_0]
      exact hX
    have hS : ∀ X, X = (ci (Yf (d + 29) 69 [xr 8 0, xi (V 14 0 22)] V) fun x6 V5 => if x6 = 0 then some (xi (-5), V5) else Xf (d + 29) 146 70 [xr 2 0, xi (cnt (unsB V) N), xi 0, xr 0 0] [] V5) → Yf (d + 30) 146 [xr 2 0] V = X := fun X hX => by
      rw [s_X11_settle, U, ci_r, if_neg (by omega), w1, ci_r, if_neg (by omega), s3, ws (), if_neg k, hX]
    refine ⟨F, m, hE, fun hn => ?_, fun q hq => ?_⟩
    · obtain ⟨W, c1, y1⟩ := key.2 (by exact hn)
      rw [show d + 22 - m + m + 6 = d + 28 by omega] at y1
      have y1' : Yf (d + 28) 70 [xr 8 0, xi 0, xi (V 14 0 22)] (fS V F (m : Int)) = some (xi 0, W) := y1
      refine ⟨W, c1, hS _ ?_⟩
      rw [hT, y1', ci_r, if_pos (.inl rfl), ci_r, if_pos rfl]
    · obtain ⟨W, c1, y1⟩ := key.1 q (by exact hq)
      rw [show d + 22 - m + m + 6 = d + 28 by omega] at y1
      have y1' : Yf (d + 28) 70 [xr 8 0, xi 0, xi (V 14 0 22)] (fS V F (m : Int)) = some (xi 1, W) := y1
      refine ⟨W, c1, hS _ ?_⟩
      obtain ⟨p1, p2⟩ := dfs_path N 0 _ hq
      have hun : ∀ i, i < m → (F i).toNat < N ∧ unsB V (F i).toNat = true := fun i hi => (hE.1 i hi).2
      have x7 := x_s70 (d + 26) (Z := fS V F (m : Int)) (W := W) hI (n0 := (V 14 0 22)) (q := q) (by exact hN) hU ⟨by exact s3, s1, by omega⟩ (fun k hk hu => by
        rw [p1 k (.inr (.inr hu)), p0_bp hk]
        rfl) (fun i hi => by
        obtain ⟨w, _, _, e, _⟩ := p2 _ (by omega) (by have := (hun i hi).1; omega) (hun i hi).2
        show q (F i).toNat ≠ -9
        omega) (fun i hi => by
        have := f5 _ (hun i hi).1 (hun i hi).2
        show V 21 0 (F i).toNat ≠ 3
        rcases this with z | z | z <;> omega) c1 m 0 (by omega) (by omega)
      rw [hT, y1', ci_r, if_pos (.inr rfl), ci_r, if_neg (by decide), ← hm]
      exact x7.symm
