/-! settle: the search with and without a look ahead -/
theorem inC_up {B p : Nat → Int} {N t : Nat} {w x : Int} (ht : t < N) (hp : p t = -9) (hB : B t ≠ 3) (hx : x ≠ -9) : inC B (zup p t w) N x = inC B p N x + (if x = w then 1 else 0) := by
  unfold inC
  by_cases c : x = w
  · rw [if_pos c]
    refine cnt_up (j := t) (by simp only [decide_eq_false_iff_not]; exact fun z => hx (by rw [← z.2, hp])) (by simp only [decide_eq_true_eq]; exact ⟨hB, by rw [zup_eq, c]⟩) ht (fun k _ hk => by simp only [zup_ne hk])
  · rw [if_neg c, Int.add_zero]
    refine cnt_congr (fun k hk => ?_)
    by_cases e : k = t
    · subst e
      rw [zup_eq, hp]
      exact decide_eq_decide.mpr ⟨fun z => absurd z.2.symm c, fun z => absurd z.2.symm hx⟩
    · simp only [zup_ne e]
theorem ff_no {f : Nat → Bool} {n : Nat} : ff f n 0 = -9 ↔ ∀ k, k < n → f k = false := by
  rcases ff_spec f n 0 with ⟨x1, x2⟩ | ⟨s, x1, x2, x3, x4, x5⟩
  · exact ⟨fun _ k hk => x2 k (by omega) (by omega), fun _ => x1⟩
  · rw [x1]
    refine ⟨fun h => by omega, fun h => ?_⟩
    have := h s (by omega)
    rw [x4] at this; cases this
theorem gd.up {V : XM} {B : Nat → Int} {N : Nat} {u : Nat → Bool} {S : Nat → Int} {p : Nat → Int} {t w : Nat} (g : gv V B N u S) (h : gd V B N u p t) (ht : t < N) (hu : u t = true) (hw : w < 64) (hs : bt (S t) w = true) (hl : ltB V B N p t w = true) : gd V B N u (zup p t (w : Int)) (t + 1) := by
  obtain ⟨g1, g2, g3, g4⟩ := g
  obtain ⟨h1, h2, h3, h4, h5, h6⟩ := h
  obtain ⟨w1, w2⟩ := g3 t w ht hu hw hs
  have hB := g2 t ht hu
  have hp := h6 t ht (by omega) hu
  unfold ltB at hl
  simp only [decide_eq_true_eq] at hl
  obtain ⟨l1, l2, l3⟩ := hl
  rw [ff_no] at l3
  refine ⟨fun k hk => ?_, fun k hk hb => ?_, rank_up g1 h1 h3 ht w1 l1, fun x hx hm => ?_, fun s hs4 so a b => ?_, fun k hk hkt huk => ?_⟩
  · by_cases c : k = t
    · subst c; rw [zup_eq]; exact .inr (by omega)
    · rw [zup_ne c]; exact h1 k hk
  · by_cases c : k = t
    · subst c; exact absurd hb hB
    · rw [zup_ne c]; exact h2 k hk hb
  · rw [inC_up ht hp hB (by omega)]
    have := h4 x hx hm
    by_cases c : (x : Int) = (w : Int)
    · rw [if_pos c]
      have e : x = w := by omega
      subst e
      have : ¬ (V 87 0 ((V 82 0 x).toNat)) ≤ inC B p N (x : Int) := fun z => l2 ⟨hm, z⟩
      omega
    · rw [if_neg c]; omega
  · obtain ⟨o1, o2, o3, o4, o5⟩ := g4 s hs4 so
    have l3 := l3 s hs4
    simp only [decide_eq_false_iff_not] at l3
    by_cases c1 : (V 86 0 s) = (t : Int)
    · have e1 : (V 86 0 s).toNat = t := by omega
      have e2 : (V 87 0 s).toNat ≠ t := by omega
      rw [e1, zup_eq, zup_ne e2] at *
      have := Classical.not_not.mp (fun z => l3 ⟨so, .inl ⟨c1, b, z⟩⟩)
      rw [← this]
      exact ⟨fun z => z.symm, fun z => z.symm⟩
    · have e1 : (V 86 0 s).toNat ≠ t := by omega
      rw [zup_ne e1] at a ⊢
      by_cases c2 : (V 87 0 s) = (t : Int)
      · have e2 : (V 87 0 s).toNat = t := by omega
        rw [e2, zup_eq]
        exact Classical.not_not.mp (fun z => l3 ⟨so, .inr ⟨c2, a, z⟩⟩)
      · have e2 : (V 87 0 s).toNat ≠ t := by omega
        rw [zup_ne e2] at b ⊢
        exact h5 s hs4 so a b
  · rw [zup_ne (by omega)]
    exact h6 k hk (by omega) huk
theorem gd.skip {V : XM} {B : Nat → Int} {N : Nat} {u : Nat → Bool} {p : Nat → Int} {t : Nat} (h : gd V B N u p t) : gd V B N u p (t + 1) := by
  obtain ⟨h1, h2, h3, h4, h5, h6⟩ := h
  exact ⟨h1, h2, h3, h4, h5, fun k hk hkt => h6 k hk (by omega)⟩
theorem gd.last {V : XM} {B : Nat → Int} {N : Nat} {u : Nat → Bool} {p : Nat → Int} {t : Nat} (h : gd V B N u p t) : kpB V B N p = true := by
  obtain ⟨h1, h2, ⟨r, h3⟩, h4, h5, h6⟩ := h
  unfold kpB
  simp only [decide_eq_true_eq]
  rw [ff_no, ff_no]
  refine ⟨fun t ht => ?_, fun s hs => ?_⟩
  · unfold badT
    have a1 : rg p (t : Int) 65 (p t) = false := by
      refine rg_rank h1 h3 65 (p t) ?_
      by_cases c : p t = -9
      · exact .inl c
      · have v := (h1 t ht).resolve_left c
        exact .inr ⟨v.1, v.2, h3 t ht c⟩
    rw [a1, Bool.false_or, decide_eq_false_iff_not]
    intro z
    have := h4 t ht z.1
    omega
  · unfold badP
    rw [decide_eq_false_iff_not]
    intro z
    exact z.2.2.2 (h5 s hs z.1 z.2.1 z.2.2.1)
theorem gd.down {V : XM} {B : Nat → Int} {N : Nat} {u : Nat → Bool} {S : Nat → Int} {p q : Nat → Int} {t w : Nat} (g : gv V B N u S) (h : gd V B N u p t) (ht : t < N) (hu : u t = true) (hw : w < 64) (hs : bt (S t) w = true) (hl : ¬ ltB V B N p t w = true) (hq : ∀ k, k < N → k ≠ t → p k ≠ -9 → q k = p k) (hqt : q t = (w : Int)) : kpB V B N q = false := by
  obtain ⟨g1, g2, g3, g4⟩ := g
  obtain ⟨h1, h2, h3, h4, h5, h6⟩ := h
  obtain ⟨w1, w2⟩ := g3 t w ht hu hw hs
  have hB := g2 t ht hu
  have hp := h6 t ht (by omega) hu
  unfold kpB
  rw [decide_eq_false_iff_not, ff_no, ff_no]
  rintro ⟨k1, k2⟩
  apply hl
  unfold ltB
  simp only [decide_eq_true_eq]
  rw [ff_no]
  refine ⟨?_, fun z => ?_, fun s hs4 => ?_⟩
  · cases hz : wi p (t : Int) 64 (w : Int) with
    | false => rfl
    | true =>
      have := k1 t ht
      unfold badT at this
      rw [hqt, rg_wi h1 hq 64 65 w (by omega) w1 hz] at this
      cases this
  · have := k1 w w1
    unfold badT at this
    rw [Bool.or_eq_false_iff, decide_eq_false_iff_not] at this
    refine this.2 ⟨z.1, ?_⟩
    have e1 := inC_up (B := B) (w := (w : Int)) (x := (w : Int)) ht hp hB (by omega)
    rw [if_pos rfl] at e1
    have e2 : inC B (zup p t (w : Int)) N (w : Int) ≤ inC B q N (w : Int) := by
      unfold inC
      refine cnt_le (fun k hk hf => ?_)
      simp only [decide_eq_true_eq] at hf ⊢
      refine ⟨hf.1, ?_⟩
      by_cases c : k = t
      · rw [c]; exact hqt
      · have hf2 := hf.2
        rw [zup_ne c] at hf2
        rw [hq k hk c (by omega)]
        exact hf2
    omega
  · rw [decide_eq_false_iff_not]
    rintro ⟨so, z⟩
    obtain ⟨o1, o2, o3, o4, o5⟩ := g4 s hs4 so
    have := k2 s hs4
    unfold badP at this
    rw [decide_eq_false_iff_not] at this
    rcases z with ⟨z1, z2, z3⟩ | ⟨z1, z2, z3⟩
    · have e1 : (V 86 0 s).toNat = t := by omega
      have e2 : q ((V 87 0 s).toNat) = p ((V 87 0 s).toNat) := hq _ (by omega) (by omega) z2
      refine this ⟨so, by rw [e1, hqt]; omega, by rw [e2]; exact z2, ?_⟩
      rw [e1, hqt, e2]
      exact fun y => z3 ⟨fun x => y.mp x.symm, fun x => (y.mpr x).symm⟩
    · have e1 : (V 87 0 s).toNat = t := by omega
      have e2 : q ((V 86 0 s).toNat) = p ((V 86 0 s).toNat) := hq _ (by omega) (by omega) z2
      refine this ⟨so, by rw [e2]; exact z2, by rw [e1, hqt]; omega, ?_⟩
      rw [e1, hqt, e2]
      exact z3
theorem dfs_sr {V : XM} {B : Nat → Int} {N : Nat} {u : Nat → Bool} {S : Nat → Int} (g : gv V B N u S) : ∀ (m t : Nat) (p : Nat → Int), t + m = N → gd V B N u p t → dfs (ltB V B N) u S m t p = sr (kpB V B N) u S m t p := by
  intro m
  induction m with
  | zero =>
    intro t p _ h
    show some p = if kpB V B N p = true then some p else none
    rw [if_pos h.last]
  | succ m ih =>
    intro t p hm h
    show (if u t = true then sr1 (fun w => if ltB V B N p t w = true then dfs (ltB V B N) u S m (t + 1) (zup p t (w : Int)) else none) (S t) 64 0 else dfs (ltB V B N) u S m (t + 1) p) = (if u t = true then sr1 (fun w => sr (kpB V B N) u S m (t + 1) (zup p t (w : Int))) (S t) 64 0 else sr (kpB V B N) u S m (t + 1) p)
    by_cases c : u t = true
    · rw [if_pos c, if_pos c]
      refine sr1_congr 64 0 (by omega) (fun w _ hw hs => ?_)
      show (if ltB V B N p t w = true then dfs (ltB V B N) u S m (t + 1) (zup p t (w : Int)) else none) = sr (kpB V B N) u S m (t + 1) (zup p t (w : Int))
      by_cases c2 : ltB V B N p t w = true
      · rw [if_pos c2]
        exact ih (t + 1) _ (by omega) (h.up g (by omega) c hw hs c2)
      · rw [if_neg c2]
        cases hz : sr (kpB V B N) u S m (t + 1) (zup p t (w : Int)) with
        | none => rfl
        | some q =>
          obtain ⟨k1, k2, k3⟩ := sr_some m (t + 1) _ hz
          have := h.down (q := q) g (by omega) c hw hs c2 (fun k hk hkt hp => by
            have : k < t + 1 ∨ (t + 1) + m ≤ k ∨ u k = false := by
              by_cases y : k < t + 1
              · exact .inl y
              · right; right
                cases hy : u k with
                | false => rfl
                | true => exact absurd (h.2.2.2.2.2 k hk (by omega) hy) hp
            rw [k2 k this, zup_ne hkt]) (by rw [k2 t (.inl (by omega)), zup_eq])
          rw [this] at k1
          cases k1
    · rw [if_neg c, if_neg c]
      exact ih (t + 1) p (by omega) h.skip
