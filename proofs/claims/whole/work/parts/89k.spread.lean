/-! walks, and a spread from one place -/
def wk (E : Nat → Nat → Prop) : Nat → Nat → Nat → Prop
  | 0, u, v => u = v
  | k + 1, u, v => ∃ w, wk E k u w ∧ E w v
theorem wk_front {E : Nat → Nat → Prop} : ∀ {k u v : Nat}, wk E (k + 1) u v ↔ ∃ w, E u w ∧ wk E k w v := by
  intro k
  induction k with
  | zero =>
    intro u v
    constructor
    · rintro ⟨w, h1, h2⟩
      have h1 : u = w := h1
      subst h1
      exact ⟨v, h2, rfl⟩
    · rintro ⟨w, h1, h2⟩
      have h2 : w = v := h2
      subst h2
      exact ⟨u, rfl, h1⟩
  | succ k ih =>
    intro u v
    constructor
    · rintro ⟨w, h1, h2⟩
      obtain ⟨x, y1, y2⟩ := ih.mp h1
      exact ⟨x, y1, w, y2, h2⟩
    · rintro ⟨w, h1, x, h2, h3⟩
      exact ⟨x, ih.mpr ⟨w, h1, h2⟩, h3⟩
theorem wk_rev {E : Nat → Nat → Prop} : ∀ {k u v : Nat}, wk (fun x y => E y x) k u v ↔ wk E k v u := by
  intro k
  induction k with
  | zero => intro u v; exact eq_comm
  | succ k ih =>
    intro u v
    rw [wk_front (E := E)]
    constructor
    · rintro ⟨w, h1, h2⟩; exact ⟨w, h2, ih.mp h1⟩
    · rintro ⟨w, h1, h2⟩; exact ⟨w, ih.mpr h2, h1⟩
theorem wk_congr {E E' : Nat → Nat → Prop} (h : ∀ u v, E u v ↔ E' u v) : ∀ {k u v : Nat}, wk E k u v ↔ wk E' k u v := by
  have : E = E' := by funext u v; exact propext (h u v)
  intro k u v; rw [this]
def eE (e : Nat → Nat → Option Nat) (M : Nat) (u v : Nat) : Prop := ∃ j, j < M ∧ e u j = some v
def BI (R : Nat → Prop) (e : Nat → Nat → Option Nat) (M N a : Nat) (F H L : Nat → Int) (n i j : Nat) : Prop :=
  (1 ≤ n ∧ i ≤ n ∧ j ≤ M) ∧
  (∀ p, p < n → 0 ≤ L p ∧ R (L p).toNat ∧ 0 ≤ F (L p).toNat ∧ (p ≠ 0 → 0 < F (L p).toNat) ∧ F (L p).toNat ≤ p) ∧
  (∀ v, v < N → F v ≠ -9 → ∃ p, p < n ∧ L p = v) ∧
  (∀ p q, p ≤ q → q < n → F (L p).toNat ≤ F (L q).toNat ∧ (F (L p).toNat = F (L q).toNat → F (L p).toNat ≠ 0 → H (L p).toNat ≤ H (L q).toNat)) ∧
  (i < n → ∀ p, p < n → F (L p).toNat ≤ F (L i).toNat + 1 ∧ (F (L p).toNat = F (L i).toNat + 1 → (F (L i).toNat = 0 → H (L p).toNat < j) ∧ (F (L i).toNat ≠ 0 → H (L p).toNat ≤ H (L i).toNat))) ∧
  (∀ v, v < N → F v ≠ -9 → wk (eE e M) (F v).toNat a v) ∧
  (∀ p k v, p < i ∨ (p = i ∧ i < n ∧ k < j) → k < M → e (L p).toNat k = some v → F v ≠ -9 ∧ F v ≤ F (L p).toNat + 1) ∧
  (∀ v, v < N → 0 < F v → ∃ h w : Nat, H v = h ∧ h < M ∧ e a h = some w ∧ wk (eE e M) ((F v).toNat - 1) w v ∧ ∀ h' w', h' < h → e a h' = some w' → ¬ wk (eE e M) ((F v).toNat - 1) w' v) ∧
  (∀ v, v < N → F v = -9 ∨ F v = 0 → H v = -9) ∧
  F a = 0 ∧ cnt (fun v => decide (F v ≠ -9)) N = n
/-- what the places and steps keep -/
def GE (R : Nat → Prop) (e : Nat → Nat → Option Nat) (M N a : Nat) : Prop := (∀ v, R v → v < N) ∧ (∀ u k v, R u → k < M → e u k = some v → R v) ∧ R a
theorem GE.walk {R : Nat → Prop} {e : Nat → Nat → Option Nat} {M N a : Nat} (g : GE R e M N a) : ∀ {k v : Nat}, wk (eE e M) k a v → R v := by
  intro k
  induction k with
  | zero => intro v h; have h : a = v := h; subst h; exact g.2.2
  | succ k ih =>
    rintro v ⟨w, h1, j, h2, h3⟩
    exact g.2.1 w j v (ih h1) h2 h3
theorem BI.val {R : Nat → Prop} {e : Nat → Nat → Option Nat} {M N a n i j : Nat} {F H L : Nat → Int} (b : BI R e M N a F H L n i j) {v : Nat} (hv : v < N) (hf : F v ≠ -9) : 0 ≤ F v := by
  obtain ⟨_, b2, b3, _⟩ := b
  obtain ⟨p, p1, p2⟩ := b3 v hv hf
  have := (b2 p p1).2.2.1
  rw [p2, Int.toNat_natCast] at this
  exact this
theorem BI.reach {R : Nat → Prop} {e : Nat → Nat → Option Nat} {M N a n i j : Nat} {F H L : Nat → Int} (g : GE R e M N a) (b : BI R e M N a F H L n i j) : ∀ {k v : Nat}, wk (eE e M) k a v → (F v ≠ -9 ∧ F v ≤ k) ∨ (i < n ∧ F (L i).toNat < k) := by
  obtain ⟨b1, b2, b3, b4, b5, b6, b7, b8, b9, b10, b11⟩ := b
  intro k
  induction k with
  | zero =>
    intro v h
    have h : a = v := h
    subst h
    exact .inl ⟨by omega, by omega⟩
  | succ k ih =>
    intro v h
    obtain ⟨u, h1, m, m1, m2⟩ := h
    rcases ih h1 with ⟨x1, x2⟩ | ⟨x1, x2⟩
    · obtain ⟨p, p1, p2⟩ := b3 u (g.1 u (g.walk h1)) x1
      have eu : (L p).toNat = u := by omega
      by_cases hp : p < i
      · have := b7 p m v (.inl hp) m1 (by rw [eu]; exact m2)
        rw [eu] at this
        exact .inl ⟨this.1, by omega⟩
      · have hin : i < n := by omega
        have := (b4 i p (by omega) p1).1
        rw [eu] at this
        exact .inr ⟨hin, by omega⟩
    · exact .inr ⟨x1, by omega⟩
theorem BI.room {R : Nat → Prop} {e : Nat → Nat → Option Nat} {M N a n i j : Nat} {F H L : Nat → Int} (b : BI R e M N a F H L n i j) {v : Nat} (hv : v < N) (hf : F v = -9) : n < N := by
  obtain ⟨_, _, _, _, _, _, _, _, _, _, b11⟩ := b
  have : cnt (fun v => decide (F v ≠ -9)) N < N := cnt_lt_n hv (by simp [hf])
  omega
theorem BI.skip {R : Nat → Prop} {e : Nat → Nat → Option Nat} {M N a n i j : Nat} {F H L : Nat → Int} (g : GE R e M N a) (b : BI R e M N a F H L n i j) (hi : i < n) (hj : j < M) (hs : ∀ v, e (L i).toNat j = some v → F v ≠ -9) : BI R e M N a F H L n i (j + 1) := by
  obtain ⟨b1, b2, b3, b4, b5, b6, b7, b8, b9, b10, b11⟩ := b
  refine ⟨⟨b1.1, b1.2.1, by omega⟩, b2, b3, b4, fun _ p hp => ?_, b6, fun p k v hpk hk hv => ?_, b8, b9, b10, b11⟩
  · obtain ⟨x1, x2⟩ := b5 hi p hp
    refine ⟨x1, fun q => ⟨fun q' => ?_, (x2 q).2⟩⟩
    have := (x2 q).1 q'
    omega
  · by_cases c : p = i ∧ k = j
    · obtain ⟨c1, c2⟩ := c
      subst c1; subst c2
      have hf := hs v hv
      have hR := g.2.1 _ _ _ (b2 p hi).2.1 hk hv
      obtain ⟨q, q1, q2⟩ := b3 v (g.1 v hR) hf
      have := (b5 hi q q1).1
      rw [q2, Int.toNat_natCast] at this
      exact ⟨hf, this⟩
    · refine b7 p k v ?_ hk hv
      rcases hpk with h | ⟨h1, h2, h3⟩
      · exact .inl h
      · exact .inr ⟨h1, h2, by omega⟩
theorem BI.next {R : Nat → Prop} {e : Nat → Nat → Option Nat} {M N a n i : Nat} {F H L : Nat → Int} (b : BI R e M N a F H L n i M) (hi : i < n) : BI R e M N a F H L n (i + 1) 0 := by
  obtain ⟨b1, b2, b3, b4, b5, b6, b7, b8, b9, b10, b11⟩ := b
  refine ⟨⟨b1.1, by omega, by omega⟩, b2, b3, b4, fun h p hp => ?_, b6, fun p k v hpk hk hv => ?_, b8, b9, b10, b11⟩
  · obtain ⟨x1, x2⟩ := b5 hi p hp
    obtain ⟨y1, y2⟩ := b4 i (i + 1) (by omega) h
    have z := (b2 (i + 1) h).2.2.2.1 (by omega)
    have z' := (b2 i hi).2.2.1
    refine ⟨by omega, fun q => ⟨fun q' => by omega, fun _ => ?_⟩⟩
    have e1 : F (L i).toNat = F (L (i + 1)).toNat := by omega
    have := y2 e1 (by omega)
    have := (x2 (by omega)).2 (by omega)
    omega
  · refine b7 p k v ?_ hk hv
    rcases hpk with h | ⟨h1, h2, h3⟩
    · by_cases c : p < i
      · exact .inl c
      · exact .inr ⟨by omega, by omega, hk⟩
    · omega
theorem BI.step {R : Nat → Prop} {e : Nat → Nat → Option Nat} {M N a n i j v : Nat} {F H L : Nat → Int} (g : GE R e M N a) (b : BI R e M N a F H L n i j) (hi : i < n) (hj : j < M) (hs : e (L i).toNat j = some v) (hf : F v = -9) : BI R e M N a (zup F v (F (L i).toNat + 1)) (zup H v (if F (L i).toNat = 0 then (j : Int) else H (L i).toNat)) (zup L n (v : Int)) (n + 1) i (j + 1) := by
  have hreach := fun {k x : Nat} => BI.reach g b (k := k) (v := x)
  obtain ⟨b1, b2, b3, b4, b5, b6, b7, b8, b9, b10, b11⟩ := b
  obtain ⟨u1, u2, u3, u4, u5⟩ := b2 i hi
  have hR : R v := g.2.1 _ _ _ u2 hj hs
  have hvN : v < N := g.1 v hR
  have uN : (L i).toNat < N := g.1 _ u2
  have nv : ∀ p, p < n → (L p).toNat ≠ v := fun p hp h => by
    have := (b2 p hp).2.2.1
    rw [h] at this; omega
  have eL : ∀ p, p < n → zup L n (v : Int) p = L p := fun p hp => zup_ne (by omega)
  have eF : ∀ (y : Int) p, p < n → zup F v y (L p).toNat = F (L p).toNat := fun y p hp => zup_ne (nv p hp)
  have eH : ∀ (y : Int) p, p < n → zup H v y (L p).toNat = H (L p).toNat := fun y p hp => zup_ne (nv p hp)
  have en : zup L n (v : Int) n = (v : Int) := zup_eq _ _ _
  refine ⟨⟨by omega, by omega, by omega⟩, fun p hp => ?_, fun w hw hwf => ?_, fun p q hpq hq => ?_, fun _ p hp => ?_, fun w hw hwf => ?_, fun p k w hpk hk hw => ?_, fun w hw hwf => ?_, fun w hw hwf => ?_, ?_, ?_⟩
  · by_cases c : p = n
    · subst c
      rw [en, Int.toNat_natCast, zup_eq]
      exact ⟨by omega, hR, by omega, fun _ => by omega, by omega⟩
    · rw [eL p (by omega), eF _ p (by omega)]
      exact b2 p (by omega)
  · by_cases c : w = v
    · subst c
      exact ⟨n, by omega, en⟩
    · rw [zup_ne c] at hwf
      obtain ⟨p, p1, p2⟩ := b3 w hw hwf
      exact ⟨p, by omega, by rw [eL p p1]; exact p2⟩
  · by_cases c : q = n
    · subst c
      by_cases c2 : p = q
      · subst c2; exact ⟨by omega, fun _ _ => by omega⟩
      · have hp : p < q := by omega
        rw [en, eL p hp, Int.toNat_natCast, zup_eq, zup_eq, eF _ p hp, eH _ p hp]
        obtain ⟨x1, x2⟩ := b5 hi p hp
        refine ⟨x1, fun h1 h2 => ?_⟩
        by_cases c3 : F (L i).toNat = 0
        · rw [if_pos c3]
          have := (x2 h1).1 c3
          omega
        · rw [if_neg c3]
          exact (x2 h1).2 c3
    · rw [eL q (by omega), eL p (by omega), eF _ p (by omega), eF _ q (by omega), eH _ p (by omega), eH _ q (by omega)]
      exact b4 p q hpq (by omega)
  · rw [eL i hi, eF _ i hi, eH _ i hi]
    by_cases c : p = n
    · subst c
      rw [en, Int.toNat_natCast, zup_eq, zup_eq]
      refine ⟨by omega, fun _ => ⟨fun h => ?_, fun h => ?_⟩⟩
      · rw [if_pos h]; omega
      · rw [if_neg h]; omega
    · rw [eL p (by omega), eF _ p (by omega), eH _ p (by omega)]
      obtain ⟨x1, x2⟩ := b5 hi p (by omega)
      refine ⟨x1, fun h => ⟨fun h' => ?_, (x2 h).2⟩⟩
      have := (x2 h).1 h'
      omega
  · by_cases c : w = v
    · subst c
      rw [zup_eq, show (F (L i).toNat + 1).toNat = (F (L i).toNat).toNat + 1 by omega]
      exact ⟨(L i).toNat, b6 _ uN (by omega), j, hj, hs⟩
    · rw [zup_ne c] at hwf ⊢
      exact b6 w hw hwf
  · have hp : p < n := by omega
    rw [eL p hp] at hw ⊢
    rw [eF _ p hp]
    by_cases c : p = i ∧ k = j
    · obtain ⟨c1, c2⟩ := c
      subst c1; subst c2
      rw [hs] at hw
      have hw : v = w := by simpa using hw
      subst hw
      rw [zup_eq]
      exact ⟨by omega, by omega⟩
    · have := b7 p k w (by
        rcases hpk with h | ⟨h1, h2, h3⟩
        · exact .inl h
        · exact .inr ⟨h1, hi, by omega⟩) hk hw
      have c2 : w ≠ v := fun h => by rw [h] at this; exact this.1 hf
      rw [zup_ne c2]
      exact this
  · by_cases c : w = v
    · subst c
      rw [zup_eq, zup_eq]
      have e1 : (F (L i).toNat + 1).toNat - 1 = (F (L i).toNat).toNat := by omega
      rw [e1]
      by_cases c3 : F (L i).toNat = 0
      · have ha : a = (L i).toNat := by
          have := b6 _ uN (by omega)
          rw [c3] at this
          exact this
        rw [if_pos c3, c3]
        refine ⟨j, w, rfl, hj, by rw [ha]; exact hs, rfl, fun h' w' h1 h2 h3 => ?_⟩
        have h3 : w' = w := h3
        subst h3
        rw [ha] at h2
        exact (b7 i h' w' (.inr ⟨rfl, hi, h1⟩) (by omega) h2).1 hf
      · rw [if_neg c3]
        obtain ⟨h, x, y1, y2, y3, y4, y5⟩ := b8 _ uN (by omega)
        have e2 : (F (L i).toNat).toNat = ((F (L i).toNat).toNat - 1) + 1 := by omega
        refine ⟨h, x, y1, y2, y3, ?_, fun h' w' h1 h2 h3 => ?_⟩
        · rw [e2]
          exact ⟨_, y4, j, hj, hs⟩
        · rw [e2] at h3
          obtain ⟨z, z1, m, z2, z3⟩ := h3
          have zw : wk (eE e M) (((F (L i).toNat).toNat - 1) + 1) a z := wk_front.mpr ⟨w', ⟨h', by omega, h2⟩, z1⟩
          have zR : R z := GE.walk g zw
          rcases hreach zw with ⟨q1, q2⟩ | ⟨q1, q2⟩
          · obtain ⟨p, p1, p2⟩ := b3 z (g.1 z zR) q1
            have ez : (L p).toNat = z := by omega
            by_cases hp : p < i
            · exact (b7 p m w (.inl hp) z2 (by rw [ez]; exact z3)).1 hf
            · obtain ⟨r1, r2⟩ := b4 i p (by omega) p1
              rw [ez] at r1 r2
              have e3 : F (L i).toNat = F z := by omega
              have r3 := r2 e3 c3
              obtain ⟨h0, x0, s1, s2, s3, s4, s5⟩ := b8 z (g.1 z zR) (by omega)
              rw [← e3] at s5
              exact s5 h' w' (by omega) h2 z1
          · omega
    · rw [zup_ne c] at hwf
      rw [zup_ne c, zup_ne c]
      exact b8 w hw hwf
  · by_cases c : w = v
    · subst c
      rw [zup_eq] at hwf
      omega
    · rw [zup_ne c] at hwf
      rw [zup_ne c]
      exact b9 w hw hwf
  · rw [zup_ne (fun h => by rw [h] at b10; omega)]
    exact b10
  · rw [cnt_up (f := fun v => decide (F v ≠ -9)) (j := v) (by simp [hf]) (by simp only [zup_eq]; exact decide_eq_true (by omega)) hvN (fun k _ hk => by simp only [zup_ne hk]), b11]
    omega
theorem BI.init {R : Nat → Prop} {e : Nat → Nat → Option Nat} {M N a : Nat} {F H L : Nat → Int} (g : GE R e M N a) (ha : F a = 0) (hF : ∀ v, v < N → v ≠ a → F v = -9) (hH : ∀ v, v < N → H v = -9) (hL : L 0 = (a : Int)) : BI R e M N a F H L 1 0 0 := by
  have e0 : ∀ p, p < 1 → L p = (a : Int) := fun p hp => by rw [show p = 0 by omega]; exact hL
  have aN := g.1 a g.2.2
  refine ⟨⟨by omega, by omega, by omega⟩, fun p hp => ?_, fun v hv hf => ?_, fun p q hpq hq => ?_, fun _ p hp => ?_, fun v hv hf => ?_, fun p k v hpk => by omega, fun v hv hf => ?_, fun v hv _ => hH v hv, ha, ?_⟩
  · rw [e0 p hp, Int.toNat_natCast, ha]
    exact ⟨by omega, g.2.2, by omega, fun h => by omega, by omega⟩
  · by_cases c : v = a
    · exact ⟨0, by omega, by rw [hL, c]⟩
    · exact absurd (hF v hv c) hf
  · rw [e0 p (by omega), e0 q hq]
    exact ⟨by omega, fun _ _ => by omega⟩
  · rw [e0 p hp, e0 0 (by omega)]
    exact ⟨by omega, fun h => by omega⟩
  · by_cases c : v = a
    · subst c; rw [ha]; exact rfl
    · exact absurd (hF v hv c) hf
  · by_cases c : v = a
    · subst c; omega
    · rw [hF v hv c] at hf; omega
  · have h1 := cnt_up (f := fun _ => false) (g := fun v => decide (F v ≠ -9)) (j := a) rfl (decide_eq_true (by omega)) aN (fun k hk hn => by simp [hF k hk hn])
    have h0 : ∀ n, cnt (fun _ => false) n = 0 := by
      intro n
      induction n with
      | zero => rfl
      | succ n ih => show cnt (fun _ => false) n + (if false = true then 1 else 0) = 0; rw [ih]; simp
    rw [h1, h0]
    rfl
/-- how far it is from a to v -/
def isD (E : Nat → Nat → Prop) (a v : Nat) (x : Int) : Prop := (x = -9 ∧ ∀ k, ¬ wk E k a v) ∨ (∃ k : Nat, x = k ∧ wk E k a v ∧ ∀ m, m < k → ¬ wk E m a v)
theorem isD.uniq {E : Nat → Nat → Prop} {a v : Nat} {x y : Int} (h : isD E a v x) (k : isD E a v y) : x = y := by
  rcases h with ⟨h1, h2⟩ | ⟨n, h1, h2, h3⟩
  · rcases k with ⟨k1, k2⟩ | ⟨m, k1, k2, k3⟩
    · rw [h1, k1]
    · exact absurd k2 (h2 m)
  · rcases k with ⟨k1, k2⟩ | ⟨m, k1, k2, k3⟩
    · exact absurd h2 (k2 n)
    · have a1 : ¬ n < m := fun q => k3 n q h2
      have a2 : ¬ m < n := fun q => h3 m q k2
      rw [h1, k1, show n = m by omega]
theorem BI.far {R : Nat → Prop} {e : Nat → Nat → Option Nat} {M N a n j : Nat} {F H L : Nat → Int} (g : GE R e M N a) (b : BI R e M N a F H L n n j) {v : Nat} (hv : v < N) : isD (eE e M) a v (F v) := by
  by_cases c : F v = -9
  · refine .inl ⟨c, fun k h => ?_⟩
    rcases b.reach g h with ⟨h1, _⟩ | ⟨h1, _⟩
    · exact h1 c
    · omega
  · have := b.val hv c
    have b6 := b.2.2.2.2.2.1 v hv c
    refine .inr ⟨(F v).toNat, by omega, b6, fun m hm h => ?_⟩
    rcases b.reach g h with ⟨_, h2⟩ | ⟨h1, _⟩
    · omega
    · omega
/-- the first step of a shortest walk: none, or the least -/
def isN (e : Nat → Nat → Option Nat) (M a v : Nat) (f x : Int) : Prop := (x = -9 ∧ f ≤ 0) ∨ (0 < f ∧ ∃ h w : Nat, x = h ∧ h < M ∧ e a h = some w ∧ wk (eE e M) (f.toNat - 1) w v ∧ ∀ h' w', h' < h → e a h' = some w' → ¬ wk (eE e M) (f.toNat - 1) w' v)
theorem BI.head {R : Nat → Prop} {e : Nat → Nat → Option Nat} {M N a n j : Nat} {F H L : Nat → Int} (b : BI R e M N a F H L n n j) {v : Nat} (hv : v < N) : isN e M a v (F v) (H v) := by
  by_cases c : 0 < F v
  · exact .inr ⟨c, b.2.2.2.2.2.2.2.1 v hv c⟩
  · have : F v = -9 ∨ F v = 0 := by
      by_cases c2 : F v = -9
      · exact .inl c2
      · have := b.val hv c2; omega
    exact .inl ⟨b.2.2.2.2.2.2.2.2.1 v hv this, by omega⟩
