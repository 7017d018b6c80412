/-! among, the reference's loop -/
def knB (N b : Int) : Nat → Bool
  | 0 => true
  | n + 1 => knB N b n && (!bt b n || decide ((n : Int) < N))
def hdB (B : Nat → Int) (N t b : Int) : Nat → Bool
  | 0 => true
  | n + 1 => hdB B N t b n && (!bt b n || (decide ((n : Int) < N) && decide ((n : Int) ≠ t) && decide (isH (B n))))
theorem knB_t {N b : Int} : ∀ n : Nat, knB N b n = true ↔ ∀ i : Nat, i < n → bt b i = true → (i : Int) < N := by
  intro n
  induction n with
  | zero => exact ⟨fun _ i hi => by omega, fun _ => rfl⟩
  | succ n ih =>
    unfold knB
    rw [Bool.and_eq_true, ih]
    simp only [Bool.or_eq_true, Bool.not_eq_true', decide_eq_true_eq]
    constructor
    · rintro ⟨k1, k2⟩ i hi hb
      by_cases e : i = n
      · subst e
        rcases k2 with k | k
        · rw [hb] at k; cases k
        · exact k
      · exact k1 i (by omega) hb
    · intro k
      refine ⟨fun i hi hb => k i (by omega) hb, ?_⟩
      cases hb : bt b n with
      | false => exact .inl rfl
      | true => exact .inr (k n (by omega) hb)
theorem hdB_t {B : Nat → Int} {N t b : Int} : ∀ n : Nat, hdB B N t b n = true ↔ ∀ i : Nat, i < n → bt b i = true → (i : Int) < N ∧ (i : Int) ≠ t ∧ isH (B i) := by
  intro n
  induction n with
  | zero => exact ⟨fun _ i hi => by omega, fun _ => rfl⟩
  | succ n ih =>
    unfold hdB
    rw [Bool.and_eq_true, ih]
    simp only [Bool.or_eq_true, Bool.not_eq_true', Bool.and_eq_true, decide_eq_true_eq]
    constructor
    · rintro ⟨k1, k2⟩ i hi hb
      by_cases e : i = n
      · subst e
        rcases k2 with k | k
        · rw [hb] at k; cases k
        · exact ⟨k.1.1, k.1.2, k.2⟩
      · exact k1 i (by omega) hb
    · intro k
      refine ⟨fun i hi hb => k i (by omega) hb, ?_⟩
      cases hb : bt b n with
      | false => exact .inl rfl
      | true => have := k n (by omega) hb; exact .inr ⟨⟨this.1, this.2.1⟩, this.2.2⟩
theorem hd_kn {B : Nat → Int} {N t b : Int} {n : Nat} (h : hdB B N t b n = true) : knB N b n = true := by
  rw [knB_t]; rw [hdB_t] at h
  exact fun i hi hb => (h i hi hb).1
theorem b2_T {i : Decidable True} : @b2 True i = 1 := by unfold b2; exact if_pos trivial
theorem b2_F {i : Decidable False} : @b2 False i = 0 := by unfold b2; exact if_neg (fun h => h)
theorem x_r15 (d : Nat) (V : XM) {B : Nat → Int} (hb : RB V B) (t b : Int) : ∀ (m : Nat) (l : Nat), 64 - l ≤ m → l ≤ 64 → Xf (d + 4) 240 15 [xr 14 0, xi t, xl b, xr 0 0, xi (b2 (knB (V 14 0 9) b l = true)), xi (b2 (hdB B (V 14 0 9) t b l = true)), xi (l : Int), xr 0 0, xr 0 0, xr 0 0] [] V = Xf (d + 4) 240 15 [xr 14 0, xi t, xl b, xr 0 0, xi (b2 (knB (V 14 0 9) b 64 = true)), xi (b2 (hdB B (V 14 0 9) t b 64 = true)), xi 64, xr 0 0, xr 0 0, xr 0 0] [] V := by
  obtain ⟨hp, ct1, ct2, h6⟩ := id hb
  intro m
  induction m with
  | zero =>
    intro l hm hl
    have : l = 64 := by omega
    subst this
    rfl
  | succ m ih =>
    intro l hm hl
    by_cases h64 : l = 64
    · subst h64; rfl
    have ih := ih (l + 1) (by omega) (by omega)
    rw [← ih]
    have ek : knB (V 14 0 9) b (l + 1) = (knB (V 14 0 9) b l && (!bt b l || decide ((l : Int) < (V 14 0 9)))) := rfl
    have eh : hdB B (V 14 0 9) t b (l + 1) = (hdB B (V 14 0 9) t b l && (!bt b l || (decide ((l : Int) < (V 14 0 9)) && decide ((l : Int) ≠ t) && decide (isH (B l))))) := rfl
    have ew : w32 ((l : Int) + 1) = ((l + 1 : Nat) : Int) := by rw [w32_i (by omega) (by omega)]; omega
    have ebt := bt_rtest b (w := (l : Int)) (by omega) (by omega)
    rw [Int.toNat_natCast] at ebt
    have hkn : hdB B (V 14 0 9) t b l = true → knB (V 14 0 9) b l = true := hd_kn
    have b1 : ∀ p : Prop, [Decidable p] → p → b2 p = 1 := fun p _ hp => b2_1.mpr hp
    have b0 : ∀ p : Prop, [Decidable p] → ¬ p → b2 p = 0 := fun p _ hp => b2_0.mpr hp
    rw [s_X12_among_15, if_pos (by omega), ebt, ek, eh, ew]
    simp only [cmp3_eq]
    clear ih ek eh ebt
    cases hbt : bt b l with
    | false => simp
    | true =>
      rw [if_pos rfl, if_pos rfl]
      cases hk : knB (V 14 0 9) b l with
      | false =>
        have hh : hdB B (V 14 0 9) t b l = false := by
          cases hz : hdB B (V 14 0 9) t b l with
          | false => rfl
          | true => have := hkn hz; rw [hk] at this; cases this
        rw [hh]
        simp [b2_F]
      | true =>
        rw [b1 (true = true) rfl, if_neg (by omega), y_isThing _ V _ ⟨ct1, ct2⟩, ci_r, ite_b2]
        by_cases c1 : (0 : Int) ≤ (l : Int) ∧ (l : Int) < (V 14 0 9)
        · have d1 : decide ((l : Int) < (V 14 0 9)) = true := decide_eq_true c1.2
          rw [if_pos c1, d1]
          cases hh : hdB B (V 14 0 9) t b l with
          | false =>
            rw [b0 (false = true) (by simp), if_pos rfl]
            simp [b2_F, b2_T]
          | true =>
            rw [b1 (true = true) rfl, if_neg (by omega)]
            by_cases c2 : (l : Int) = t
            · have d2 : decide ((l : Int) ≠ t) = false := decide_eq_false (fun k => k c2)
              rw [if_pos c2, d2]
              simp [b2_F, b2_T]
            · have d2 : decide ((l : Int) ≠ t) = true := decide_eq_true c2
              rw [if_neg c2, d2, y_rHolder _ V hb (by omega) c1.2, ci_r, ite_b2, Int.toNat_natCast]
              by_cases c3 : isH (B l)
              · rw [if_pos c3, decide_eq_true c3]
                simp [b2_F, b2_T]
              · rw [if_neg c3, decide_eq_false c3]
                simp [b2_F, b2_T]
        · have d1 : decide ((l : Int) < (V 14 0 9)) = false := decide_eq_false (by omega)
          rw [if_neg c1, d1]
          simp [b2_F, b2_T]
theorem x_r15n (d : Nat) (V : XM) (t b : Int) : ∀ (m : Nat) (l : Int), (64 - l).toNat ≤ m → 0 ≤ l → l ≤ 64 → Xf d 240 15 [xr 14 0, xi t, xl b, xr 0 0, xi 0, xi 0, xi l, xr 0 0, xr 0 0, xr 0 0] [] V = some (xi (-1), V) := by
  intro m
  induction m with
  | zero =>
    intro l hm h0 h1
    rw [s_X12_among_15, if_neg (by omega), if_pos rfl]
  | succ m ih =>
    intro l hm h0 h1
    by_cases hl : l < 64
    · rw [s_X12_among_15, if_pos hl, if_pos rfl, if_pos rfl, w32_i (by omega) (by omega)]
      have := ih (l + 1) (by omega) (by omega) (by omega)
      split
      · exact this
      · exact this
    · rw [s_X12_among_15, if_neg hl, if_pos rfl]
