/-! haul -/
theorem xff_xu {V : XM} {g i : Nat} {lo hi : Int} {F : Nat → Int} {g' i' n : Nat} {y : Int} (h : g ≠ g') : xff (xu V g' i' n y) g i lo hi F = xu (xff V g i lo hi F) g' i' n y := by
  funext a b c; unfold xff xu
  by_cases h1 : a = g ∧ b = i ∧ (lo ≤ (c : Int) ∧ (c : Int) < hi) <;> by_cases h2 : a = g' ∧ b = i' ∧ c = n
  · exfalso; omega
  · simp only [if_pos h1, if_neg h2]
  · simp only [if_neg h1, if_pos h2]
  · simp only [if_neg h1, if_neg h2]
theorem xu_xu (V : XM) (g i n : Nat) (x y : Int) : xu (xu V g i n x) g i n y = xu V g i n y := by
  funext a b c; unfold xu
  by_cases h : a = g ∧ b = i ∧ c = n
  · simp only [if_pos h]
  · simp only [if_neg h]
theorem xu_self {V : XM} {g i n : Nat} {x : Int} (h : V g i n = x) : xu V g i n x = V := by
  funext a b c; unfold xu
  by_cases k : a = g ∧ b = i ∧ c = n
  · obtain ⟨rfl, rfl, rfl⟩ := k; simp only [and_self, if_true]; exact h.symm
  · simp only [if_neg k]
theorem xff_e (V : XM) (g i : Nat) (lo hi : Int) (F : Nat → Int) (a b c : Nat) : xff V g i lo hi F a b c = if a = g ∧ b = i ∧ (lo ≤ (c : Int) ∧ (c : Int) < hi) then F c else V a b c := rfl
theorem x_ch1 (d : Nat) (G : Nat → Int) (p q : Nat) (b e f : Int) (hb : 0 ≤ b) (hbf : b + f ≤ 16) : ∀ (m : Nat) (V : XM) (l : Int), (f - l).toNat ≤ m → 0 ≤ l → l ≤ f → (∀ c : Nat, (c : Int) < f → G c = V 62 p (b + c).toNat) → Xf d 165 72 [xr 2 0, xr 0 0, xi b, xr 0 0, xi e, xi f, xr 12 p, xr 12 q, xi l] [] V = Xf d 165 110 [xr 2 0, xr 0 0, xr 0 0, xr 0 0, xi e, xi f, xr 0 0, xr 12 q, xi 0] [] (xu (xff V 17 0 l f G) 2 0 16 0) := by
  intro m
  induction m with
  | zero =>
    intro V l hm h0 h1 hG
    rw [s_X11_haul_72, if_neg (by omega), show l = f by omega, xff_0]
  | succ m ih =>
    intro V l hm h0 h1 hG
    by_cases hl : l < f
    · have hg := hG l.toNat (by omega)
      rw [show b + (l.toNat : Int) = b + l by omega] at hg
      rw [s_X11_haul_72, if_pos hl, w32_i (by omega) (by omega), if_pos (by omega), if_pos (by omega), w32_i (by omega) (by omega), ← hg, ih _ (l + 1) (by omega) (by omega) (by omega) (by exact hG), xff_s _ _ _ _ _ _ h0 hl]
    · rw [s_X11_haul_72, if_neg (by omega), show l = f by omega, xff_0]
theorem x_rh1 (d : Nat) (G : Nat → Int) (a c b e f : Int) (ha : 0 ≤ a ∧ a < 10) (hb : 0 ≤ b) (hbf : b + f ≤ 16) : ∀ (m : Nat) (V : XM) (l : Int), (f - l).toNat ≤ m → 0 ≤ l → l ≤ f → (∀ k : Nat, (k : Int) < f → G k = V 101 0 (16 * a + b + k).toNat) → Xf d 283 77 [xr 14 0, xi a, xi b, xi c, xi e, xi f, xi l] [] V = Xf d 283 116 [xr 14 0, xr 0 0, xr 0 0, xi c, xi e, xi f, xr 0 0] [] (xu (xff V 102 0 l f G) 14 0 44 0) := by
  intro m
  induction m with
  | zero =>
    intro V l hm h0 h1 hG
    rw [s_X12_haul_77, if_neg (by omega), show l = f by omega, xff_0]
  | succ m ih =>
    intro V l hm h0 h1 hG
    by_cases hl : l < f
    · have hg := hG l.toNat (by omega)
      rw [show 16 * a + b + (l.toNat : Int) = 16 * a + b + l by omega] at hg
      have e1 : w32 (w32 (w32 (16 * a) + b) + l) = 16 * a + b + l := by simp (disch := omega) only [w32_i]
      rw [s_X12_haul_77, if_pos hl, e1, if_pos (by omega), if_pos (by omega), w32_i (by omega) (by omega), ← hg, ih _ (l + 1) (by omega) (by omega) (by omega) (by exact hG), xff_s _ _ _ _ _ _ h0 hl]
    · rw [s_X12_haul_77, if_neg (by omega), show l = f by omega, xff_0]
theorem x_ch2 (d : Nat) (H : Nat → Int) (q : Nat) (e f M : Int) {T : Int → Prop} (he : 0 ≤ e) (hef : e + f ≤ 16) (hM : 0 ≤ M ∧ M ≤ f) (hT : ∀ k : Int, 0 ≤ k → k < M → T k) (hT2 : M < f → ¬ T M) : ∀ (m : Nat) (V : XM) (l : Int), (M - l).toNat ≤ m → 0 ≤ l → l ≤ M → (V 2 0 16) = l → (∀ k : Int, 0 ≤ k → k < f → V 17 0 k.toNat = H k.toNat) →
    (∀ (W : XM) (k : Int), 0 ≤ k → k < f → W 67 = V 67 → W 19 = V 19 → W 21 = V 21 → W 14 = V 14 → W 12 = V 12 → ∃ x : Int, (x = 0 ↔ ¬ T k) ∧ Yf (d + 2) 163 [xr 2 0, xr 12 q, xi (H k.toNat)] W = some (xi x, W)) →
    Xf (d + 2) 165 110 [xr 2 0, xr 0 0, xr 0 0, xr 0 0, xi e, xi f, xr 0 0, xr 12 q, xi l] [] V = if M = f then some (xi f, xu (xff V 62 q (e + l) (e + M) (fun c => H (c - e.toNat))) 2 0 16 M) else some (xi (-14), xu (xu (xff V 62 q (e + l) (e + M) (fun c => H (c - e.toNat))) 2 0 16 M) 2 0 15 4) := by
  intro m
  induction m with
  | zero =>
    intro V l hm h0 h1 hl hH hY
    have hlM : l = M := by omega
    rw [hlM] at hl
    rw [s_X11_haul_110, hlM, xff_0, xu_self hl]
    by_cases hf : M = f
    · rw [if_neg (by omega), if_pos hf]
    · obtain ⟨x, x1, x2⟩ := hY V M (by omega) (by omega) rfl rfl rfl rfl rfl
      rw [if_pos (by omega), if_pos (by omega), hH M (by omega) (by omega), x2, ci_r, if_pos (x1.mpr (hT2 (by omega))), s_X11_faulted, ci_r, if_neg hf]
      rfl
  | succ m ih =>
    intro V l hm h0 h1 hl hH hY
    by_cases hlM : l = M
    · rw [hlM] at hl
      rw [s_X11_haul_110, hlM, xff_0, xu_self hl]
      by_cases hf : M = f
      · rw [if_neg (by omega), if_pos hf]
      · obtain ⟨x, x1, x2⟩ := hY V M (by omega) (by omega) rfl rfl rfl rfl rfl
        rw [if_pos (by omega), if_pos (by omega), hH M (by omega) (by omega), x2, ci_r, if_pos (x1.mpr (hT2 (by omega))), s_X11_faulted, ci_r, if_neg hf]
        rfl
    · obtain ⟨x, x1, x2⟩ := hY V l h0 (by omega) rfl rfl rfl rfl rfl
      have hx : ¬ x = 0 := fun k => (x1.mp k) (hT l h0 (by omega))
      rw [s_X11_haul_110, if_pos (by omega), if_pos (by omega), hH l h0 (by omega), x2, ci_r, if_neg hx, if_pos (by omega), w32_i (x := e + l) (by omega) (by omega), if_pos (by omega), hl, w32_i (x := l + 1) (by omega) (by omega), hH l h0 (by omega)]
      have := ih (xu (xu V 62 q (e + l).toNat (H l.toNat)) 2 0 16 (l + 1)) (l + 1) (by omega) (by omega) (by omega) rfl (by exact hH) (by exact hY)
      rw [this, xff_xu (by decide), xu_xu, show e + (l + 1) = (e + l) + 1 by omega]
      have es := xff_s V 62 q (e + l) (e + M) (fun c => H (c - e.toNat)) (by omega) (by omega)
      have ev : H ((e + l).toNat - e.toNat) = H l.toNat := by
        rw [show (e + l).toNat - e.toNat = l.toNat by omega]
      rw [ev] at es
      rw [es]
theorem x_rh2 (d : Nat) (H : Nat → Int) (c e f M : Int) {T : Int → Prop} (hc : 0 ≤ c ∧ c < 10) (he : 0 ≤ e) (hef : e + f ≤ 16) (hM : 0 ≤ M ∧ M ≤ f) (hT : ∀ k : Int, 0 ≤ k → k < M → T k) (hT2 : M < f → ¬ T M) : ∀ (m : Nat) (V : XM) (l : Int), (M - l).toNat ≤ m → 0 ≤ l → l ≤ M → (V 14 0 44) = l → (∀ k : Int, 0 ≤ k → k < f → V 102 0 k.toNat = H k.toNat) →
    (∀ (W : XM) (k : Int), 0 ≤ k → k < f → W 67 = V 67 → W 73 = V 73 → W 99 = V 99 → (W 14 0 1) = (V 14 0 1) → (W 14 0 9) = (V 14 0 9) → ∃ x : Int, (x = 0 ↔ ¬ T k) ∧ Yf (d + 3) 279 [xr 14 0, xi c, xi (H k.toNat)] W = some (xi x, W)) →
    Xf (d + 3) 283 116 [xr 14 0, xr 0 0, xr 0 0, xi c, xi e, xi f, xr 0 0] [] V = if M = f then some (xi f, xu (xff V 101 0 (16 * c + e + l) (16 * c + e + M) (fun j => H (j - (16 * c + e).toNat))) 14 0 44 M) else some (xi (-14), xu (xu (xff V 101 0 (16 * c + e + l) (16 * c + e + M) (fun j => H (j - (16 * c + e).toNat))) 14 0 44 M) 14 0 0 4) := by
  intro m
  induction m with
  | zero =>
    intro V l hm h0 h1 hl hH hY
    have hlM : l = M := by omega
    rw [hlM] at hl
    rw [s_X12_haul_116, hl, hlM, xff_0, xu_self hl]
    by_cases hf : M = f
    · rw [if_neg (by omega), if_pos hf, if_pos hf]
    · obtain ⟨x, x1, x2⟩ := hY V M (by omega) (by omega) rfl rfl rfl rfl rfl
      rw [if_pos (by omega), if_pos (by omega), hH M (by omega) (by omega), x2, ci_r, if_pos (x1.mpr (hT2 (by omega))), hl, if_neg hf, s_X12_faulty, ci_r, if_neg hf]
      rfl
  | succ m ih =>
    intro V l hm h0 h1 hl hH hY
    by_cases hlM : l = M
    · rw [hlM] at hl
      rw [s_X12_haul_116, hl, hlM, xff_0, xu_self hl]
      by_cases hf : M = f
      · rw [if_neg (by omega), if_pos hf, if_pos hf]
      · obtain ⟨x, x1, x2⟩ := hY V M (by omega) (by omega) rfl rfl rfl rfl rfl
        rw [if_pos (by omega), if_pos (by omega), hH M (by omega) (by omega), x2, ci_r, if_pos (x1.mpr (hT2 (by omega))), hl, if_neg hf, s_X12_faulty, ci_r, if_neg hf]
        rfl
    · obtain ⟨x, x1, x2⟩ := hY V l h0 (by omega) rfl rfl rfl rfl rfl
      have hx : ¬ x = 0 := fun k => (x1.mp k) (hT l h0 (by omega))
      have e1 : w32 (w32 (w32 (16 * c) + e) + l) = 16 * c + e + l := by simp (disch := omega) only [w32_i]
      rw [s_X12_haul_116, hl, if_pos (by omega), if_pos (by omega), hH l h0 (by omega), x2, ci_r, if_neg hx, hl, if_pos (by omega), e1, if_pos (by omega), w32_i (x := l + 1) (by omega) (by omega), hH l h0 (by omega)]
      have := ih (xu (xu V 101 0 (16 * c + e + l).toNat (H l.toNat)) 14 0 44 (l + 1)) (l + 1) (by omega) (by omega) (by omega) rfl (by exact hH) (by exact hY)
      rw [this, xff_xu (by decide), xu_xu, show 16 * c + e + (l + 1) = (16 * c + e + l) + 1 by omega]
      have es := xff_s V 101 0 (16 * c + e + l) (16 * c + e + M) (fun j => H (j - (16 * c + e).toNat)) (by omega) (by omega)
      have ev : H ((16 * c + e + l).toNat - (16 * c + e).toNat) = H l.toNat := by
        rw [show (16 * c + e + l).toNat - (16 * c + e).toNat = l.toNat by omega]
      rw [ev] at es
      rw [es]
/-- how far a run of takings goes -/
theorem run_ex (T : Int → Prop) : ∀ n : Nat, ∃ M : Int, 0 ≤ M ∧ M ≤ n ∧ (∀ k : Int, 0 ≤ k → k < M → T k) ∧ (M < n → ¬ T M) := by
  intro n
  induction n with
  | zero => exact ⟨0, by omega, by omega, fun k h0 h1 => by omega, fun h => by omega⟩
  | succ n ih =>
    obtain ⟨M, h0, h1, h2, h3⟩ := ih
    by_cases hM : M < n
    · exact ⟨M, h0, by omega, h2, fun _ => h3 hM⟩
    · by_cases hT : T M
      · refine ⟨M + 1, by omega, by omega, fun k k0 k1 => ?_, fun h => by omega⟩
        by_cases hk : k = M
        · rw [hk]; exact hT
        · exact h2 k k0 (by omega)
      · exact ⟨M, h0, by omega, h2, fun _ => hT⟩
