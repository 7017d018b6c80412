/-! the two beginnings, while the world is being made -/
theorem yt_kadd (d : Nat) (V : XM) {n : Int} (a : Int) (hn : V 3 0 1 = n) (hf : V 3 0 0 = 1) (h0 : 0 ≤ n) (h1 : n < 24) : Yt (d + 1) 2 [xr 3 0, xi a] V = some (xi n, kA V n a) := by
  rw [s_X0_add_t, hn, if_pos hf, if_pos (by omega), w32_i (by omega) (by omega)]
  rfl
theorem kA_f {V : XM} {n a : Int} (h : V 3 0 0 = 1) : (kA V n a) 3 0 0 = 1 := h
theorem yt_kbegin (d : Nat) (V : XM) (hf : V 3 0 0 = 1) : Yt (d + 2) 1 [xr 3 0] V = some (xi 0, cKin V) := by
  have h0 : (xu V 3 0 1 0) 3 0 0 = 1 := hf
  rw [s_X0_begin_t, yt_kadd _ _ _ (n := 0) rfl h0 (by omega) (by omega), ci_r]
  have h1 := kA_f (n := 0) (a := -9) h0
  rw [s_X0_begin_14_t, if_neg (by omega), yt_kadd _ _ _ (n := 1) rfl h1 (by omega) (by omega), ci_r, show w32 ((1 : Int) + 1) = 2 by decide]
  have h2 := kA_f (n := 1) (a := 0) h1
  rw [s_X0_begin_14_t, if_neg (by omega), yt_kadd _ _ _ (n := 2) rfl h2 (by omega) (by omega), ci_r, show w32 ((2 : Int) + 1) = 3 by decide]
  have h3 := kA_f (n := 2) (a := 0) h2
  rw [s_X0_begin_14_t, if_neg (by omega), yt_kadd _ _ _ (n := 3) rfl h3 (by omega) (by omega), ci_r, show w32 ((3 : Int) + 1) = 4 by decide]
  have h4 := kA_f (n := 3) (a := 0) h3
  rw [s_X0_begin_14_t, if_neg (by omega), yt_kadd _ _ _ (n := 4) rfl h4 (by omega) (by omega), ci_r, show w32 ((4 : Int) + 1) = 5 by decide]
  have h5 := kA_f (n := 4) (a := 0) h4
  rw [s_X0_begin_14_t, if_pos (by omega), yt_kadd _ _ _ (n := 5) rfl h5 (by omega) (by omega), ci_r]
  rfl
theorem yt_cBegin (d : Nat) (V : XM) (hf : V 3 0 0 = 1) (f0 : V 2 0 0 = 1) (f1 : V 2 0 1 = 1) (f2 : V 2 0 2 = 1) (f3 : V 2 0 3 = 1) (f4 : V 2 0 4 = 1) (f6 : V 2 0 6 = 1) : Yt (d + 3) 120 [xr 2 0] V = some (xi 0, cBeg V) := by
  have e : ∀ k, (cKin V) 2 0 k = V 2 0 k := fun k => rfl
  rw [s_X11_beginAnew_t, if_pos f0, yt_kbegin _ _ hf, cv_r, e, e, e, e, e, if_pos f1, if_pos f2, if_pos f3, if_pos f4, if_pos f6]
  rfl
theorem xt_b110 (d : Nat) : ∀ (m : Nat) (V : XM) (l : Int), V 14 0 35 = 1 → V 14 0 36 = 1 → V 14 0 37 = 1 → (512 - l).toNat ≤ m → 0 ≤ l → l ≤ 512 → Xt d 191 110 [xr 14 0, xi l] [] V = some (xi 0, rB3 V l) := by
  intro m
  induction m with
  | zero =>
    intro V l a b c hm h0 h1
    have hl : l = 512 := by omega
    subst hl
    unfold rB3
    rw [s_X12_begin_110_t, if_neg (by omega), xfl_0, xfl_0, xfl_0]
  | succ m ih =>
    intro V l a b c hm h0 h1
    by_cases hl : l < 512
    · rw [s_X12_begin_110_t, if_pos hl, if_pos a, if_pos (by omega), if_pos b, if_pos (by omega), if_pos c, if_pos (by omega), w32_i (by omega) (by omega), ih _ (l + 1) (by exact a) (by exact b) (by exact c) (by omega) (by omega) (by omega)]
      unfold rB3
      rw [xfl_xu (g := 95) (g' := 97) (by decide), xfl_xu (g := 95) (g' := 96) (by decide), xfl_s _ 95 0 _ _ _ h0 hl, xfl_xu (g := 96) (g' := 97) (by decide), xfl_s _ 96 0 _ _ _ h0 hl, xfl_s _ 97 0 _ _ _ h0 hl]
    · have hl : l = 512 := by omega
      subst hl
      unfold rB3
      rw [s_X12_begin_110_t, if_neg (by omega), xfl_0, xfl_0, xfl_0]
theorem xt_b88 (d : Nat) : ∀ (m : Nat) (V : XM) (l : Int), V 14 0 7 = 1 → (288 - l).toNat ≤ m → 0 ≤ l → l ≤ 288 → Xt d 191 88 [xr 14 0, xi l] [] V = Xt d 191 110 [xr 14 0, xi 0] [] (xfl V 71 0 l 288 0) := by
  intro m
  induction m with
  | zero =>
    intro V l a hm h0 h1
    have hl : l = 288 := by omega
    subst hl
    rw [s_X12_begin_88_t, if_neg (by omega), xfl_0]
  | succ m ih =>
    intro V l a hm h0 h1
    by_cases hl : l < 288
    · rw [s_X12_begin_88_t, if_pos hl, if_pos a, if_pos (by omega), w32_i (by omega) (by omega), ih _ (l + 1) (by exact a) (by omega) (by omega) (by omega), xfl_s _ 71 0 _ _ _ h0 hl]
    · have hl : l = 288 := by omega
      subst hl
      rw [s_X12_begin_88_t, if_neg (by omega), xfl_0]
theorem yt_rBegin (d : Nat) (V : XM) (a : V 14 0 2 = 1) (b : V 14 0 7 = 1) (c : V 14 0 35 = 1) (e : V 14 0 36 = 1) (f : V 14 0 37 = 1) : Yt (d + 1) 191 [xr 14 0] V = some (xi 0, rBeg V) := by
  rw [s_X12_begin_t]
  rw [s_X12_begin_13_t, if_pos (by omega), if_pos (by exact a), if_neg (by omega), if_pos (by omega), show w32 ((0 : Int) + 1) = 1 by decide]
  rw [s_X12_begin_13_t, if_pos (by omega), if_pos (by exact a), if_neg (by omega), if_pos (by omega), show w32 ((1 : Int) + 1) = 2 by decide]
  rw [s_X12_begin_13_t, if_pos (by omega), if_pos (by exact a), if_neg (by omega), if_pos (by omega), show w32 ((2 : Int) + 1) = 3 by decide]
  rw [s_X12_begin_13_t, if_pos (by omega), if_pos (by exact a), if_neg (by omega), if_pos (by omega), show w32 ((3 : Int) + 1) = 4 by decide]
  rw [s_X12_begin_13_t, if_pos (by omega), if_pos (by exact a), if_neg (by omega), if_pos (by omega), show w32 ((4 : Int) + 1) = 5 by decide]
  rw [s_X12_begin_13_t, if_pos (by omega), if_pos (by exact a), if_pos (by omega), if_pos (by omega), show w32 ((5 : Int) + 1) = 6 by decide]
  rw [s_X12_begin_13_t, if_neg (by omega), xt_b88 _ 288 _ 0 (by exact b) (by omega) (by omega) (by omega), xt_b110 _ 512 _ 0 (by exact c) (by exact e) (by exact f) (by omega) (by omega) (by omega)]
  rfl
