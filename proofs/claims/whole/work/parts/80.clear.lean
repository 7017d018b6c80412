/-! clear -/
theorem y_kadd (d : Nat) (V : XM) {n : Int} (a : Int) (hn : (V 3 0 1) = n) (h0 : 0 ≤ n) (h1 : n < 24) : Yf (d + 1) 2 [xr 3 0, xi a] V = some (xi n, xu (xu V 19 0 n.toNat a) 3 0 1 (n + 1)) := by
  rw [s_X0_add, hn, if_pos (by omega), w32_i (by omega) (by omega)]
def kA (V : XM) (n a : Int) : XM := xu (xu V 19 0 n.toNat a) 3 0 1 (n + 1)
def cKin (V : XM) : XM := kA (kA (kA (kA (kA (kA (xu V 3 0 1 0) 0 (-9)) 1 0) 2 0) 3 0) 4 0) 5 4
theorem y_kbegin (d : Nat) (V : XM) : Yf (d + 2) 1 [xr 3 0] V = some (xi 0, cKin V) := by
  rw [s_X0_begin, y_kadd _ _ _ (n := 0) rfl (by omega) (by omega), ci_r]
  rw [s_X0_begin_14, if_neg (by omega), y_kadd _ _ _ (n := 1) rfl (by omega) (by omega), ci_r, show w32 ((1 : Int) + 1) = 2 by decide]
  rw [s_X0_begin_14, if_neg (by omega), y_kadd _ _ _ (n := 2) rfl (by omega) (by omega), ci_r, show w32 ((2 : Int) + 1) = 3 by decide]
  rw [s_X0_begin_14, if_neg (by omega), y_kadd _ _ _ (n := 3) rfl (by omega) (by omega), ci_r, show w32 ((3 : Int) + 1) = 4 by decide]
  rw [s_X0_begin_14, if_neg (by omega), y_kadd _ _ _ (n := 4) rfl (by omega) (by omega), ci_r, show w32 ((4 : Int) + 1) = 5 by decide]
  rw [s_X0_begin_14, if_pos (by omega), y_kadd _ _ _ (n := 5) rfl (by omega) (by omega), ci_r]
  rfl
def cBeg (V : XM) : XM := xu (xu (xu (xu (xu (xu (xu (xu (xu (xu (cKin V) 4 0 7 0) 5 0 9 0) 6 0 4 0) 7 0 15 0) 10 0 6 0) 2 0 12 0) 2 0 13 0) 2 0 14 0) 2 0 15 0) 2 0 16 0
theorem y_cBegin (d : Nat) (V : XM) : Yf (d + 3) 120 [xr 2 0] V = some (xi 0, cBeg V) := by
  rw [s_X11_beginAnew, y_kbegin, cv_r]; rfl
def rB1 (V : XM) : XM := xu (xu (xu (xu (xu (xu (xu (xu V 14 0 0 0) 14 0 1 6) 67 0 0 0) 67 0 1 0) 67 0 2 0) 67 0 3 0) 67 0 4 0) 67 0 5 4
def rB2 (V : XM) : XM := xu (xu (xu (xu (xu (xu (xu (xu (xu V 14 0 3 0) 14 0 9 0) 14 0 22 0) 14 0 29 0) 14 0 39 0) 14 0 45 0) 14 0 56 0) 14 0 27 0) 14 0 44 0
def rB3 (V : XM) (l : Int) : XM := xfl (xfl (xfl V 95 0 l 512 0) 96 0 l 512 (-9)) 97 0 l 512 (-9)
def rBeg (V : XM) : XM := rB3 (xfl (rB2 (rB1 V)) 71 0 0 288 0) 0
theorem x_b110 (d : Nat) : ∀ (m : Nat) (V : XM) (l : Int), (512 - l).toNat ≤ m → 0 ≤ l → l ≤ 512 → Xf d 191 110 [xr 14 0, xi l] [] V = some (xi 0, rB3 V l) := by
  intro m
  induction m with
  | zero =>
    intro V l hm h0 h1
    have hl : l = 512 := by omega
    subst hl
    unfold rB3
    rw [s_X12_begin_110, if_neg (by omega), xfl_0, xfl_0, xfl_0]
  | succ m ih =>
    intro V l hm h0 h1
    by_cases hl : l < 512
    · rw [s_X12_begin_110, if_pos hl, if_pos (by omega), if_pos (by omega), if_pos (by omega), w32_i (by omega) (by omega), ih _ (l + 1) (by omega) (by omega) (by omega)]
      unfold rB3
      rw [xfl_xu (g := 95) (g' := 97) (by decide), xfl_xu (g := 95) (g' := 96) (by decide), xfl_s _ 95 0 _ _ _ h0 hl, xfl_xu (g := 96) (g' := 97) (by decide), xfl_s _ 96 0 _ _ _ h0 hl, xfl_s _ 97 0 _ _ _ h0 hl]
    · have hl : l = 512 := by omega
      subst hl
      unfold rB3
      rw [s_X12_begin_110, if_neg (by omega), xfl_0, xfl_0, xfl_0]
theorem x_b88 (d : Nat) : ∀ (m : Nat) (V : XM) (l : Int), (288 - l).toNat ≤ m → 0 ≤ l → l ≤ 288 → Xf d 191 88 [xr 14 0, xi l] [] V = Xf d 191 110 [xr 14 0, xi 0] [] (xfl V 71 0 l 288 0) := by
  intro m
  induction m with
  | zero =>
    intro V l hm h0 h1
    have hl : l = 288 := by omega
    subst hl
    rw [s_X12_begin_88, if_neg (by omega), xfl_0]
  | succ m ih =>
    intro V l hm h0 h1
    by_cases hl : l < 288
    · rw [s_X12_begin_88, if_pos hl, if_pos (by omega), w32_i (by omega) (by omega), ih _ (l + 1) (by omega) (by omega) (by omega), xfl_s _ 71 0 _ _ _ h0 hl]
    · have hl : l = 288 := by omega
      subst hl
      rw [s_X12_begin_88, if_neg (by omega), xfl_0]
theorem y_rBegin (d : Nat) (V : XM) : Yf (d + 1) 191 [xr 14 0] V = some (xi 0, rBeg V) := by
  rw [s_X12_begin]
  rw [s_X12_begin_13, if_pos (by omega), if_neg (by omega), if_pos (by omega), show w32 ((0 : Int) + 1) = 1 by decide]
  rw [s_X12_begin_13, if_pos (by omega), if_neg (by omega), if_pos (by omega), show w32 ((1 : Int) + 1) = 2 by decide]
  rw [s_X12_begin_13, if_pos (by omega), if_neg (by omega), if_pos (by omega), show w32 ((2 : Int) + 1) = 3 by decide]
  rw [s_X12_begin_13, if_pos (by omega), if_neg (by omega), if_pos (by omega), show w32 ((3 : Int) + 1) = 4 by decide]
  rw [s_X12_begin_13, if_pos (by omega), if_neg (by omega), if_pos (by omega), show w32 ((4 : Int) + 1) = 5 by decide]
  rw [s_X12_begin_13, if_pos (by omega), if_pos (by omega), if_pos (by omega), show w32 ((5 : Int) + 1) = 6 by decide]
  rw [s_X12_begin_13, if_neg (by omega), x_b88 _ 288 _ 0 (by omega) (by omega) (by omega), x_b110 _ 512 _ 0 (by omega) (by omega) (by omega)]
  rfl
set_option maxRecDepth 100000 in
theorem Inv.clear (V : XM) : Inv (rBeg (cBeg V)) := by
  have e67 : ∀ k : Nat, (rBeg (cBeg V)) 67 0 k = (xu (xu (xu (xu (xu (xu V 67 0 0 0) 67 0 1 0) 67 0 2 0) 67 0 3 0) 67 0 4 0) 67 0 5 4) 67 0 k := fun k => rfl
  have e19 : ∀ k : Nat, (rBeg (cBeg V)) 19 0 k = (xu (xu (xu (xu (xu (xu V 19 0 0 (-9)) 19 0 1 0) 19 0 2 0) 19 0 3 0) 19 0 4 0) 19 0 5 4) 19 0 k := fun k => rfl
  have v : ∀ k : Nat, 0 < k → (k : Int) < 6 → (rBeg (cBeg V)) 67 0 k = (if k = 5 then 4 else 0) ∧ (rBeg (cBeg V)) 19 0 k = (if k = 5 then 4 else 0) := by
    intro k h0 h1
    have hk : k = 1 ∨ k = 2 ∨ k = 3 ∨ k = 4 ∨ k = 5 := by omega
    rcases hk with hk | hk | hk | hk | hk <;> subst hk <;> exact ⟨rfl, rfl⟩
  have e71 : (rBeg (cBeg V)) 71 0 = fil (V 71 0) 0 288 0 := xfl_rw V 71 0 0 288 0
  have e95 : (rBeg (cBeg V)) 95 0 = fil (V 95 0) 0 512 0 := xfl_rw V 95 0 0 512 0
  have e96 : (rBeg (cBeg V)) 96 0 = fil (V 96 0) 0 512 (-9) := xfl_rw V 96 0 0 512 (-9)
  have e97 : (rBeg (cBeg V)) 97 0 = fil (V 97 0) 0 512 (-9) := xfl_rw V 97 0 0 512 (-9)
  have t0 : ((rBeg (cBeg V)) 14 0 9) = 0 := rfl
  have p0 : ((rBeg (cBeg V)) 14 0 3) = 0 := rfl
  have s0 : ((rBeg (cBeg V)) 14 0 22) = 0 := rfl
  have q0 : ((rBeg (cBeg V)) 14 0 27) = 0 := rfl
  have r0 : ((rBeg (cBeg V)) 14 0 29) = 0 := rfl
  have f0 : ((rBeg (cBeg V)) 14 0 39) = 0 := rfl
  have b0 : ((rBeg (cBeg V)) 14 0 45) = 0 := rfl
  have w0 : ((rBeg (cBeg V)) 14 0 56) = 0 := rfl
  have k0 : ((rBeg (cBeg V)) 14 0 1) = 6 := rfl
  have z19 : (rBeg (cBeg V)) 19 0 0 = -9 := rfl
  have c2 : ((rBeg (cBeg V)) 3 0 1) = 6 ∧ ((rBeg (cBeg V)) 5 0 9) = 0 ∧ ((rBeg (cBeg V)) 4 0 7) = 0 ∧ ((rBeg (cBeg V)) 6 0 4) = 0 ∧ ((rBeg (cBeg V)) 7 0 15) = 0 ∧ ((rBeg (cBeg V)) 10 0 6) = 0 ∧ ((rBeg (cBeg V)) 2 0 12) = 0 ∧ ((rBeg (cBeg V)) 2 0 13) = 0 ∧ ((rBeg (cBeg V)) 2 0 14) = 0 ∧ ((rBeg (cBeg V)) 2 0 15) = ((rBeg (cBeg V)) 14 0 0) ∧ ((rBeg (cBeg V)) 2 0 16) = ((rBeg (cBeg V)) 14 0 44) := ⟨rfl, rfl, rfl, rfl, rfl, rfl, rfl, rfl, rfl, rfl, rfl⟩
  obtain ⟨c1, c2, c3, c4, c5, c6, c7, c8, c9, c10, c11⟩ := c2
  generalize rBeg (cBeg V) = W at *
  refine ⟨⟨by omega, by omega, by omega, by omega, by omega, by omega, by omega, by omega, by omega, by omega, by omega, by omega, by omega, by omega, by omega, by omega, by omega, by omega, by omega, by omega, by omega, by omega, by omega, by omega, by omega, by omega, by omega, c10, c11⟩, ⟨⟨by omega, fun k h0 h1 => ?_⟩, fun k h0 h1 => ?_, z19⟩, fun q h0 h1 => by omega, ⟨fun q k h0 h1 => by omega, fun q k h0 h1 h2 h3 => ?_⟩, fun q t h0 h1 => by omega, fun t h0 h1 => by omega, fun t h0 h1 => by omega, ⟨fun t h0 h1 => by omega, fun s h0 h1 => by omega⟩, ⟨fun _ => 0, fun t h0 h1 => by omega⟩, fun s h0 h1 => by omega, ⟨fun s h0 h1 => by omega, fun t w h0 h1 => by omega⟩, fun t h0 h1 => by omega, fun w h0 h1 => by omega, ⟨fun p h0 h1 => by omega, fun s h0 h1 => by omega⟩, ⟨fun s h0 h1 => by omega, fun r h0 h1 => by omega, fun s u h0 h1 => by omega⟩, fun e h0 h1 => ⟨fun _ => ?_, fun h2 => by omega⟩, fun t h0 h1 => by omega, fun s h0 h1 => by omega, fun t h0 h1 => by omega, fun i h0 h1 => by omega⟩
  · rw [(v k h0 (by omega)).1]; split <;> omega
  · rw [(v k h0 (by omega)).1, (v k h0 (by omega)).2]
  · rw [e71, fil_in (by omega)]
  · rw [e95, e96, e97, fil_in (by omega), fil_in (by omega), fil_in (by omega)]
    exact ⟨rfl, rfl, rfl⟩
theorem g_clear (d : Nat) (V : XM) (h : Inv V) : AG d 185 307 [] V := by
  obtain ⟨⟨ck1, ck2, ck3, cp1, cp2, cp3, ct1, ct2, ct3, cs1, cs2, cs3, cq1, cq2, cq3, cr1, cr2, cr3, cf1, cf2, cf3, cb1, cb2, cb3, cw1, cw2, cw3, clf, clc⟩, hkin, hpro, husu, hgiv, hthg, hhom, hput, hrin, hsen, hbar, hset, hmos, hpai, hrel, hmap, hdoo, hshe, htab, hwor⟩ := h
  refine AG.mk (x := xi (V 14 0 9)) (V1 := cBeg V) (V2 := rBeg (cBeg V)) ?_ ?_ (Inv.clear V) rfl
  · rw [s_X11_clear, y_cBegin, cv_r, ct3]
  · rw [s_X12_clear, y_rBegin, cv_r]
    rfl
