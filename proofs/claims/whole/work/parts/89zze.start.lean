/-! the beginning holds -/
set_option maxRecDepth 100000 in
theorem Inv.start (Z : XM) (v19 : ∀ k : Nat, 0 < k → (k : Int) < 6 → Z 19 0 k = if k = 5 then 4 else 0) (z19 : Z 19 0 0 = -9) (cc : (Z 3 0 1) = 6 ∧ (Z 5 0 9) = 0 ∧ (Z 4 0 7) = 0 ∧ (Z 6 0 4) = 0 ∧ (Z 7 0 15) = 0 ∧ (Z 10 0 6) = 0 ∧ (Z 2 0 12) = 0 ∧ (Z 2 0 13) = 0 ∧ (Z 2 0 14) = 0 ∧ (Z 2 0 15) = 0 ∧ (Z 2 0 16) = 0) : Inv (rBeg Z) := by
  have v : ∀ k : Nat, 0 < k → (k : Int) < 6 → (rBeg Z) 67 0 k = (if k = 5 then 4 else 0) ∧ (rBeg Z) 19 0 k = (if k = 5 then 4 else 0) := by
    intro k h0 h1
    have hk : k = 1 ∨ k = 2 ∨ k = 3 ∨ k = 4 ∨ k = 5 := by omega
    exact ⟨by rcases hk with hk | hk | hk | hk | hk <;> subst hk <;> rfl, v19 k h0 h1⟩
  have e71 : (rBeg Z) 71 0 = fil (Z 71 0) 0 288 0 := xfl_rw Z 71 0 0 288 0
  have e95 : (rBeg Z) 95 0 = fil (Z 95 0) 0 512 0 := xfl_rw Z 95 0 0 512 0
  have e96 : (rBeg Z) 96 0 = fil (Z 96 0) 0 512 (-9) := xfl_rw Z 96 0 0 512 (-9)
  have e97 : (rBeg Z) 97 0 = fil (Z 97 0) 0 512 (-9) := xfl_rw Z 97 0 0 512 (-9)
  have t0 : ((rBeg Z) 14 0 9) = 0 := rfl
  have p0 : ((rBeg Z) 14 0 3) = 0 := rfl
  have s0 : ((rBeg Z) 14 0 22) = 0 := rfl
  have q0 : ((rBeg Z) 14 0 27) = 0 := rfl
  have r0 : ((rBeg Z) 14 0 29) = 0 := rfl
  have f0 : ((rBeg Z) 14 0 39) = 0 := rfl
  have b0 : ((rBeg Z) 14 0 45) = 0 := rfl
  have w0 : ((rBeg Z) 14 0 56) = 0 := rfl
  have k0 : ((rBeg Z) 14 0 1) = 6 := rfl
  have z19 : (rBeg Z) 19 0 0 = -9 := z19
  have c2 : ((rBeg Z) 3 0 1) = 6 ∧ ((rBeg Z) 5 0 9) = 0 ∧ ((rBeg Z) 4 0 7) = 0 ∧ ((rBeg Z) 6 0 4) = 0 ∧ ((rBeg Z) 7 0 15) = 0 ∧ ((rBeg Z) 10 0 6) = 0 ∧ ((rBeg Z) 2 0 12) = 0 ∧ ((rBeg Z) 2 0 13) = 0 ∧ ((rBeg Z) 2 0 14) = 0 ∧ ((rBeg Z) 2 0 15) = ((rBeg Z) 14 0 0) ∧ ((rBeg Z) 2 0 16) = ((rBeg Z) 14 0 44) := cc
  obtain ⟨c1, c2, c3, c4, c5, c6, c7, c8, c9, c10, c11⟩ := c2
  generalize rBeg Z = W at *
  refine ⟨⟨by omega, by omega, by omega, by omega, by omega, by omega, by omega, by omega, by omega, by omega, by omega, by omega, by omega, by omega, by omega, by omega, by omega, by omega, by omega, by omega, by omega, by omega, by omega, by omega, by omega, by omega, by omega, c10, c11⟩, ⟨⟨by omega, fun k h0 h1 => ?_⟩, fun k h0 h1 => ?_, z19⟩, fun q h0 h1 => by omega, ⟨fun q k h0 h1 => by omega, fun q k h0 h1 h2 h3 => ?_⟩, fun q t h0 h1 => by omega, fun t h0 h1 => by omega, fun t h0 h1 => by omega, ⟨fun t h0 h1 => by omega, fun s h0 h1 => by omega⟩, ⟨fun _ => 0, fun t h0 h1 => by omega⟩, fun s h0 h1 => by omega, ⟨fun s h0 h1 => by omega, fun t w h0 h1 => by omega⟩, fun t h0 h1 => by omega, fun w h0 h1 => by omega, ⟨fun p h0 h1 => by omega, fun s h0 h1 => by omega⟩, ⟨fun s h0 h1 => by omega, fun r h0 h1 => by omega, fun s u h0 h1 => by omega⟩, fun e h0 h1 => ⟨fun _ => ?_, fun h2 => by omega⟩, fun t h0 h1 => by omega, fun s h0 h1 => by omega, fun t h0 h1 => by omega, fun i h0 h1 => by omega⟩
  · rw [(v k h0 (by omega)).1]; split <;> omega
  · rw [(v k h0 (by omega)).1, (v k h0 (by omega)).2]
  · rw [e71, fil_in (by omega)]
  · rw [e95, e96, e97, fil_in (by omega), fil_in (by omega), fil_in (by omega)]
    exact ⟨rfl, rfl, rfl⟩

set_option maxRecDepth 100000 in
theorem Inv_VM (V : XM) : Inv (VM V) := by
  refine Inv.start _ (fun k h0 h1 => ?_) rfl ⟨rfl, rfl, rfl, rfl, rfl, rfl, rfl, rfl, rfl, rfl, rfl⟩
  have hk : k = 1 ∨ k = 2 ∨ k = 3 ∨ k = 4 ∨ k = 5 := by omega
  rcases hk with hk | hk | hk | hk | hk <;> subst hk <;> rfl
set_option maxRecDepth 100000 in
theorem VM_1 (V : XM) : (VM V) 1 = V 1 := rfl
set_option maxRecDepth 100000 in
theorem VM_0 (V : XM) : (VM V) 0 0 0 = 155 := rfl
