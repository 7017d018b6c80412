theorem xnew_at (n g i : Nat) {V : XM} {k : Nat} {c : Int} {K : Nat → Nat → XM → XR} (h : V 0 0 0 = (n : Int)) (ht : tau n = (g, i)) (hn : Nat.blt n 155 = true) (hk : Nat.beq (WW.1 g) k = true) (hc : decide (WW.2.1 g = c) = true) : xnew WW V k c K = K g i (xz V g i n) := by
  have e : (V 0 0 0).toNat = n := by rw [h]; rfl
  unfold xnew
  rw [e]
  rw [show WW.2.2.2.2.1 n = (g, i) from ht]
  dsimp only
  rw [show Nat.blt n WW.2.2.2.2.2 = true from hn, hk, hc]
  rfl
def ch_2 (V : XM) : XM := (xu (xz V 19 0 2) 3 0 0 1)
set_option maxRecDepth 100000 in
theorem yo_2 (d : Nat) (V : XM) : Yt (d + 1) 0 [xr 3 0] V = xnew WW V 1 24 (fun g1 i1 V1 => if 19 = g1 ∧ 0 = i1 ∧ g1 ≠ 0 then some (xi 0, (xu V1 3 0 0 1)) else none) := Xc_es [] P_X0_init 1 _ _
set_option maxRecDepth 100000 in
theorem y_2_i (d : Nat) (V : XM) (h : V 0 0 0 = 2) : Yt (d + 1) 0 [xr 3 0] V = some (xi 0, ch_2 V) := by
  rw [yo_2, xnew_at 2 19 0, if_pos (c := (19 : Nat) = 19 ∧ (0 : Nat) = 0 ∧ (19 : Nat) ≠ 0) (by decide)]
  · rfl
  all_goals first | exact h | rfl
def ch_4 (V : XM) : XM := (xu (xu (xz (xu (xz (xu (xz (xu (xz (xu (xz (xu (xz V 20 0 4) 4 0 1 1) 21 0 5) 4 0 2 1) 22 0 6) 4 0 3 1) 23 0 7) 4 0 4 1) 24 0 8) 4 0 5 1) 25 0 9) 4 0 6 1) 4 0 0 1)
set_option maxRecDepth 100000 in
theorem yo_4 (d : Nat) (V : XM) : Yt (d + 1) 88 [xr 4 0, xr 3 0] V = xnew WW V 1 64 (fun g1 i1 V1 => if 20 = g1 ∧ 0 = i1 ∧ g1 ≠ 0 then xnew WW (xu V1 4 0 1 1) 1 64 (fun g2 i2 V2 => if 21 = g2 ∧ 0 = i2 ∧ g2 ≠ 0 then xnew WW (xu V2 4 0 2 1) 1 64 (fun g3 i3 V3 => if 22 = g3 ∧ 0 = i3 ∧ g3 ≠ 0 then xnew WW (xu V3 4 0 3 1) 1 64 (fun g4 i4 V4 => if 23 = g4 ∧ 0 = i4 ∧ g4 ≠ 0 then xnew WW (xu V4 4 0 4 1) 1 64 (fun g5 i5 V5 => if 24 = g5 ∧ 0 = i5 ∧ g5 ≠ 0 then xnew WW (xu V5 4 0 5 1) 3 64 (fun g6 i6 V6 => if 25 = g6 ∧ 0 = i6 ∧ g6 ≠ 0 then if 3 = 3 ∧ 0 = 0 ∧ (3 : Nat) ≠ 0 then some (xi 0, (xu (xu V6 4 0 6 1) 4 0 0 1)) else none else none) else none) else none) else none) else none) else none) := Xc_es [] P_X8_init 1 _ _
set_option maxRecDepth 100000 in
theorem y_4_i (d : Nat) (V : XM) (h : V 0 0 0 = 4) : Yt (d + 1) 88 [xr 4 0, xr 3 0] V = some (xi 0, ch_4 V) := by
  rw [yo_4, xnew_at 4 20 0, if_pos (c := (20 : Nat) = 20 ∧ (0 : Nat) = 0 ∧ (20 : Nat) ≠ 0) (by decide), xnew_at 5 21 0, if_pos (c := (21 : Nat) = 21 ∧ (0 : Nat) = 0 ∧ (21 : Nat) ≠ 0) (by decide), xnew_at 6 22 0, if_pos (c := (22 : Nat) = 22 ∧ (0 : Nat) = 0 ∧ (22 : Nat) ≠ 0) (by decide), xnew_at 7 23 0, if_pos (c := (23 : Nat) = 23 ∧ (0 : Nat) = 0 ∧ (23 : Nat) ≠ 0) (by decide), xnew_at 8 24 0, if_pos (c := (24 : Nat) = 24 ∧ (0 : Nat) = 0 ∧ (24 : Nat) ≠ 0) (by decide), xnew_at 9 25 0, if_pos (c := (25 : Nat) = 25 ∧ (0 : Nat) = 0 ∧ (25 : Nat) ≠ 0) (by decide), if_pos (c := (3 : Nat) = 3 ∧ (0 : Nat) = 0 ∧ (3 : Nat) ≠ 0) (by decide)]
  · rfl
  all_goals first | exact h | rfl
def ch_11 (V : XM) : XM := (xu (xu (xu (xz (xu (xz (xu (xz (xu (xz (xu (xz (xu (xz (xu (xz V 26 0 11) 5 0 2 1) 27 0 12) 5 0 3 1) 28 0 13) 5 0 4 1) 29 0 14) 5 0 5 1) 30 0 15) 5 0 6 1) 31 0 16) 5 0 7 1) 32 0 17) 5 0 8 1) 5 0 0 1) 5 0 1 1)
set_option maxRecDepth 100000 in
theorem yo_11 (d : Nat) (V : XM) : Yt (d + 1) 103 [xr 5 0, xr 3 0, xr 4 0] V = xnew WW V 1 12 (fun g1 i1 V1 => if 26 = g1 ∧ 0 = i1 ∧ g1 ≠ 0 then xnew WW (xu V1 5 0 2 1) 1 12 (fun g2 i2 V2 => if 27 = g2 ∧ 0 = i2 ∧ g2 ≠ 0 then xnew WW (xu V2 5 0 3 1) 1 12 (fun g3 i3 V3 => if 28 = g3 ∧ 0 = i3 ∧ g3 ≠ 0 then xnew WW (xu V3 5 0 4 1) 2 288 (fun g4 i4 V4 => if 29 = g4 ∧ 0 = i4 ∧ g4 ≠ 0 then xnew WW (xu V4 5 0 5 1) 3 288 (fun g5 i5 V5 => if 30 = g5 ∧ 0 = i5 ∧ g5 ≠ 0 then xnew WW (xu V5 5 0 6 1) 2 768 (fun g6 i6 V6 => if 31 = g6 ∧ 0 = i6 ∧ g6 ≠ 0 then xnew WW (xu V6 5 0 7 1) 1 768 (fun g7 i7 V7 => if 32 = g7 ∧ 0 = i7 ∧ g7 ≠ 0 then if 3 = 3 ∧ 0 = 0 ∧ (3 : Nat) ≠ 0 then if 4 = 4 ∧ 0 = 0 ∧ (4 : Nat) ≠ 0 then some (xi 0, (xu (xu (xu V7 5 0 8 1) 5 0 0 1) 5 0 1 1)) else none else none else none) else none) else none) else none) else none) else none) else none) := Xc_es [] P_X9_init 1 _ _
set_option maxRecDepth 100000 in
theorem y_11_i (d : Nat) (V : XM) (h : V 0 0 0 = 11) : Yt (d + 1) 103 [xr 5 0, xr 3 0, xr 4 0] V = some (xi 0, ch_11 V) := by
  rw [yo_11, xnew_at 11 26 0, if_pos (c := (26 : Nat) = 26 ∧ (0 : Nat) = 0 ∧ (26 : Nat) ≠ 0) (by decide), xnew_at 12 27 0, if_pos (c := (27 : Nat) = 27 ∧ (0 : Nat) = 0 ∧ (27 : Nat) ≠ 0) (by decide), xnew_at 13 28 0, if_pos (c := (28 : Nat) = 28 ∧ (0 : Nat) = 0 ∧ (28 : Nat) ≠ 0) (by decide), xnew_at 14 29 0, if_pos (c := (29 : Nat) = 29 ∧ (0 : Nat) = 0 ∧ (29 : Nat) ≠ 0) (by decide), xnew_at 15 30 0, if_pos (c := (30 : Nat) = 30 ∧ (0 : Nat) = 0 ∧ (30 : Nat) ≠ 0) (by decide), xnew_at 16 31 0, if_pos (c := (31 : Nat) = 31 ∧ (0 : Nat) = 0 ∧ (31 : Nat) ≠ 0) (by decide), xnew_at 17 32 0, if_pos (c := (32 : Nat) = 32 ∧ (0 : Nat) = 0 ∧ (32 : Nat) ≠ 0) (by decide), if_pos (c := (3 : Nat) = 3 ∧ (0 : Nat) = 0 ∧ (3 : Nat) ≠ 0) (by decide), if_pos (c := (4 : Nat) = 4 ∧ (0 : Nat) = 0 ∧ (4 : Nat) ≠ 0) (by decide)]
  · rfl
  all_goals first | exact h | rfl
def ch_19 (V : XM) : XM := (xu (xz (xu (xz (xu (xz (xu (xz V 33 0 19) 6 0 0 1) 34 0 20) 6 0 1 1) 35 0 21) 6 0 2 1) 36 0 22) 6 0 3 1)
set_option maxRecDepth 100000 in
theorem yo_19 (d : Nat) (V : XM) : Yt (d + 1) 62 [xr 6 0] V = xnew WW V 1 300 (fun g1 i1 V1 => if 33 = g1 ∧ 0 = i1 ∧ g1 ≠ 0 then xnew WW (xu V1 6 0 0 1) 1 300 (fun g2 i2 V2 => if 34 = g2 ∧ 0 = i2 ∧ g2 ≠ 0 then xnew WW (xu V2 6 0 1 1) 1 300 (fun g3 i3 V3 => if 35 = g3 ∧ 0 = i3 ∧ g3 ≠ 0 then xnew WW (xu V3 6 0 2 1) 1 300 (fun g4 i4 V4 => if 36 = g4 ∧ 0 = i4 ∧ g4 ≠ 0 then some (xi 0, (xu V4 6 0 3 1)) else none) else none) else none) else none) := Xc_es [] P_X4_init 1 _ _
set_option maxRecDepth 100000 in
theorem y_19_i (d : Nat) (V : XM) (h : V 0 0 0 = 19) : Yt (d + 1) 62 [xr 6 0] V = some (xi 0, ch_19 V) := by
  rw [yo_19, xnew_at 19 33 0, if_pos (c := (33 : Nat) = 33 ∧ (0 : Nat) = 0 ∧ (33 : Nat) ≠ 0) (by decide), xnew_at 20 34 0, if_pos (c := (34 : Nat) = 34 ∧ (0 : Nat) = 0 ∧ (34 : Nat) ≠ 0) (by decide), xnew_at 21 35 0, if_pos (c := (35 : Nat) = 35 ∧ (0 : Nat) = 0 ∧ (35 : Nat) ≠ 0) (by decide), xnew_at 22 36 0, if_pos (c := (36 : Nat) = 36 ∧ (0 : Nat) = 0 ∧ (36 : Nat) ≠ 0) (by decide)]
  · rfl
  all_goals first | exact h | rfl
def ch_24 (V : XM) : XM := (xu (xu (xu (xz (xu (xz (xu (xz (xu (xz (xu (xz (xu (xz (xu (xz (xu (xz (xu (xz (xu (xz (xu (xz (xu (xz (xu (xz V 37 0 24) 7 0 2 1) 38 0 25) 7 0 3 1) 39 0 26) 7 0 4 1) 40 0 27) 7 0 5 1) 41 0 28) 7 0 6 1) 42 0 29) 7 0 7 1) 43 0 30) 7 0 8 1) 44 0 31) 7 0 9 1) 45 0 32) 7 0 10 1) 46 0 33) 7 0 11 1) 47 0 34) 7 0 12 1) 48 0 35) 7 0 13 1) 49 0 36) 7 0 14 1) 7 0 0 1) 7 0 1 1)
set_option maxRecDepth 100000 in
theorem yo_24 (d : Nat) (V : XM) : Yt (d + 1) 6 [xr 7 0, xr 4 0, xr 6 0] V = xnew WW V 1 384 (fun g1 i1 V1 => if 37 = g1 ∧ 0 = i1 ∧ g1 ≠ 0 then xnew WW (xu V1 7 0 2 1) 1 64 (fun g2 i2 V2 => if 38 = g2 ∧ 0 = i2 ∧ g2 ≠ 0 then xnew WW (xu V2 7 0 3 1) 1 64 (fun g3 i3 V3 => if 39 = g3 ∧ 0 = i3 ∧ g3 ≠ 0 then xnew WW (xu V3 7 0 4 1) 2 64 (fun g4 i4 V4 => if 40 = g4 ∧ 0 = i4 ∧ g4 ≠ 0 then xnew WW (xu V4 7 0 5 1) 2 64 (fun g5 i5 V5 => if 41 = g5 ∧ 0 = i5 ∧ g5 ≠ 0 then xnew WW (xu V5 7 0 6 1) 1 64 (fun g6 i6 V6 => if 42 = g6 ∧ 0 = i6 ∧ g6 ≠ 0 then xnew WW (xu V6 7 0 7 1) 1 64 (fun g7 i7 V7 => if 43 = g7 ∧ 0 = i7 ∧ g7 ≠ 0 then xnew WW (xu V7 7 0 8 1) 1 64 (fun g8 i8 V8 => if 44 = g8 ∧ 0 = i8 ∧ g8 ≠ 0 then xnew WW (xu V8 7 0 9 1) 1 64 (fun g9 i9 V9 => if 45 = g9 ∧ 0 = i9 ∧ g9 ≠ 0 then xnew WW (xu V9 7 0 10 1) 1 16 (fun g10 i10 V10 => if 46 = g10 ∧ 0 = i10 ∧ g10 ≠ 0 then xnew WW (xu V10 7 0 11 1) 1 16 (fun g11 i11 V11 => if 47 = g11 ∧ 0 = i11 ∧ g11 ≠ 0 then xnew WW (xu V11 7 0 12 1) 3 16 (fun g12 i12 V12 => if 48 = g12 ∧ 0 = i12 ∧ g12 ≠ 0 then xnew WW (xu V12 7 0 13 1) 1 16 (fun g13 i13 V13 => if 49 = g13 ∧ 0 = i13 ∧ g13 ≠ 0 then if 4 = 4 ∧ 0 = 0 ∧ (4 : Nat) ≠ 0 then if 6 = 6 ∧ 0 = 0 ∧ (6 : Nat) ≠ 0 then some (xi 0, (xu (xu (xu V13 7 0 14 1) 7 0 0 1) 7 0 1 1)) else none else none else none) else none) else none) else none) else none) else none) else none) else none) else none) else none) else none) else none) else none) := Xc_es [] P_X1_init 1 _ _
set_option maxRecDepth 100000 in
theorem y_24_i (d : Nat) (V : XM) (h : V 0 0 0 = 24) : Yt (d + 1) 6 [xr 7 0, xr 4 0, xr 6 0] V = some (xi 0, ch_24 V) := by
  rw [yo_24, xnew_at 24 37 0, if_pos (c := (37 : Nat) = 37 ∧ (0 : Nat) = 0 ∧ (37 : Nat) ≠ 0) (by decide), xnew_at 25 38 0, if_pos (c := (38 : Nat) = 38 ∧ (0 : Nat) = 0 ∧ (38 : Nat) ≠ 0) (by decide), xnew_at 26 39 0, if_pos (c := (39 : Nat) = 39 ∧ (0 : Nat) = 0 ∧ (39 : Nat) ≠ 0) (by decide), xnew_at 27 40 0, if_pos (c := (40 : Nat) = 40 ∧ (0 : Nat) = 0 ∧ (40 : Nat) ≠ 0) (by decide), xnew_at 28 41 0, if_pos (c := (41 : Nat) = 41 ∧ (0 : Nat) = 0 ∧ (41 : Nat) ≠ 0) (by decide), xnew_at 29 42 0, if_pos (c := (42 : Nat) = 42 ∧ (0 : Nat) = 0 ∧ (42 : Nat) ≠ 0) (by decide), xnew_at 30 43 0, if_pos (c := (43 : Nat) = 43 ∧ (0 : Nat) = 0 ∧ (43 : Nat) ≠ 0) (by decide), xnew_at 31 44 0, if_pos (c := (44 : Nat) = 44 ∧ (0 : Nat) = 0 ∧ (44 : Nat) ≠ 0) (by decide), xnew_at 32 45 0, if_pos (c := (45 : Nat) = 45 ∧ (0 : Nat) = 0 ∧ (45 : Nat) ≠ 0) (by decide), xnew_at 33 46 0, if_pos (c := (46 : Nat) = 46 ∧ (0 : Nat) = 0 ∧ (46 : Nat) ≠ 0) (by decide), xnew_at 34 47 0, if_pos (c := (47 : Nat) = 47 ∧ (0 : Nat) = 0 ∧ (47 : Nat) ≠ 0) (by decide), xnew_at 35 48 0, if_pos (c := (48 : Nat) = 48 ∧ (0 : Nat) = 0 ∧ (48 : Nat) ≠ 0) (by decide), xnew_at 36 49 0, if_pos (c := (49 : Nat) = 49 ∧ (0 : Nat) = 0 ∧ (49 : Nat) ≠ 0) (by decide), if_pos (c := (4 : Nat) = 4 ∧ (0 : Nat) = 0 ∧ (4 : Nat) ≠ 0) (by decide), if_pos (c := (6 : Nat) = 6 ∧ (0 : Nat) = 0 ∧ (6 : Nat) ≠ 0) (by decide)]
  · rfl
  all_goals first | exact h | rfl
def ch_38 (V : XM) : XM := (xu (xu (xu (xz V 50 0 38) 8 0 2 1) 8 0 0 1) 8 0 1 1)
set_option maxRecDepth 100000 in
theorem yo_38 (d : Nat) (V : XM) : Yt (d + 1) 66 [xr 8 0, xr 4 0, xr 7 0] V = xnew WW V 1 7 (fun g1 i1 V1 => if 50 = g1 ∧ 0 = i1 ∧ g1 ≠ 0 then if 4 = 4 ∧ 0 = 0 ∧ (4 : Nat) ≠ 0 then if 7 = 7 ∧ 0 = 0 ∧ (7 : Nat) ≠ 0 then some (xi 0, (xu (xu (xu V1 8 0 2 1) 8 0 0 1) 8 0 1 1)) else none else none else none) := Xc_es [] P_X5_init 1 _ _
set_option maxRecDepth 100000 in
theorem y_38_i (d : Nat) (V : XM) (h : V 0 0 0 = 38) : Yt (d + 1) 66 [xr 8 0, xr 4 0, xr 7 0] V = some (xi 0, ch_38 V) := by
  rw [yo_38, xnew_at 38 50 0, if_pos (c := (50 : Nat) = 50 ∧ (0 : Nat) = 0 ∧ (50 : Nat) ≠ 0) (by decide), if_pos (c := (4 : Nat) = 4 ∧ (0 : Nat) = 0 ∧ (4 : Nat) ≠ 0) (by decide), if_pos (c := (7 : Nat) = 7 ∧ (0 : Nat) = 0 ∧ (7 : Nat) ≠ 0) (by decide)]
  · rfl
  all_goals first | exact h | rfl
def ch_40 (V : XM) : XM := (xu (xz (xu (xz (xu (xz V 51 0 40) 9 0 0 1) 52 0 41) 9 0 1 1) 53 0 42) 9 0 2 1)
set_option maxRecDepth 100000 in
theorem yo_40 (d : Nat) (V : XM) : Yt (d + 1) 116 [xr 9 0] V = xnew WW V 1 64 (fun g1 i1 V1 => if 51 = g1 ∧ 0 = i1 ∧ g1 ≠ 0 then xnew WW (xu V1 9 0 0 1) 1 64 (fun g2 i2 V2 => if 52 = g2 ∧ 0 = i2 ∧ g2 ≠ 0 then xnew WW (xu V2 9 0 1 1) 1 64 (fun g3 i3 V3 => if 53 = g3 ∧ 0 = i3 ∧ g3 ≠ 0 then some (xi 0, (xu V3 9 0 2 1)) else none) else none) else none) := Xc_es [] P_X10_init 1 _ _
set_option maxRecDepth 100000 in
theorem y_40_i (d : Nat) (V : XM) (h : V 0 0 0 = 40) : Yt (d + 1) 116 [xr 9 0] V = some (xi 0, ch_40 V) := by
  rw [yo_40, xnew_at 40 51 0, if_pos (c := (51 : Nat) = 51 ∧ (0 : Nat) = 0 ∧ (51 : Nat) ≠ 0) (by decide), xnew_at 41 52 0, if_pos (c := (52 : Nat) = 52 ∧ (0 : Nat) = 0 ∧ (52 : Nat) ≠ 0) (by decide), xnew_at 42 53 0, if_pos (c := (53 : Nat) = 53 ∧ (0 : Nat) = 0 ∧ (53 : Nat) ≠ 0) (by decide)]
  · rfl
  all_goals first | exact h | rfl
def ch_44 (V : XM) : XM := (xu (xu (xu (xu (xz (xu (xz (xu (xz V 54 0 44) 10 0 3 1) 55 0 45) 10 0 4 1) 56 0 46) 10 0 5 1) 10 0 0 1) 10 0 1 1) 10 0 2 1)
set_option maxRecDepth 100000 in
theorem yo_44 (d : Nat) (V : XM) : Yt (d + 1) 35 [xr 10 0, xr 4 0, xr 6 0, xr 9 0] V = xnew WW V 1 8 (fun g1 i1 V1 => if 54 = g1 ∧ 0 = i1 ∧ g1 ≠ 0 then xnew WW (xu V1 10 0 3 1) 2 512 (fun g2 i2 V2 => if 55 = g2 ∧ 0 = i2 ∧ g2 ≠ 0 then xnew WW (xu V2 10 0 4 1) 2 64 (fun g3 i3 V3 => if 56 = g3 ∧ 0 = i3 ∧ g3 ≠ 0 then if 4 = 4 ∧ 0 = 0 ∧ (4 : Nat) ≠ 0 then if 6 = 6 ∧ 0 = 0 ∧ (6 : Nat) ≠ 0 then if 9 = 9 ∧ 0 = 0 ∧ (9 : Nat) ≠ 0 then some (xi 0, (xu (xu (xu (xu V3 10 0 5 1) 10 0 0 1) 10 0 1 1) 10 0 2 1)) else none else none else none else none) else none) else none) := Xc_es [] P_X2_init 1 _ _
set_option maxRecDepth 100000 in
theorem y_44_i (d : Nat) (V : XM) (h : V 0 0 0 = 44) : Yt (d + 1) 35 [xr 10 0, xr 4 0, xr 6 0, xr 9 0] V = some (xi 0, ch_44 V) := by
  rw [yo_44, xnew_at 44 54 0, if_pos (c := (54 : Nat) = 54 ∧ (0 : Nat) = 0 ∧ (54 : Nat) ≠ 0) (by decide), xnew_at 45 55 0, if_pos (c := (55 : Nat) = 55 ∧ (0 : Nat) = 0 ∧ (55 : Nat) ≠ 0) (by decide), xnew_at 46 56 0, if_pos (c := (56 : Nat) = 56 ∧ (0 : Nat) = 0 ∧ (56 : Nat) ≠ 0) (by decide), if_pos (c := (4 : Nat) = 4 ∧ (0 : Nat) = 0 ∧ (4 : Nat) ≠ 0) (by decide), if_pos (c := (6 : Nat) = 6 ∧ (0 : Nat) = 0 ∧ (6 : Nat) ≠ 0) (by decide), if_pos (c := (9 : Nat) = 9 ∧ (0 : Nat) = 0 ∧ (9 : Nat) ≠ 0) (by decide)]
  · rfl
  all_goals first | exact h | rfl
def ch_48 (V : XM) : XM := (xu (xu (xu (xz (xu (xz (xu (xz (xu (xz (xu (xz V 57 0 48) 11 0 2 1) 58 0 49) 11 0 3 1) 59 0 50) 11 0 4 1) 60 0 51) 11 0 5 1) 61 0 52) 11 0 6 1) 11 0 0 1) 11 0 1 1)
set_option maxRecDepth 100000 in
theorem yo_48 (d : Nat) (V : XM) : Yt (d + 1) 49 [xr 11 0, xr 4 0, xr 9 0] V = xnew WW V 1 512 (fun g1 i1 V1 => if 57 = g1 ∧ 0 = i1 ∧ g1 ≠ 0 then xnew WW (xu V1 11 0 2 1) 1 512 (fun g2 i2 V2 => if 58 = g2 ∧ 0 = i2 ∧ g2 ≠ 0 then xnew WW (xu V2 11 0 3 1) 1 512 (fun g3 i3 V3 => if 59 = g3 ∧ 0 = i3 ∧ g3 ≠ 0 then xnew WW (xu V3 11 0 4 1) 1 512 (fun g4 i4 V4 => if 60 = g4 ∧ 0 = i4 ∧ g4 ≠ 0 then xnew WW (xu V4 11 0 5 1) 1 64 (fun g5 i5 V5 => if 61 = g5 ∧ 0 = i5 ∧ g5 ≠ 0 then if 4 = 4 ∧ 0 = 0 ∧ (4 : Nat) ≠ 0 then if 9 = 9 ∧ 0 = 0 ∧ (9 : Nat) ≠ 0 then some (xi 0, (xu (xu (xu V5 11 0 6 1) 11 0 0 1) 11 0 1 1)) else none else none else none) else none) else none) else none) else none) := Xc_es [] P_X3_init 1 _ _
set_option maxRecDepth 100000 in
theorem y_48_i (d : Nat) (V : XM) (h : V 0 0 0 = 48) : Yt (d + 1) 49 [xr 11 0, xr 4 0, xr 9 0] V = some (xi 0, ch_48 V) := by
  rw [yo_48, xnew_at 48 57 0, if_pos (c := (57 : Nat) = 57 ∧ (0 : Nat) = 0 ∧ (57 : Nat) ≠ 0) (by decide), xnew_at 49 58 0, if_pos (c := (58 : Nat) = 58 ∧ (0 : Nat) = 0 ∧ (58 : Nat) ≠ 0) (by decide), xnew_at 50 59 0, if_pos (c := (59 : Nat) = 59 ∧ (0 : Nat) = 0 ∧ (59 : Nat) ≠ 0) (by decide), xnew_at 51 60 0, if_pos (c := (60 : Nat) = 60 ∧ (0 : Nat) = 0 ∧ (60 : Nat) ≠ 0) (by decide), xnew_at 52 61 0, if_pos (c := (61 : Nat) = 61 ∧ (0 : Nat) = 0 ∧ (61 : Nat) ≠ 0) (by decide), if_pos (c := (4 : Nat) = 4 ∧ (0 : Nat) = 0 ∧ (4 : Nat) ≠ 0) (by decide), if_pos (c := (9 : Nat) = 9 ∧ (0 : Nat) = 0 ∧ (9 : Nat) ≠ 0) (by decide)]
  · rfl
  all_goals first | exact h | rfl
def ch_55 (V : XM) : XM := (xu (xz V 62 0 55) 12 0 0 1)
set_option maxRecDepth 100000 in
theorem yo_55 (d : Nat) (V : XM) : Yt (d + 1) 72 [xr 12 0] V = xnew WW V 1 16 (fun g1 i1 V1 => if 62 = g1 ∧ 0 = i1 ∧ g1 ≠ 0 then some (xi 0, (xu V1 12 0 0 1)) else none) := Xc_es [] P_X6_init 1 _ _
set_option maxRecDepth 100000 in
theorem y_55_i (d : Nat) (V : XM) (h : V 0 0 0 = 55) : Yt (d + 1) 72 [xr 12 0] V = some (xi 0, ch_55 V) := by
  rw [yo_55, xnew_at 55 62 0, if_pos (c := (62 : Nat) = 62 ∧ (0 : Nat) = 0 ∧ (62 : Nat) ≠ 0) (by decide)]
  · rfl
  all_goals first | exact h | rfl
def ch_57 (V : XM) : XM := (xu (xz V 62 1 57) 12 1 0 1)
set_option maxRecDepth 100000 in
theorem yo_57 (d : Nat) (V : XM) : Yt (d + 1) 72 [xr 12 1] V = xnew WW V 1 16 (fun g1 i1 V1 => if 62 = g1 ∧ 1 = i1 ∧ g1 ≠ 0 then some (xi 0, (xu V1 12 1 0 1)) else none) := Xc_es [] P_X6_init 1 _ _
set_option maxRecDepth 100000 in
theorem y_57_i (d : Nat) (V : XM) (h : V 0 0 0 = 57) : Yt (d + 1) 72 [xr 12 1] V = some (xi 0, ch_57 V) := by
  rw [yo_57, xnew_at 57 62 1, if_pos (c := (62 : Nat) = 62 ∧ (1 : Nat) = 1 ∧ (62 : Nat) ≠ 0) (by decide)]
  · rfl
  all_goals first | exact h | rfl
def ch_59 (V : XM) : XM := (xu (xz V 62 2 59) 12 2 0 1)
set_option maxRecDepth 100000 in
theorem yo_59 (d : Nat) (V : XM) : Yt (d + 1) 72 [xr 12 2] V = xnew WW V 1 16 (fun g1 i1 V1 => if 62 = g1 ∧ 2 = i1 ∧ g1 ≠ 0 then some (xi 0, (xu V1 12 2 0 1)) else none) := Xc_es [] P_X6_init 1 _ _
set_option maxRecDepth 100000 in
theorem y_59_i (d : Nat) (V : XM) (h : V 0 0 0 = 59) : Yt (d + 1) 72 [xr 12 2] V = some (xi 0, ch_59 V) := by
  rw [yo_59, xnew_at 59 62 2, if_pos (c := (62 : Nat) = 62 ∧ (2 : Nat) = 2 ∧ (62 : Nat) ≠ 0) (by decide)]
  · rfl
  all_goals first | exact h | rfl
def ch_61 (V : XM) : XM := (xu (xz V 62 3 61) 12 3 0 1)
set_option maxRecDepth 100000 in
theorem yo_61 (d : Nat) (V : XM) : Yt (d + 1) 72 [xr 12 3] V = xnew WW V 1 16 (fun g1 i1 V1 => if 62 = g1 ∧ 3 = i1 ∧ g1 ≠ 0 then some (xi 0, (xu V1 12 3 0 1)) else none) := Xc_es [] P_X6_init 1 _ _
set_option maxRecDepth 100000 in
theorem y_61_i (d : Nat) (V : XM) (h : V 0 0 0 = 61) : Yt (d + 1) 72 [xr 12 3] V = some (xi 0, ch_61 V) := by
  rw [yo_61, xnew_at 61 62 3, if_pos (c := (62 : Nat) = 62 ∧ (3 : Nat) = 3 ∧ (62 : Nat) ≠ 0) (by decide)]
  · rfl
  all_goals first | exact h | rfl
def ch_63 (V : XM) : XM := (xu (xz V 62 4 63) 12 4 0 1)
set_option maxRecDepth 100000 in
theorem yo_63 (d : Nat) (V : XM) : Yt (d + 1) 72 [xr 12 4] V = xnew WW V 1 16 (fun g1 i1 V1 => if 62 = g1 ∧ 4 = i1 ∧ g1 ≠ 0 then some (xi 0, (xu V1 12 4 0 1)) else none) := Xc_es [] P_X6_init 1 _ _
set_option maxRecDepth 100000 in
theorem y_63_i (d : Nat) (V : XM) (h : V 0 0 0 = 63) : Yt (d + 1) 72 [xr 12 4] V = some (xi 0, ch_63 V) := by
  rw [yo_63, xnew_at 63 62 4, if_pos (c := (62 : Nat) = 62 ∧ (4 : Nat) = 4 ∧ (62 : Nat) ≠ 0) (by decide)]
  · rfl
  all_goals first | exact h | rfl
def ch_65 (V : XM) : XM := (xu (xz V 62 5 65) 12 5 0 1)
set_option maxRecDepth 100000 in
theorem yo_65 (d : Nat) (V : XM) : Yt (d + 1) 72 [xr 12 5] V = xnew WW V 1 16 (fun g1 i1 V1 => if 62 = g1 ∧ 5 = i1 ∧ g1 ≠ 0 then some (xi 0, (xu V1 12 5 0 1)) else none) := Xc_es [] P_X6_init 1 _ _
set_option maxRecDepth 100000 in
theorem y_65_i (d : Nat) (V : XM) (h : V 0 0 0 = 65) : Yt (d + 1) 72 [xr 12 5] V = some (xi 0, ch_65 V) := by
  rw [yo_65, xnew_at 65 62 5, if_pos (c := (62 : Nat) = 62 ∧ (5 : Nat) = 5 ∧ (62 : Nat) ≠ 0) (by decide)]
  · rfl
  all_goals first | exact h | rfl
def ch_67 (V : XM) : XM := (xu (xz V 62 6 67) 12 6 0 1)
set_option maxRecDepth 100000 in
theorem yo_67 (d : Nat) (V : XM) : Yt (d + 1) 72 [xr 12 6] V = xnew WW V 1 16 (fun g1 i1 V1 => if 62 = g1 ∧ 6 = i1 ∧ g1 ≠ 0 then some (xi 0, (xu V1 12 6 0 1)) else none) := Xc_es [] P_X6_init 1 _ _
set_option maxRecDepth 100000 in
theorem y_67_i (d : Nat) (V : XM) (h : V 0 0 0 = 67) : Yt (d + 1) 72 [xr 12 6] V = some (xi 0, ch_67 V) := by
  rw [yo_67, xnew_at 67 62 6, if_pos (c := (62 : Nat) = 62 ∧ (6 : Nat) = 6 ∧ (62 : Nat) ≠ 0) (by decide)]
  · rfl
  all_goals first | exact h | rfl
def ch_69 (V : XM) : XM := (xu (xz V 62 7 69) 12 7 0 1)
set_option maxRecDepth 100000 in
theorem yo_69 (d : Nat) (V : XM) : Yt (d + 1) 72 [xr 12 7] V = xnew WW V 1 16 (fun g1 i1 V1 => if 62 = g1 ∧ 7 = i1 ∧ g1 ≠ 0 then some (xi 0, (xu V1 12 7 0 1)) else none) := Xc_es [] P_X6_init 1 _ _
set_option maxRecDepth 100000 in
theorem y_69_i (d : Nat) (V : XM) (h : V 0 0 0 = 69) : Yt (d + 1) 72 [xr 12 7] V = some (xi 0, ch_69 V) := by
  rw [yo_69, xnew_at 69 62 7, if_pos (c := (62 : Nat) = 62 ∧ (7 : Nat) = 7 ∧ (62 : Nat) ≠ 0) (by decide)]
  · rfl
  all_goals first | exact h | rfl
def ch_71 (V : XM) : XM := (xu (xz V 62 8 71) 12 8 0 1)
set_option maxRecDepth 100000 in
theorem yo_71 (d : Nat) (V : XM) : Yt (d + 1) 72 [xr 12 8] V = xnew WW V 1 16 (fun g1 i1 V1 => if 62 = g1 ∧ 8 = i1 ∧ g1 ≠ 0 then some (xi 0, (xu V1 12 8 0 1)) else none) := Xc_es [] P_X6_init 1 _ _
set_option maxRecDepth 100000 in
theorem y_71_i (d : Nat) (V : XM) (h : V 0 0 0 = 71) : Yt (d + 1) 72 [xr 12 8] V = some (xi 0, ch_71 V) := by
  rw [yo_71, xnew_at 71 62 8, if_pos (c := (62 : Nat) = 62 ∧ (8 : Nat) = 8 ∧ (62 : Nat) ≠ 0) (by decide)]
  · rfl
  all_goals first | exact h | rfl
def ch_73 (V : XM) : XM := (xu (xz V 62 9 73) 12 9 0 1)
set_option maxRecDepth 100000 in
theorem yo_73 (d : Nat) (V : XM) : Yt (d + 1) 72 [xr 12 9] V = xnew WW V 1 16 (fun g1 i1 V1 => if 62 = g1 ∧ 9 = i1 ∧ g1 ≠ 0 then some (xi 0, (xu V1 12 9 0 1)) else none) := Xc_es [] P_X6_init 1 _ _
set_option maxRecDepth 100000 in
theorem y_73_i (d : Nat) (V : XM) (h : V 0 0 0 = 73) : Yt (d + 1) 72 [xr 12 9] V = some (xi 0, ch_73 V) := by
  rw [yo_73, xnew_at 73 62 9, if_pos (c := (62 : Nat) = 62 ∧ (9 : Nat) = 9 ∧ (62 : Nat) ≠ 0) (by decide)]
  · rfl
  all_goals first | exact h | rfl
def ch_76 (V : XM) : XM := (xu (xz (xu (xz (xu (xz (xu (xz V 63 0 76) 13 0 0 1) 64 0 77) 13 0 1 1) 65 0 78) 13 0 2 1) 66 0 79) 13 0 3 1)
set_option maxRecDepth 100000 in
theorem yo_76 (d : Nat) (V : XM) : Yt (d + 1) 75 [xr 13 0] V = xnew WW V 2 80 (fun g1 i1 V1 => if 63 = g1 ∧ 0 = i1 ∧ g1 ≠ 0 then xnew WW (xu V1 13 0 0 1) 3 80 (fun g2 i2 V2 => if 64 = g2 ∧ 0 = i2 ∧ g2 ≠ 0 then xnew WW (xu V2 13 0 1 1) 1 5 (fun g3 i3 V3 => if 65 = g3 ∧ 0 = i3 ∧ g3 ≠ 0 then xnew WW (xu V3 13 0 2 1) 1 16 (fun g4 i4 V4 => if 66 = g4 ∧ 0 = i4 ∧ g4 ≠ 0 then some (xi 0, (xu V4 13 0 3 1)) else none) else none) else none) else none) := Xc_es [] P_X7_init 1 _ _
set_option maxRecDepth 100000 in
theorem y_76_i (d : Nat) (V : XM) (h : V 0 0 0 = 76) : Yt (d + 1) 75 [xr 13 0] V = some (xi 0, ch_76 V) := by
  rw [yo_76, xnew_at 76 63 0, if_pos (c := (63 : Nat) = 63 ∧ (0 : Nat) = 0 ∧ (63 : Nat) ≠ 0) (by decide), xnew_at 77 64 0, if_pos (c := (64 : Nat) = 64 ∧ (0 : Nat) = 0 ∧ (64 : Nat) ≠ 0) (by decide), xnew_at 78 65 0, if_pos (c := (65 : Nat) = 65 ∧ (0 : Nat) = 0 ∧ (65 : Nat) ≠ 0) (by decide), xnew_at 79 66 0, if_pos (c := (66 : Nat) = 66 ∧ (0 : Nat) = 0 ∧ (66 : Nat) ≠ 0) (by decide)]
  · rfl
  all_goals first | exact h | rfl
def ch_81 (V : XM) : XM := (xu (xz (xu (xz (xu (xz (xu (xz V 63 1 81) 13 1 0 1) 64 1 82) 13 1 1 1) 65 1 83) 13 1 2 1) 66 1 84) 13 1 3 1)
set_option maxRecDepth 100000 in
theorem yo_81 (d : Nat) (V : XM) : Yt (d + 1) 75 [xr 13 1] V = xnew WW V 2 80 (fun g1 i1 V1 => if 63 = g1 ∧ 1 = i1 ∧ g1 ≠ 0 then xnew WW (xu V1 13 1 0 1) 3 80 (fun g2 i2 V2 => if 64 = g2 ∧ 1 = i2 ∧ g2 ≠ 0 then xnew WW (xu V2 13 1 1 1) 1 5 (fun g3 i3 V3 => if 65 = g3 ∧ 1 = i3 ∧ g3 ≠ 0 then xnew WW (xu V3 13 1 2 1) 1 16 (fun g4 i4 V4 => if 66 = g4 ∧ 1 = i4 ∧ g4 ≠ 0 then some (xi 0, (xu V4 13 1 3 1)) else none) else none) else none) else none) := Xc_es [] P_X7_init 1 _ _
set_option maxRecDepth 100000 in
theorem y_81_i (d : Nat) (V : XM) (h : V 0 0 0 = 81) : Yt (d + 1) 75 [xr 13 1] V = some (xi 0, ch_81 V) := by
  rw [yo_81, xnew_at 81 63 1, if_pos (c := (63 : Nat) = 63 ∧ (1 : Nat) = 1 ∧ (63 : Nat) ≠ 0) (by decide), xnew_at 82 64 1, if_pos (c := (64 : Nat) = 64 ∧ (1 : Nat) = 1 ∧ (64 : Nat) ≠ 0) (by decide), xnew_at 83 65 1, if_pos (c := (65 : Nat) = 65 ∧ (1 : Nat) = 1 ∧ (65 : Nat) ≠ 0) (by decide), xnew_at 84 66 1, if_pos (c := (66 : Nat) = 66 ∧ (1 : Nat) = 1 ∧ (66 : Nat) ≠ 0) (by decide)]
  · rfl
  all_goals first | exact h | rfl
def ch_86 (V : XM) : XM := (xu (xz (xu (xz (xu (xz (xu (xz V 63 2 86) 13 2 0 1) 64 2 87) 13 2 1 1) 65 2 88) 13 2 2 1) 66 2 89) 13 2 3 1)
set_option maxRecDepth 100000 in
theorem yo_86 (d : Nat) (V : XM) : Yt (d + 1) 75 [xr 13 2] V = xnew WW V 2 80 (fun g1 i1 V1 => if 63 = g1 ∧ 2 = i1 ∧ g1 ≠ 0 then xnew WW (xu V1 13 2 0 1) 3 80 (fun g2 i2 V2 => if 64 = g2 ∧ 2 = i2 ∧ g2 ≠ 0 then xnew WW (xu V2 13 2 1 1) 1 5 (fun g3 i3 V3 => if 65 = g3 ∧ 2 = i3 ∧ g3 ≠ 0 then xnew WW (xu V3 13 2 2 1) 1 16 (fun g4 i4 V4 => if 66 = g4 ∧ 2 = i4 ∧ g4 ≠ 0 then some (xi 0, (xu V4 13 2 3 1)) else none) else none) else none) else none) := Xc_es [] P_X7_init 1 _ _
set_option maxRecDepth 100000 in
theorem y_86_i (d : Nat) (V : XM) (h : V 0 0 0 = 86) : Yt (d + 1) 75 [xr 13 2] V = some (xi 0, ch_86 V) := by
  rw [yo_86, xnew_at 86 63 2, if_pos (c := (63 : Nat) = 63 ∧ (2 : Nat) = 2 ∧ (63 : Nat) ≠ 0) (by decide), xnew_at 87 64 2, if_pos (c := (64 : Nat) = 64 ∧ (2 : Nat) = 2 ∧ (64 : Nat) ≠ 0) (by decide), xnew_at 88 65 2, if_pos (c := (65 : Nat) = 65 ∧ (2 : Nat) = 2 ∧ (65 : Nat) ≠ 0) (by decide), xnew_at 89 66 2, if_pos (c := (66 : Nat) = 66 ∧ (2 : Nat) = 2 ∧ (66 : Nat) ≠ 0) (by decide)]
  · rfl
  all_goals first | exact h | rfl
def ch_91 (V : XM) : XM := (xu (xz (xu (xz (xu (xz (xu (xz V 63 3 91) 13 3 0 1) 64 3 92) 13 3 1 1) 65 3 93) 13 3 2 1) 66 3 94) 13 3 3 1)
set_option maxRecDepth 100000 in
theorem yo_91 (d : Nat) (V : XM) : Yt (d + 1) 75 [xr 13 3] V = xnew WW V 2 80 (fun g1 i1 V1 => if 63 = g1 ∧ 3 = i1 ∧ g1 ≠ 0 then xnew WW (xu V1 13 3 0 1) 3 80 (fun g2 i2 V2 => if 64 = g2 ∧ 3 = i2 ∧ g2 ≠ 0 then xnew WW (xu V2 13 3 1 1) 1 5 (fun g3 i3 V3 => if 65 = g3 ∧ 3 = i3 ∧ g3 ≠ 0 then xnew WW (xu V3 13 3 2 1) 1 16 (fun g4 i4 V4 => if 66 = g4 ∧ 3 = i4 ∧ g4 ≠ 0 then some (xi 0, (xu V4 13 3 3 1)) else none) else none) else none) else none) := Xc_es [] P_X7_init 1 _ _
set_option maxRecDepth 100000 in
theorem y_91_i (d : Nat) (V : XM) (h : V 0 0 0 = 91) : Yt (d + 1) 75 [xr 13 3] V = some (xi 0, ch_91 V) := by
  rw [yo_91, xnew_at 91 63 3, if_pos (c := (63 : Nat) = 63 ∧ (3 : Nat) = 3 ∧ (63 : Nat) ≠ 0) (by decide), xnew_at 92 64 3, if_pos (c := (64 : Nat) = 64 ∧ (3 : Nat) = 3 ∧ (64 : Nat) ≠ 0) (by decide), xnew_at 93 65 3, if_pos (c := (65 : Nat) = 65 ∧ (3 : Nat) = 3 ∧ (65 : Nat) ≠ 0) (by decide), xnew_at 94 66 3, if_pos (c := (66 : Nat) = 66 ∧ (3 : Nat) = 3 ∧ (66 : Nat) ≠ 0) (by decide)]
  · rfl
  all_goals first | exact h | rfl
def ch_96 (V : XM) : XM := (xu (xz (xu (xz (xu (xz (xu (xz V 63 4 96) 13 4 0 1) 64 4 97) 13 4 1 1) 65 4 98) 13 4 2 1) 66 4 99) 13 4 3 1)
set_option maxRecDepth 100000 in
theorem yo_96 (d : Nat) (V : XM) : Yt (d + 1) 75 [xr 13 4] V = xnew WW V 2 80 (fun g1 i1 V1 => if 63 = g1 ∧ 4 = i1 ∧ g1 ≠ 0 then xnew WW (xu V1 13 4 0 1) 3 80 (fun g2 i2 V2 => if 64 = g2 ∧ 4 = i2 ∧ g2 ≠ 0 then xnew WW (xu V2 13 4 1 1) 1 5 (fun g3 i3 V3 => if 65 = g3 ∧ 4 = i3 ∧ g3 ≠ 0 then xnew WW (xu V3 13 4 2 1) 1 16 (fun g4 i4 V4 => if 66 = g4 ∧ 4 = i4 ∧ g4 ≠ 0 then some (xi 0, (xu V4 13 4 3 1)) else none) else none) else none) else none) := Xc_es [] P_X7_init 1 _ _
set_option maxRecDepth 100000 in
theorem y_96_i (d : Nat) (V : XM) (h : V 0 0 0 = 96) : Yt (d + 1) 75 [xr 13 4] V = some (xi 0, ch_96 V) := by
  rw [yo_96, xnew_at 96 63 4, if_pos (c := (63 : Nat) = 63 ∧ (4 : Nat) = 4 ∧ (63 : Nat) ≠ 0) (by decide), xnew_at 97 64 4, if_pos (c := (64 : Nat) = 64 ∧ (4 : Nat) = 4 ∧ (64 : Nat) ≠ 0) (by decide), xnew_at 98 65 4, if_pos (c := (65 : Nat) = 65 ∧ (4 : Nat) = 4 ∧ (65 : Nat) ≠ 0) (by decide), xnew_at 99 66 4, if_pos (c := (66 : Nat) = 66 ∧ (4 : Nat) = 4 ∧ (66 : Nat) ≠ 0) (by decide)]
  · rfl
  all_goals first | exact h | rfl
def ch_101 (V : XM) : XM := (xu (xz (xu (xz (xu (xz (xu (xz V 63 5 101) 13 5 0 1) 64 5 102) 13 5 1 1) 65 5 103) 13 5 2 1) 66 5 104) 13 5 3 1)
set_option maxRecDepth 100000 in
theorem yo_101 (d : Nat) (V : XM) : Yt (d + 1) 75 [xr 13 5] V = xnew WW V 2 80 (fun g1 i1 V1 => if 63 = g1 ∧ 5 = i1 ∧ g1 ≠ 0 then xnew WW (xu V1 13 5 0 1) 3 80 (fun g2 i2 V2 => if 64 = g2 ∧ 5 = i2 ∧ g2 ≠ 0 then xnew WW (xu V2 13 5 1 1) 1 5 (fun g3 i3 V3 => if 65 = g3 ∧ 5 = i3 ∧ g3 ≠ 0 then xnew WW (xu V3 13 5 2 1) 1 16 (fun g4 i4 V4 => if 66 = g4 ∧ 5 = i4 ∧ g4 ≠ 0 then some (xi 0, (xu V4 13 5 3 1)) else none) else none) else none) else none) := Xc_es [] P_X7_init 1 _ _
set_option maxRecDepth 100000 in
theorem y_101_i (d : Nat) (V : XM) (h : V 0 0 0 = 101) : Yt (d + 1) 75 [xr 13 5] V = some (xi 0, ch_101 V) := by
  rw [yo_101, xnew_at 101 63 5, if_pos (c := (63 : Nat) = 63 ∧ (5 : Nat) = 5 ∧ (63 : Nat) ≠ 0) (by decide), xnew_at 102 64 5, if_pos (c := (64 : Nat) = 64 ∧ (5 : Nat) = 5 ∧ (64 : Nat) ≠ 0) (by decide), xnew_at 103 65 5, if_pos (c := (65 : Nat) = 65 ∧ (5 : Nat) = 5 ∧ (65 : Nat) ≠ 0) (by decide), xnew_at 104 66 5, if_pos (c := (66 : Nat) = 66 ∧ (5 : Nat) = 5 ∧ (66 : Nat) ≠ 0) (by decide)]
  · rfl
  all_goals first | exact h | rfl
def ch_108 (V : XM) : XM := (xu (xz (xu (xz (xu (xz (xu (xz (xu (xz (xu (xz (xu (xz (xu (xz (xu (xz (xu (xz (xu (xz (xu (xz (xu (xz (xu (xz (xu (xz (xu (xz (xu (xz (xu (xz (xu (xz (xu (xz (xu (xz (xu (xz (xu (xz (xu (xz (xu (xz (xu (xz (xu (xz (xu (xz (xu (xz (xu (xz (xu (xz (xu (xz (xu (xz (xu (xz (xu (xz (xu (xz (xu (xz (xu (xz (xu (xz (xu (xz (xu (xz (xu (xz (xu (xz (xu (xz (xu (xz (xu (xz (xu (xz V 67 0 108) 14 0 2 1) 68 0 109) 14 0 4 1) 69 0 110) 14 0 5 1) 70 0 111) 14 0 6 1) 71 0 112) 14 0 7 1) 72 0 113) 14 0 8 1) 73 0 114) 14 0 10 1) 74 0 115) 14 0 11 1) 75 0 116) 14 0 12 1) 76 0 117) 14 0 13 1) 77 0 118) 14 0 14 1) 78 0 119) 14 0 15 1) 79 0 120) 14 0 16 1) 80 0 121) 14 0 17 1) 81 0 122) 14 0 18 1) 82 0 123) 14 0 19 1) 83 0 124) 14 0 20 1) 84 0 125) 14 0 21 1) 85 0 126) 14 0 23 1) 86 0 127) 14 0 24 1) 87 0 128) 14 0 25 1) 88 0 129) 14 0 26 1) 89 0 130) 14 0 28 1) 90 0 131) 14 0 30 1) 91 0 132) 14 0 31 1) 92 0 133) 14 0 32 1) 93 0 134) 14 0 33 1) 94 0 135) 14 0 34 1) 95 0 136) 14 0 35 1) 96 0 137) 14 0 36 1) 97 0 138) 14 0 37 1) 98 0 139) 14 0 38 1) 99 0 140) 14 0 40 1) 100 0 141) 14 0 41 1) 101 0 142) 14 0 42 1) 102 0 143) 14 0 43 1) 103 0 144) 14 0 46 1) 104 0 145) 14 0 47 1) 105 0 146) 14 0 48 1) 106 0 147) 14 0 49 1) 107 0 148) 14 0 50 1) 108 0 149) 14 0 51 1) 109 0 150) 14 0 52 1) 110 0 151) 14 0 53 1) 111 0 152) 14 0 54 1) 112 0 153) 14 0 55 1) 113 0 154) 14 0 57 1)
set_option maxRecDepth 100000 in
theorem yo_108 (d : Nat) (V : XM) : Yt (d + 1) 188 [xr 14 0] V = xnew WW V 1 24 (fun g1 i1 V1 => if 67 = g1 ∧ 0 = i1 ∧ g1 ≠ 0 then xnew WW (xu V1 14 0 2 1) 1 12 (fun g2 i2 V2 => if 68 = g2 ∧ 0 = i2 ∧ g2 ≠ 0 then xnew WW (xu V2 14 0 4 1) 1 12 (fun g3 i3 V3 => if 69 = g3 ∧ 0 = i3 ∧ g3 ≠ 0 then xnew WW (xu V3 14 0 5 1) 1 12 (fun g4 i4 V4 => if 70 = g4 ∧ 0 = i4 ∧ g4 ≠ 0 then xnew WW (xu V4 14 0 6 1) 3 288 (fun g5 i5 V5 => if 71 = g5 ∧ 0 = i5 ∧ g5 ≠ 0 then xnew WW (xu V5 14 0 7 1) 2 288 (fun g6 i6 V6 => if 72 = g6 ∧ 0 = i6 ∧ g6 ≠ 0 then xnew WW (xu V6 14 0 8 1) 1 64 (fun g7 i7 V7 => if 73 = g7 ∧ 0 = i7 ∧ g7 ≠ 0 then xnew WW (xu V7 14 0 10 1) 1 64 (fun g8 i8 V8 => if 74 = g8 ∧ 0 = i8 ∧ g8 ≠ 0 then xnew WW (xu V8 14 0 11 1) 1 64 (fun g9 i9 V9 => if 75 = g9 ∧ 0 = i9 ∧ g9 ≠ 0 then xnew WW (xu V9 14 0 12 1) 1 64 (fun g10 i10 V10 => if 76 = g10 ∧ 0 = i10 ∧ g10 ≠ 0 then xnew WW (xu V10 14 0 13 1) 3 64 (fun g11 i11 V11 => if 77 = g11 ∧ 0 = i11 ∧ g11 ≠ 0 then xnew WW (xu V11 14 0 14 1) 1 384 (fun g12 i12 V12 => if 78 = g12 ∧ 0 = i12 ∧ g12 ≠ 0 then xnew WW (xu V12 14 0 15 1) 1 384 (fun g13 i13 V13 => if 79 = g13 ∧ 0 = i13 ∧ g13 ≠ 0 then xnew WW (xu V13 14 0 16 1) 1 64 (fun g14 i14 V14 => if 80 = g14 ∧ 0 = i14 ∧ g14 ≠ 0 then xnew WW (xu V14 14 0 17 1) 2 64 (fun g15 i15 V15 => if 81 = g15 ∧ 0 = i15 ∧ g15 ≠ 0 then xnew WW (xu V15 14 0 18 1) 1 64 (fun g16 i16 V16 => if 82 = g16 ∧ 0 = i16 ∧ g16 ≠ 0 then xnew WW (xu V16 14 0 19 1) 1 768 (fun g17 i17 V17 => if 83 = g17 ∧ 0 = i17 ∧ g17 ≠ 0 then xnew WW (xu V17 14 0 20 1) 2 768 (fun g18 i18 V18 => if 84 = g18 ∧ 0 = i18 ∧ g18 ≠ 0 then xnew WW (xu V18 14 0 21 1) 1 300 (fun g19 i19 V19 => if 85 = g19 ∧ 0 = i19 ∧ g19 ≠ 0 then xnew WW (xu V19 14 0 23 1) 1 300 (fun g20 i20 V20 => if 86 = g20 ∧ 0 = i20 ∧ g20 ≠ 0 then xnew WW (xu V20 14 0 24 1) 1 300 (fun g21 i21 V21 => if 87 = g21 ∧ 0 = i21 ∧ g21 ≠ 0 then xnew WW (xu V21 14 0 25 1) 1 300 (fun g22 i22 V22 => if 88 = g22 ∧ 0 = i22 ∧ g22 ≠ 0 then xnew WW (xu V22 14 0 26 1) 1 64 (fun g23 i23 V23 => if 89 = g23 ∧ 0 = i23 ∧ g23 ≠ 0 then xnew WW (xu V23 14 0 28 1) 1 8 (fun g24 i24 V24 => if 90 = g24 ∧ 0 = i24 ∧ g24 ≠ 0 then xnew WW (xu V24 14 0 30 1) 1 64 (fun g25 i25 V25 => if 91 = g25 ∧ 0 = i25 ∧ g25 ≠ 0 then xnew WW (xu V25 14 0 31 1) 1 64 (fun g26 i26 V26 => if 92 = g26 ∧ 0 = i26 ∧ g26 ≠ 0 then xnew WW (xu V26 14 0 32 1) 1 64 (fun g27 i27 V27 => if 93 = g27 ∧ 0 = i27 ∧ g27 ≠ 0 then xnew WW (xu V27 14 0 33 1) 3 4096 (fun g28 i28 V28 => if 94 = g28 ∧ 0 = i28 ∧ g28 ≠ 0 then xnew WW (xu V28 14 0 34 1) 1 512 (fun g29 i29 V29 => if 95 = g29 ∧ 0 = i29 ∧ g29 ≠ 0 then xnew WW (xu V29 14 0 35 1) 1 512 (fun g30 i30 V30 => if 96 = g30 ∧ 0 = i30 ∧ g30 ≠ 0 then xnew WW (xu V30 14 0 36 1) 1 512 (fun g31 i31 V31 => if 97 = g31 ∧ 0 = i31 ∧ g31 ≠ 0 then xnew WW (xu V31 14 0 37 1) 1 512 (fun g32 i32 V32 => if 98 = g32 ∧ 0 = i32 ∧ g32 ≠ 0 then xnew WW (xu V32 14 0 38 1) 1 10 (fun g33 i33 V33 => if 99 = g33 ∧ 0 = i33 ∧ g33 ≠ 0 then xnew WW (xu V33 14 0 40 1) 1 10 (fun g34 i34 V34 => if 100 = g34 ∧ 0 = i34 ∧ g34 ≠ 0 then xnew WW (xu V34 14 0 41 1) 1 160 (fun g35 i35 V35 => if 101 = g35 ∧ 0 = i35 ∧ g35 ≠ 0 then xnew WW (xu V35 14 0 42 1) 1 16 (fun g36 i36 V36 => if 102 = g36 ∧ 0 = i36 ∧ g36 ≠ 0 then xnew WW (xu V36 14 0 43 1) 1 6 (fun g37 i37 V37 => if 103 = g37 ∧ 0 = i37 ∧ g37 ≠ 0 then xnew WW (xu V37 14 0 46 1) 1 6 (fun g38 i38 V38 => if 104 = g38 ∧ 0 = i38 ∧ g38 ≠ 0 then xnew WW (xu V38 14 0 47 1) 1 30 (fun g39 i39 V39 => if 105 = g39 ∧ 0 = i39 ∧ g39 ≠ 0 then xnew WW (xu V39 14 0 48 1) 3 480 (fun g40 i40 V40 => if 106 = g40 ∧ 0 = i40 ∧ g40 ≠ 0 then xnew WW (xu V40 14 0 49 1) 2 480 (fun g41 i41 V41 => if 107 = g41 ∧ 0 = i41 ∧ g41 ≠ 0 then xnew WW (xu V41 14 0 50 1) 4 480 (fun g42 i42 V42 => if 108 = g42 ∧ 0 = i42 ∧ g42 ≠ 0 then xnew WW (xu V42 14 0 51 1) 1 16 (fun g43 i43 V43 => if 109 = g43 ∧ 0 = i43 ∧ g43 ≠ 0 then xnew WW (xu V43 14 0 52 1) 3 80 (fun g44 i44 V44 => if 110 = g44 ∧ 0 = i44 ∧ g44 ≠ 0 then xnew WW (xu V44 14 0 53 1) 2 80 (fun g45 i45 V45 => if 111 = g45 ∧ 0 = i45 ∧ g45 ≠ 0 then xnew WW (xu V45 14 0 54 1) 4 80 (fun g46 i46 V46 => if 112 = g46 ∧ 0 = i46 ∧ g46 ≠ 0 then xnew WW (xu V46 14 0 55 1) 1 2048 (fun g47 i47 V47 => if 113 = g47 ∧ 0 = i47 ∧ g47 ≠ 0 then cv (Yt d 191 [xr 14 0] (xu V47 14 0 57 1)) (fun V => some (xi 0, V)) else none) else none) else none) else none) else none) else none) else none) else none) else none) else none) else none) else none) else none) else none) else none) else none) else none) else none) else none) else none) else none) else none) else none) else none) else none) else none) else none) else none) else none) else none) else none) else none) else none) else none) else none) else none) else none) else none) else none) else none) else none) else none) else none) else none) else none) else none) else none) := Xc_es [] P_X12_init 1 _ _
set_option maxRecDepth 100000 in
theorem y_108_i (d : Nat) (V : XM) (h : V 0 0 0 = 108) : Yt (d + 1) 188 [xr 14 0] V = cv (Yt d 191 [xr 14 0] (ch_108 V)) (fun V => some (xi 0, V)) := by
  rw [yo_108, xnew_at 108 67 0, if_pos (c := (67 : Nat) = 67 ∧ (0 : Nat) = 0 ∧ (67 : Nat) ≠ 0) (by decide), xnew_at 109 68 0, if_pos (c := (68 : Nat) = 68 ∧ (0 : Nat) = 0 ∧ (68 : Nat) ≠ 0) (by decide), xnew_at 110 69 0, if_pos (c := (69 : Nat) = 69 ∧ (0 : Nat) = 0 ∧ (69 : Nat) ≠ 0) (by decide), xnew_at 111 70 0, if_pos (c := (70 : Nat) = 70 ∧ (0 : Nat) = 0 ∧ (70 : Nat) ≠ 0) (by decide), xnew_at 112 71 0, if_pos (c := (71 : Nat) = 71 ∧ (0 : Nat) = 0 ∧ (71 : Nat) ≠ 0) (by decide), xnew_at 113 72 0, if_pos (c := (72 : Nat) = 72 ∧ (0 : Nat) = 0 ∧ (72 : Nat) ≠ 0) (by decide), xnew_at 114 73 0, if_pos (c := (73 : Nat) = 73 ∧ (0 : Nat) = 0 ∧ (73 : Nat) ≠ 0) (by decide), xnew_at 115 74 0, if_pos (c := (74 : Nat) = 74 ∧ (0 : Nat) = 0 ∧ (74 : Nat) ≠ 0) (by decide), xnew_at 116 75 0, if_pos (c := (75 : Nat) = 75 ∧ (0 : Nat) = 0 ∧ (75 : Nat) ≠ 0) (by decide), xnew_at 117 76 0, if_pos (c := (76 : Nat) = 76 ∧ (0 : Nat) = 0 ∧ (76 : Nat) ≠ 0) (by decide), xnew_at 118 77 0, if_pos (c := (77 : Nat) = 77 ∧ (0 : Nat) = 0 ∧ (77 : Nat) ≠ 0) (by decide), xnew_at 119 78 0, if_pos (c := (78 : Nat) = 78 ∧ (0 : Nat) = 0 ∧ (78 : Nat) ≠ 0) (by decide), xnew_at 120 79 0, if_pos (c := (79 : Nat) = 79 ∧ (0 : Nat) = 0 ∧ (79 : Nat) ≠ 0) (by decide), xnew_at 121 80 0, if_pos (c := (80 : Nat) = 80 ∧ (0 : Nat) = 0 ∧ (80 : Nat) ≠ 0) (by decide), xnew_at 122 81 0, if_pos (c := (81 : Nat) = 81 ∧ (0 : Nat) = 0 ∧ (81 : Nat) ≠ 0) (by decide), xnew_at 123 82 0, if_pos (c := (82 : Nat) = 82 ∧ (0 : Nat) = 0 ∧ (82 : Nat) ≠ 0) (by decide), xnew_at 124 83 0, if_pos (c := (83 : Nat) = 83 ∧ (0 : Nat) = 0 ∧ (83 : Nat) ≠ 0) (by decide), xnew_at 125 84 0, if_pos (c := (84 : Nat) = 84 ∧ (0 : Nat) = 0 ∧ (84 : Nat) ≠ 0) (by decide), xnew_at 126 85 0, if_pos (c := (85 : Nat) = 85 ∧ (0 : Nat) = 0 ∧ (85 : Nat) ≠ 0) (by decide), xnew_at 127 86 0, if_pos (c := (86 : Nat) = 86 ∧ (0 : Nat) = 0 ∧ (86 : Nat) ≠ 0) (by decide), xnew_at 128 87 0, if_pos (c := (87 : Nat) = 87 ∧ (0 : Nat) = 0 ∧ (87 : Nat) ≠ 0) (by decide), xnew_at 129 88 0, if_pos (c := (88 : Nat) = 88 ∧ (0 : Nat) = 0 ∧ (88 : Nat) ≠ 0) (by decide), xnew_at 130 89 0, if_pos (c := (89 : Nat) = 89 ∧ (0 : Nat) = 0 ∧ (89 : Nat) ≠ 0) (by decide), xnew_at 131 90 0, if_pos (c := (90 : Nat) = 90 ∧ (0 : Nat) = 0 ∧ (90 : Nat) ≠ 0) (by decide), xnew_at 132 91 0, if_pos (c := (91 : Nat) = 91 ∧ (0 : Nat) = 0 ∧ (91 : Nat) ≠ 0) (by decide), xnew_at 133 92 0, if_pos (c := (92 : Nat) = 92 ∧ (0 : Nat) = 0 ∧ (92 : Nat) ≠ 0) (by decide), xnew_at 134 93 0, if_pos (c := (93 : Nat) = 93 ∧ (0 : Nat) = 0 ∧ (93 : Nat) ≠ 0) (by decide), xnew_at 135 94 0, if_pos (c := (94 : Nat) = 94 ∧ (0 : Nat) = 0 ∧ (94 : Nat) ≠ 0) (by decide), xnew_at 136 95 0, if_pos (c := (95 : Nat) = 95 ∧ (0 : Nat) = 0 ∧ (95 : Nat) ≠ 0) (by decide), xnew_at 137 96 0, if_pos (c := (96 : Nat) = 96 ∧ (0 : Nat) = 0 ∧ (96 : Nat) ≠ 0) (by decide), xnew_at 138 97 0, if_pos (c := (97 : Nat) = 97 ∧ (0 : Nat) = 0 ∧ (97 : Nat) ≠ 0) (by decide), xnew_at 139 98 0, if_pos (c := (98 : Nat) = 98 ∧ (0 : Nat) = 0 ∧ (98 : Nat) ≠ 0) (by decide), xnew_at 140 99 0, if_pos (c := (99 : Nat) = 99 ∧ (0 : Nat) = 0 ∧ (99 : Nat) ≠ 0) (by decide), xnew_at 141 100 0, if_pos (c := (100 : Nat) = 100 ∧ (0 : Nat) = 0 ∧ (100 : Nat) ≠ 0) (by decide), xnew_at 142 101 0, if_pos (c := (101 : Nat) = 101 ∧ (0 : Nat) = 0 ∧ (101 : Nat) ≠ 0) (by decide), xnew_at 143 102 0, if_pos (c := (102 : Nat) = 102 ∧ (0 : Nat) = 0 ∧ (102 : Nat) ≠ 0) (by decide), xnew_at 144 103 0, if_pos (c := (103 : Nat) = 103 ∧ (0 : Nat) = 0 ∧ (103 : Nat) ≠ 0) (by decide), xnew_at 145 104 0, if_pos (c := (104 : Nat) = 104 ∧ (0 : Nat) = 0 ∧ (104 : Nat) ≠ 0) (by decide), xnew_at 146 105 0, if_pos (c := (105 : Nat) = 105 ∧ (0 : Nat) = 0 ∧ (105 : Nat) ≠ 0) (by decide), xnew_at 147 106 0, if_pos (c := (106 : Nat) = 106 ∧ (0 : Nat) = 0 ∧ (106 : Nat) ≠ 0) (by decide), xnew_at 148 107 0, if_pos (c := (107 : Nat) = 107 ∧ (0 : Nat) = 0 ∧ (107 : Nat) ≠ 0) (by decide), xnew_at 149 108 0, if_pos (c := (108 : Nat) = 108 ∧ (0 : Nat) = 0 ∧ (108 : Nat) ≠ 0) (by decide), xnew_at 150 109 0, if_pos (c := (109 : Nat) = 109 ∧ (0 : Nat) = 0 ∧ (109 : Nat) ≠ 0) (by decide), xnew_at 151 110 0, if_pos (c := (110 : Nat) = 110 ∧ (0 : Nat) = 0 ∧ (110 : Nat) ≠ 0) (by decide), xnew_at 152 111 0, if_pos (c := (111 : Nat) = 111 ∧ (0 : Nat) = 0 ∧ (111 : Nat) ≠ 0) (by decide), xnew_at 153 112 0, if_pos (c := (112 : Nat) = 112 ∧ (0 : Nat) = 0 ∧ (112 : Nat) ≠ 0) (by decide), xnew_at 154 113 0, if_pos (c := (113 : Nat) = 113 ∧ (0 : Nat) = 0 ∧ (113 : Nat) ≠ 0) (by decide)]
  · rfl
  all_goals first | exact h | rfl
