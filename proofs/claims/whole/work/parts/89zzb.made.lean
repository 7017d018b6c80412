noncomputable def FA (d : Nat) : Nat → List XS → List XS → XM → XR := fun t ls st V => xmkK K_X11_init t ls (fun ls => Xt d 119 t ls st V)
def EAb (j : Nat) : List XB → List XE
  | [] => []
  | b :: _ => List.drop j b.2.2.1
def EA (j : Nat) : List XE := EAb j K_X11_init
set_option maxRecDepth 100000 in
theorem Q_in (d : Nat) (V : XM) : Yt (d + 2) 119 [xr 2 0] V = xrun WW true (FA (d + 1)) (Yt (d + 1)) 153 (EA 0) [xr 2 0, xr 0 0, xr 0 0] [] V := Xx_eq _ _ _ _ _ _
def B_1 (V : XM) : XM := (ch_2 (xz V 3 0 1))
set_option maxRecDepth 100000 in
theorem Q_1 (d : Nat) (V : XM) (h : V 0 0 0 = 1) : xrun WW true (FA (d + 1)) (Yt (d + 1)) 153 (EA 0) [xr 2 0, xr 0 0, xr 0 0] [] V = xrun WW true (FA (d + 1)) (Yt (d + 1)) 153 (EA 6) [xr 2 0, xr 0 0, xr 0 0] [xr 3 0, xr 2 0] (B_1 V) := by
  rw [show xrun WW true (FA (d + 1)) (Yt (d + 1)) 153 (EA 0) [xr 2 0, xr 0 0, xr 0 0] [] V = xnew WW V 10 0 (fun g i V => xrun WW true (FA (d + 1)) (Yt (d + 1)) 153 (EA 4) [xr 2 0, xr 0 0, xr 0 0] [xr g i, xr 2 0] V) from rfl, xnew_at 1 3 0, show xrun WW true (FA (d + 1)) (Yt (d + 1)) 153 (EA 4) [xr 2 0, xr 0 0, xr 0 0] [xr 3 0, xr 2 0] (xz V 3 0 1) = cv (Yt (d + 1) 0 [xr 3 0] (xz V 3 0 1)) (fun V => xrun WW true (FA (d + 1)) (Yt (d + 1)) 153 (EA 6) [xr 2 0, xr 0 0, xr 0 0] [xr 3 0, xr 2 0] V) from rfl, y_2_i, cv_r]
  · rfl
  all_goals first | exact h | rfl
def B_2 (V : XM) : XM := (ch_4 (xz (xu (B_1 V) 2 0 0 1) 4 0 3))
set_option maxRecDepth 100000 in
theorem Q_2 (d : Nat) (V : XM) (h : V 0 0 0 = 1) : xrun WW true (FA (d + 1)) (Yt (d + 1)) 153 (EA 6) [xr 2 0, xr 0 0, xr 0 0] [xr 3 0, xr 2 0] (B_1 V) = xrun WW true (FA (d + 1)) (Yt (d + 1)) 153 (EA 13) [xr 2 0, xr 0 0, xr 0 0] [xr 4 0, xr 2 0] (B_2 V) := by
  rw [show xrun WW true (FA (d + 1)) (Yt (d + 1)) 153 (EA 6) [xr 2 0, xr 0 0, xr 0 0] [xr 3 0, xr 2 0] (B_1 V) = xnew WW (xu (B_1 V) 2 0 0 1) 18 0 (fun g i V => xrun WW true (FA (d + 1)) (Yt (d + 1)) 153 (EA 9) [xr 2 0, xr 0 0, xr 0 0] [xr g i, xr 2 0] V) from rfl, xnew_at 3 4 0, show xrun WW true (FA (d + 1)) (Yt (d + 1)) 153 (EA 9) [xr 2 0, xr 0 0, xr 0 0] [xr 4 0, xr 2 0] (xz (xu (B_1 V) 2 0 0 1) 4 0 3) = cv (Yt (d + 1) 88 [xr 4 0, xr 3 0] (xz (xu (B_1 V) 2 0 0 1) 4 0 3)) (fun V => xrun WW true (FA (d + 1)) (Yt (d + 1)) 153 (EA 13) [xr 2 0, xr 0 0, xr 0 0] [xr 4 0, xr 2 0] V) from rfl, y_4_i, cv_r]
  · rfl
  all_goals first | exact h | rfl
def B_3 (V : XM) : XM := (ch_11 (xz (xu (B_2 V) 2 0 1 1) 5 0 10))
set_option maxRecDepth 100000 in
theorem Q_3 (d : Nat) (V : XM) (h : V 0 0 0 = 1) : xrun WW true (FA (d + 1)) (Yt (d + 1)) 153 (EA 13) [xr 2 0, xr 0 0, xr 0 0] [xr 4 0, xr 2 0] (B_2 V) = xrun WW true (FA (d + 1)) (Yt (d + 1)) 153 (EA 22) [xr 2 0, xr 0 0, xr 0 0] [xr 5 0, xr 2 0] (B_3 V) := by
  rw [show xrun WW true (FA (d + 1)) (Yt (d + 1)) 153 (EA 13) [xr 2 0, xr 0 0, xr 0 0] [xr 4 0, xr 2 0] (B_2 V) = xnew WW (xu (B_2 V) 2 0 1 1) 19 0 (fun g i V => xrun WW true (FA (d + 1)) (Yt (d + 1)) 153 (EA 16) [xr 2 0, xr 0 0, xr 0 0] [xr g i, xr 2 0] V) from rfl, xnew_at 10 5 0, show xrun WW true (FA (d + 1)) (Yt (d + 1)) 153 (EA 16) [xr 2 0, xr 0 0, xr 0 0] [xr 5 0, xr 2 0] (xz (xu (B_2 V) 2 0 1 1) 5 0 10) = cv (Yt (d + 1) 103 [xr 5 0, xr 3 0, xr 4 0] (xz (xu (B_2 V) 2 0 1 1) 5 0 10)) (fun V => xrun WW true (FA (d + 1)) (Yt (d + 1)) 153 (EA 22) [xr 2 0, xr 0 0, xr 0 0] [xr 5 0, xr 2 0] V) from rfl, y_11_i, cv_r]
  · rfl
  all_goals first | exact h | rfl
def B_4 (V : XM) : XM := (ch_19 (xz (xu (B_3 V) 2 0 2 1) 6 0 18))
set_option maxRecDepth 100000 in
theorem Q_4 (d : Nat) (V : XM) (h : V 0 0 0 = 1) : xrun WW true (FA (d + 1)) (Yt (d + 1)) 153 (EA 22) [xr 2 0, xr 0 0, xr 0 0] [xr 5 0, xr 2 0] (B_3 V) = xrun WW true (FA (d + 1)) (Yt (d + 1)) 153 (EA 27) [xr 2 0, xr 0 0, xr 0 0] [xr 6 0, xr 2 0] (B_4 V) := by
  rw [show xrun WW true (FA (d + 1)) (Yt (d + 1)) 153 (EA 22) [xr 2 0, xr 0 0, xr 0 0] [xr 5 0, xr 2 0] (B_3 V) = xnew WW (xu (B_3 V) 2 0 2 1) 14 0 (fun g i V => xrun WW true (FA (d + 1)) (Yt (d + 1)) 153 (EA 25) [xr 2 0, xr 0 0, xr 0 0] [xr g i, xr 2 0] V) from rfl, xnew_at 18 6 0, show xrun WW true (FA (d + 1)) (Yt (d + 1)) 153 (EA 25) [xr 2 0, xr 0 0, xr 0 0] [xr 6 0, xr 2 0] (xz (xu (B_3 V) 2 0 2 1) 6 0 18) = cv (Yt (d + 1) 62 [xr 6 0] (xz (xu (B_3 V) 2 0 2 1) 6 0 18)) (fun V => xrun WW true (FA (d + 1)) (Yt (d + 1)) 153 (EA 27) [xr 2 0, xr 0 0, xr 0 0] [xr 6 0, xr 2 0] V) from rfl, y_19_i, cv_r]
  · rfl
  all_goals first | exact h | rfl
def B_5 (V : XM) : XM := (ch_24 (xz (xu (B_4 V) 2 0 3 1) 7 0 23))
set_option maxRecDepth 100000 in
theorem Q_5 (d : Nat) (V : XM) (h : V 0 0 0 = 1) : xrun WW true (FA (d + 1)) (Yt (d + 1)) 153 (EA 27) [xr 2 0, xr 0 0, xr 0 0] [xr 6 0, xr 2 0] (B_4 V) = xrun WW true (FA (d + 1)) (Yt (d + 1)) 153 (EA 36) [xr 2 0, xr 0 0, xr 0 0] [xr 7 0, xr 2 0] (B_5 V) := by
  rw [show xrun WW true (FA (d + 1)) (Yt (d + 1)) 153 (EA 27) [xr 2 0, xr 0 0, xr 0 0] [xr 6 0, xr 2 0] (B_4 V) = xnew WW (xu (B_4 V) 2 0 3 1) 11 0 (fun g i V => xrun WW true (FA (d + 1)) (Yt (d + 1)) 153 (EA 30) [xr 2 0, xr 0 0, xr 0 0] [xr g i, xr 2 0] V) from rfl, xnew_at 23 7 0, show xrun WW true (FA (d + 1)) (Yt (d + 1)) 153 (EA 30) [xr 2 0, xr 0 0, xr 0 0] [xr 7 0, xr 2 0] (xz (xu (B_4 V) 2 0 3 1) 7 0 23) = cv (Yt (d + 1) 6 [xr 7 0, xr 4 0, xr 6 0] (xz (xu (B_4 V) 2 0 3 1) 7 0 23)) (fun V => xrun WW true (FA (d + 1)) (Yt (d + 1)) 153 (EA 36) [xr 2 0, xr 0 0, xr 0 0] [xr 7 0, xr 2 0] V) from rfl, y_24_i, cv_r]
  · rfl
  all_goals first | exact h | rfl
def B_6 (V : XM) : XM := (ch_38 (xz (xu (B_5 V) 2 0 4 1) 8 0 37))
set_option maxRecDepth 100000 in
theorem Q_6 (d : Nat) (V : XM) (h : V 0 0 0 = 1) : xrun WW true (FA (d + 1)) (Yt (d + 1)) 153 (EA 36) [xr 2 0, xr 0 0, xr 0 0] [xr 7 0, xr 2 0] (B_5 V) = xrun WW true (FA (d + 1)) (Yt (d + 1)) 153 (EA 45) [xr 2 0, xr 0 0, xr 0 0] [xr 8 0, xr 2 0] (B_6 V) := by
  rw [show xrun WW true (FA (d + 1)) (Yt (d + 1)) 153 (EA 36) [xr 2 0, xr 0 0, xr 0 0] [xr 7 0, xr 2 0] (B_5 V) = xnew WW (xu (B_5 V) 2 0 4 1) 15 0 (fun g i V => xrun WW true (FA (d + 1)) (Yt (d + 1)) 153 (EA 39) [xr 2 0, xr 0 0, xr 0 0] [xr g i, xr 2 0] V) from rfl, xnew_at 37 8 0, show xrun WW true (FA (d + 1)) (Yt (d + 1)) 153 (EA 39) [xr 2 0, xr 0 0, xr 0 0] [xr 8 0, xr 2 0] (xz (xu (B_5 V) 2 0 4 1) 8 0 37) = cv (Yt (d + 1) 66 [xr 8 0, xr 4 0, xr 7 0] (xz (xu (B_5 V) 2 0 4 1) 8 0 37)) (fun V => xrun WW true (FA (d + 1)) (Yt (d + 1)) 153 (EA 45) [xr 2 0, xr 0 0, xr 0 0] [xr 8 0, xr 2 0] V) from rfl, y_38_i, cv_r]
  · rfl
  all_goals first | exact h | rfl
def B_7 (V : XM) : XM := (ch_40 (xz (xu (B_6 V) 2 0 5 1) 9 0 39))
set_option maxRecDepth 100000 in
theorem Q_7 (d : Nat) (V : XM) (h : V 0 0 0 = 1) : xrun WW true (FA (d + 1)) (Yt (d + 1)) 153 (EA 45) [xr 2 0, xr 0 0, xr 0 0] [xr 8 0, xr 2 0] (B_6 V) = xrun WW true (FA (d + 1)) (Yt (d + 1)) 153 (EA 49) [xr 2 0, xr 0 0, xr 0 0] [xr 9 0] (B_7 V) := by
  rw [show xrun WW true (FA (d + 1)) (Yt (d + 1)) 153 (EA 45) [xr 2 0, xr 0 0, xr 0 0] [xr 8 0, xr 2 0] (B_6 V) = xnew WW (xu (B_6 V) 2 0 5 1) 20 0 (fun g i V => xrun WW true (FA (d + 1)) (Yt (d + 1)) 153 (EA 47) [xr 2 0, xr 0 0, xr 0 0] [xr g i] V) from rfl, xnew_at 39 9 0, show xrun WW true (FA (d + 1)) (Yt (d + 1)) 153 (EA 47) [xr 2 0, xr 0 0, xr 0 0] [xr 9 0] (xz (xu (B_6 V) 2 0 5 1) 9 0 39) = cv (Yt (d + 1) 116 [xr 9 0] (xz (xu (B_6 V) 2 0 5 1) 9 0 39)) (fun V => xrun WW true (FA (d + 1)) (Yt (d + 1)) 153 (EA 49) [xr 2 0, xr 0 0, xr 0 0] [xr 9 0] V) from rfl, y_40_i, cv_r]
  · rfl
  all_goals first | exact h | rfl
def B_8 (V : XM) : XM := (ch_44 (xz (B_7 V) 10 0 43))
set_option maxRecDepth 100000 in
theorem Q_8 (d : Nat) (V : XM) (h : V 0 0 0 = 1) : xrun WW true (FA (d + 1)) (Yt (d + 1)) 153 (EA 49) [xr 2 0, xr 0 0, xr 0 0] [xr 9 0] (B_7 V) = xrun WW true (FA (d + 1)) (Yt (d + 1)) 153 (EA 59) [xr 2 0, xr 9 0, xr 0 0] [xr 10 0, xr 2 0] (B_8 V) := by
  rw [show xrun WW true (FA (d + 1)) (Yt (d + 1)) 153 (EA 49) [xr 2 0, xr 0 0, xr 0 0] [xr 9 0] (B_7 V) = xnew WW (B_7 V) 12 0 (fun g i V => xrun WW true (FA (d + 1)) (Yt (d + 1)) 153 (EA 52) [xr 2 0, xr 9 0, xr 0 0] [xr g i, xr 2 0] V) from rfl, xnew_at 43 10 0, show xrun WW true (FA (d + 1)) (Yt (d + 1)) 153 (EA 52) [xr 2 0, xr 9 0, xr 0 0] [xr 10 0, xr 2 0] (xz (B_7 V) 10 0 43) = cv (Yt (d + 1) 35 [xr 10 0, xr 4 0, xr 6 0, xr 9 0] (xz (B_7 V) 10 0 43)) (fun V => xrun WW true (FA (d + 1)) (Yt (d + 1)) 153 (EA 59) [xr 2 0, xr 9 0, xr 0 0] [xr 10 0, xr 2 0] V) from rfl, y_44_i, cv_r]
  · rfl
  all_goals first | exact h | rfl
def B_9 (V : XM) : XM := (ch_48 (xz (xu (B_8 V) 2 0 6 1) 11 0 47))
set_option maxRecDepth 100000 in
theorem Q_9 (d : Nat) (V : XM) (h : V 0 0 0 = 1) : xrun WW true (FA (d + 1)) (Yt (d + 1)) 153 (EA 59) [xr 2 0, xr 9 0, xr 0 0] [xr 10 0, xr 2 0] (B_8 V) = xrun WW true (FA (d + 1)) (Yt (d + 1)) 153 (EA 67) [xr 2 0, xr 9 0, xr 0 0] [xr 11 0, xr 2 0] (B_9 V) := by
  rw [show xrun WW true (FA (d + 1)) (Yt (d + 1)) 153 (EA 59) [xr 2 0, xr 9 0, xr 0 0] [xr 10 0, xr 2 0] (B_8 V) = xnew WW (xu (B_8 V) 2 0 6 1) 13 0 (fun g i V => xrun WW true (FA (d + 1)) (Yt (d + 1)) 153 (EA 62) [xr 2 0, xr 9 0, xr 0 0] [xr g i, xr 2 0] V) from rfl, xnew_at 47 11 0, show xrun WW true (FA (d + 1)) (Yt (d + 1)) 153 (EA 62) [xr 2 0, xr 9 0, xr 0 0] [xr 11 0, xr 2 0] (xz (xu (B_8 V) 2 0 6 1) 11 0 47) = cv (Yt (d + 1) 49 [xr 11 0, xr 4 0, xr 9 0] (xz (xu (B_8 V) 2 0 6 1) 11 0 47)) (fun V => xrun WW true (FA (d + 1)) (Yt (d + 1)) 153 (EA 67) [xr 2 0, xr 9 0, xr 0 0] [xr 11 0, xr 2 0] V) from rfl, y_48_i, cv_r]
  · rfl
  all_goals first | exact h | rfl
def B_10 (V : XM) : XM := (xz (xu (B_9 V) 2 0 7 1) 15 0 53)
set_option maxRecDepth 100000 in
theorem Q_10 (d : Nat) (V : XM) (h : V 0 0 0 = 1) : xrun WW true (FA (d + 1)) (Yt (d + 1)) 153 (EA 67) [xr 2 0, xr 9 0, xr 0 0] [xr 11 0, xr 2 0] (B_9 V) = xrun WW true (FA (d + 1)) (Yt (d + 1)) 153 (EA 71) [xr 2 0, xr 9 0, xr 0 0] [xr 15 0, xr 2 0] (B_10 V) := by
  rw [show xrun WW true (FA (d + 1)) (Yt (d + 1)) 153 (EA 67) [xr 2 0, xr 9 0, xr 0 0] [xr 11 0, xr 2 0] (B_9 V) = xnew WW (xu (B_9 V) 2 0 7 1) 5 10 (fun g i V => xrun WW true (FA (d + 1)) (Yt (d + 1)) 153 (EA 71) [xr 2 0, xr 9 0, xr 0 0] [xr g i, xr 2 0] V) from rfl, xnew_at 53 15 0]
  · rfl
  all_goals first | exact h | rfl
set_option maxRecDepth 100000 in
theorem Q_out (d : Nat) (V : XM) : xrun WW true (FA (d + 1)) (Yt (d + 1)) 153 (EA 71) [xr 2 0, xr 9 0, xr 0 0] [xr 15 0, xr 2 0] (B_10 V) = Xt (d + 1) 119 153 [xr 2 0, xr 0 0, xi 0] [] (xu (B_10 V) 2 0 8 1) := rfl
theorem Q_all (d : Nat) (V : XM) (h : V 0 0 0 = 1) : Yt (d + 2) 119 [xr 2 0] V = Xt (d + 1) 119 153 [xr 2 0, xr 0 0, xi 0] [] (xu (B_10 V) 2 0 8 1) := by
  rw [Q_in, Q_1 _ _ h, Q_2 _ _ h, Q_3 _ _ h, Q_4 _ _ h, Q_5 _ _ h, Q_6 _ _ h, Q_7 _ _ h, Q_8 _ _ h, Q_9 _ _ h, Q_10 _ _ h, Q_out]
