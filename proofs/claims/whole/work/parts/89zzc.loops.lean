def EX (q j : Nat) : List XE := List.drop j ((xgl ((0, [], [], 0) : XB) K_X11_init q).2.2.1)
def SH_0 (V : XM) : XM := xu (ch_55 (xz V 12 0 54)) 15 0 0 1
set_option maxRecDepth 100000 in
theorem ySH_0 (d : Nat) (V : XM) (h : V 0 0 0 = 54) (f : V 2 0 8 = 1) : Xt (d + 1) 119 153 [xr 2 0, xr 0 0, xi 0] [] V = Xt (d + 1) 119 153 [xr 2 0, xr 0 0, xi 1] [] (SH_0 V) := by
  refine (Xx_eq _ _ _ _ _ _).trans ?_
  refine Eq.trans (b := if V 2 0 8 = 1 then xnew WW V 16 0 (fun g j V => xrun WW true (FA (d + 1)) (Yt (d + 1)) 178 (EX 1 7) [xr 2 0, xr 0 0, xi 0] [xr g j, xi 0, xr 15 0] V) else none) rfl ?_
  rw [if_pos f, xnew_at 54 12 0, show xrun WW true (FA (d + 1)) (Yt (d + 1)) 178 (EX 1 7) [xr 2 0, xr 0 0, xi 0] [xr 12 0, xi 0, xr 15 0] (xz V 12 0 54) = cv (Yt (d + 1) 72 [xr 12 0] (xz V 12 0 54)) (fun V => xrun WW true (FA (d + 1)) (Yt (d + 1)) 178 (EX 1 9) [xr 2 0, xr 0 0, xi 0] [xr 12 0, xi 0, xr 15 0] V) from rfl, y_55_i, cv_r]
  · rfl
  all_goals first | exact h | rfl
def SH_1 (V : XM) : XM := xu (ch_57 (xz V 12 1 56)) 15 0 1 1
set_option maxRecDepth 100000 in
theorem ySH_1 (d : Nat) (V : XM) (h : V 0 0 0 = 56) (f : V 2 0 8 = 1) : Xt (d + 1) 119 153 [xr 2 0, xr 0 0, xi 1] [] V = Xt (d + 1) 119 153 [xr 2 0, xr 0 0, xi 2] [] (SH_1 V) := by
  refine (Xx_eq _ _ _ _ _ _).trans ?_
  refine Eq.trans (b := if V 2 0 8 = 1 then xnew WW V 16 0 (fun g j V => xrun WW true (FA (d + 1)) (Yt (d + 1)) 178 (EX 1 7) [xr 2 0, xr 0 0, xi 1] [xr g j, xi 1, xr 15 0] V) else none) rfl ?_
  rw [if_pos f, xnew_at 56 12 1, show xrun WW true (FA (d + 1)) (Yt (d + 1)) 178 (EX 1 7) [xr 2 0, xr 0 0, xi 1] [xr 12 1, xi 1, xr 15 0] (xz V 12 1 56) = cv (Yt (d + 1) 72 [xr 12 1] (xz V 12 1 56)) (fun V => xrun WW true (FA (d + 1)) (Yt (d + 1)) 178 (EX 1 9) [xr 2 0, xr 0 0, xi 1] [xr 12 1, xi 1, xr 15 0] V) from rfl, y_57_i, cv_r]
  · rfl
  all_goals first | exact h | rfl
def SH_2 (V : XM) : XM := xu (ch_59 (xz V 12 2 58)) 15 0 2 1
set_option maxRecDepth 100000 in
theorem ySH_2 (d : Nat) (V : XM) (h : V 0 0 0 = 58) (f : V 2 0 8 = 1) : Xt (d + 1) 119 153 [xr 2 0, xr 0 0, xi 2] [] V = Xt (d + 1) 119 153 [xr 2 0, xr 0 0, xi 3] [] (SH_2 V) := by
  refine (Xx_eq _ _ _ _ _ _).trans ?_
  refine Eq.trans (b := if V 2 0 8 = 1 then xnew WW V 16 0 (fun g j V => xrun WW true (FA (d + 1)) (Yt (d + 1)) 178 (EX 1 7) [xr 2 0, xr 0 0, xi 2] [xr g j, xi 2, xr 15 0] V) else none) rfl ?_
  rw [if_pos f, xnew_at 58 12 2, show xrun WW true (FA (d + 1)) (Yt (d + 1)) 178 (EX 1 7) [xr 2 0, xr 0 0, xi 2] [xr 12 2, xi 2, xr 15 0] (xz V 12 2 58) = cv (Yt (d + 1) 72 [xr 12 2] (xz V 12 2 58)) (fun V => xrun WW true (FA (d + 1)) (Yt (d + 1)) 178 (EX 1 9) [xr 2 0, xr 0 0, xi 2] [xr 12 2, xi 2, xr 15 0] V) from rfl, y_59_i, cv_r]
  · rfl
  all_goals first | exact h | rfl
def SH_3 (V : XM) : XM := xu (ch_61 (xz V 12 3 60)) 15 0 3 1
set_option maxRecDepth 100000 in
theorem ySH_3 (d : Nat) (V : XM) (h : V 0 0 0 = 60) (f : V 2 0 8 = 1) : Xt (d + 1) 119 153 [xr 2 0, xr 0 0, xi 3] [] V = Xt (d + 1) 119 153 [xr 2 0, xr 0 0, xi 4] [] (SH_3 V) := by
  refine (Xx_eq _ _ _ _ _ _).trans ?_
  refine Eq.trans (b := if V 2 0 8 = 1 then xnew WW V 16 0 (fun g j V => xrun WW true (FA (d + 1)) (Yt (d + 1)) 178 (EX 1 7) [xr 2 0, xr 0 0, xi 3] [xr g j, xi 3, xr 15 0] V) else none) rfl ?_
  rw [if_pos f, xnew_at 60 12 3, show xrun WW true (FA (d + 1)) (Yt (d + 1)) 178 (EX 1 7) [xr 2 0, xr 0 0, xi 3] [xr 12 3, xi 3, xr 15 0] (xz V 12 3 60) = cv (Yt (d + 1) 72 [xr 12 3] (xz V 12 3 60)) (fun V => xrun WW true (FA (d + 1)) (Yt (d + 1)) 178 (EX 1 9) [xr 2 0, xr 0 0, xi 3] [xr 12 3, xi 3, xr 15 0] V) from rfl, y_61_i, cv_r]
  · rfl
  all_goals first | exact h | rfl
def SH_4 (V : XM) : XM := xu (ch_63 (xz V 12 4 62)) 15 0 4 1
set_option maxRecDepth 100000 in
theorem ySH_4 (d : Nat) (V : XM) (h : V 0 0 0 = 62) (f : V 2 0 8 = 1) : Xt (d + 1) 119 153 [xr 2 0, xr 0 0, xi 4] [] V = Xt (d + 1) 119 153 [xr 2 0, xr 0 0, xi 5] [] (SH_4 V) := by
  refine (Xx_eq _ _ _ _ _ _).trans ?_
  refine Eq.trans (b := if V 2 0 8 = 1 then xnew WW V 16 0 (fun g j V => xrun WW true (FA (d + 1)) (Yt (d + 1)) 178 (EX 1 7) [xr 2 0, xr 0 0, xi 4] [xr g j, xi 4, xr 15 0] V) else none) rfl ?_
  rw [if_pos f, xnew_at 62 12 4, show xrun WW true (FA (d + 1)) (Yt (d + 1)) 178 (EX 1 7) [xr 2 0, xr 0 0, xi 4] [xr 12 4, xi 4, xr 15 0] (xz V 12 4 62) = cv (Yt (d + 1) 72 [xr 12 4] (xz V 12 4 62)) (fun V => xrun WW true (FA (d + 1)) (Yt (d + 1)) 178 (EX 1 9) [xr 2 0, xr 0 0, xi 4] [xr 12 4, xi 4, xr 15 0] V) from rfl, y_63_i, cv_r]
  · rfl
  all_goals first | exact h | rfl
def SH_5 (V : XM) : XM := xu (ch_65 (xz V 12 5 64)) 15 0 5 1
set_option maxRecDepth 100000 in
theorem ySH_5 (d : Nat) (V : XM) (h : V 0 0 0 = 64) (f : V 2 0 8 = 1) : Xt (d + 1) 119 153 [xr 2 0, xr 0 0, xi 5] [] V = Xt (d + 1) 119 153 [xr 2 0, xr 0 0, xi 6] [] (SH_5 V) := by
  refine (Xx_eq _ _ _ _ _ _).trans ?_
  refine Eq.trans (b := if V 2 0 8 = 1 then xnew WW V 16 0 (fun g j V => xrun WW true (FA (d + 1)) (Yt (d + 1)) 178 (EX 1 7) [xr 2 0, xr 0 0, xi 5] [xr g j, xi 5, xr 15 0] V) else none) rfl ?_
  rw [if_pos f, xnew_at 64 12 5, show xrun WW true (FA (d + 1)) (Yt (d + 1)) 178 (EX 1 7) [xr 2 0, xr 0 0, xi 5] [xr 12 5, xi 5, xr 15 0] (xz V 12 5 64) = cv (Yt (d + 1) 72 [xr 12 5] (xz V 12 5 64)) (fun V => xrun WW true (FA (d + 1)) (Yt (d + 1)) 178 (EX 1 9) [xr 2 0, xr 0 0, xi 5] [xr 12 5, xi 5, xr 15 0] V) from rfl, y_65_i, cv_r]
  · rfl
  all_goals first | exact h | rfl
def SH_6 (V : XM) : XM := xu (ch_67 (xz V 12 6 66)) 15 0 6 1
set_option maxRecDepth 100000 in
theorem ySH_6 (d : Nat) (V : XM) (h : V 0 0 0 = 66) (f : V 2 0 8 = 1) : Xt (d + 1) 119 153 [xr 2 0, xr 0 0, xi 6] [] V = Xt (d + 1) 119 153 [xr 2 0, xr 0 0, xi 7] [] (SH_6 V) := by
  refine (Xx_eq _ _ _ _ _ _).trans ?_
  refine Eq.trans (b := if V 2 0 8 = 1 then xnew WW V 16 0 (fun g j V => xrun WW true (FA (d + 1)) (Yt (d + 1)) 178 (EX 1 7) [xr 2 0, xr 0 0, xi 6] [xr g j, xi 6, xr 15 0] V) else none) rfl ?_
  rw [if_pos f, xnew_at 66 12 6, show xrun WW true (FA (d + 1)) (Yt (d + 1)) 178 (EX 1 7) [xr 2 0, xr 0 0, xi 6] [xr 12 6, xi 6, xr 15 0] (xz V 12 6 66) = cv (Yt (d + 1) 72 [xr 12 6] (xz V 12 6 66)) (fun V => xrun WW true (FA (d + 1)) (Yt (d + 1)) 178 (EX 1 9) [xr 2 0, xr 0 0, xi 6] [xr 12 6, xi 6, xr 15 0] V) from rfl, y_67_i, cv_r]
  · rfl
  all_goals first | exact h | rfl
def SH_7 (V : XM) : XM := xu (ch_69 (xz V 12 7 68)) 15 0 7 1
set_option maxRecDepth 100000 in
theorem ySH_7 (d : Nat) (V : XM) (h : V 0 0 0 = 68) (f : V 2 0 8 = 1) : Xt (d + 1) 119 153 [xr 2 0, xr 0 0, xi 7] [] V = Xt (d + 1) 119 153 [xr 2 0, xr 0 0, xi 8] [] (SH_7 V) := by
  refine (Xx_eq _ _ _ _ _ _).trans ?_
  refine Eq.trans (b := if V 2 0 8 = 1 then xnew WW V 16 0 (fun g j V => xrun WW true (FA (d + 1)) (Yt (d + 1)) 178 (EX 1 7) [xr 2 0, xr 0 0, xi 7] [xr g j, xi 7, xr 15 0] V) else none) rfl ?_
  rw [if_pos f, xnew_at 68 12 7, show xrun WW true (FA (d + 1)) (Yt (d + 1)) 178 (EX 1 7) [xr 2 0, xr 0 0, xi 7] [xr 12 7, xi 7, xr 15 0] (xz V 12 7 68) = cv (Yt (d + 1) 72 [xr 12 7] (xz V 12 7 68)) (fun V => xrun WW true (FA (d + 1)) (Yt (d + 1)) 178 (EX 1 9) [xr 2 0, xr 0 0, xi 7] [xr 12 7, xi 7, xr 15 0] V) from rfl, y_69_i, cv_r]
  · rfl
  all_goals first | exact h | rfl
def SH_8 (V : XM) : XM := xu (ch_71 (xz V 12 8 70)) 15 0 8 1
set_option maxRecDepth 100000 in
theorem ySH_8 (d : Nat) (V : XM) (h : V 0 0 0 = 70) (f : V 2 0 8 = 1) : Xt (d + 1) 119 153 [xr 2 0, xr 0 0, xi 8] [] V = Xt (d + 1) 119 153 [xr 2 0, xr 0 0, xi 9] [] (SH_8 V) := by
  refine (Xx_eq _ _ _ _ _ _).trans ?_
  refine Eq.trans (b := if V 2 0 8 = 1 then xnew WW V 16 0 (fun g j V => xrun WW true (FA (d + 1)) (Yt (d + 1)) 178 (EX 1 7) [xr 2 0, xr 0 0, xi 8] [xr g j, xi 8, xr 15 0] V) else none) rfl ?_
  rw [if_pos f, xnew_at 70 12 8, show xrun WW true (FA (d + 1)) (Yt (d + 1)) 178 (EX 1 7) [xr 2 0, xr 0 0, xi 8] [xr 12 8, xi 8, xr 15 0] (xz V 12 8 70) = cv (Yt (d + 1) 72 [xr 12 8] (xz V 12 8 70)) (fun V => xrun WW true (FA (d + 1)) (Yt (d + 1)) 178 (EX 1 9) [xr 2 0, xr 0 0, xi 8] [xr 12 8, xi 8, xr 15 0] V) from rfl, y_71_i, cv_r]
  · rfl
  all_goals first | exact h | rfl
def SH_9 (V : XM) : XM := xu (ch_73 (xz V 12 9 72)) 15 0 9 1
set_option maxRecDepth 100000 in
theorem ySH_9 (d : Nat) (V : XM) (h : V 0 0 0 = 72) (f : V 2 0 8 = 1) : Xt (d + 1) 119 153 [xr 2 0, xr 0 0, xi 9] [] V = Xt (d + 1) 119 153 [xr 2 0, xr 0 0, xi 10] [] (SH_9 V) := by
  refine (Xx_eq _ _ _ _ _ _).trans ?_
  refine Eq.trans (b := if V 2 0 8 = 1 then xnew WW V 16 0 (fun g j V => xrun WW true (FA (d + 1)) (Yt (d + 1)) 178 (EX 1 7) [xr 2 0, xr 0 0, xi 9] [xr g j, xi 9, xr 15 0] V) else none) rfl ?_
  rw [if_pos f, xnew_at 72 12 9, show xrun WW true (FA (d + 1)) (Yt (d + 1)) 178 (EX 1 7) [xr 2 0, xr 0 0, xi 9] [xr 12 9, xi 9, xr 15 0] (xz V 12 9 72) = cv (Yt (d + 1) 72 [xr 12 9] (xz V 12 9 72)) (fun V => xrun WW true (FA (d + 1)) (Yt (d + 1)) 178 (EX 1 9) [xr 2 0, xr 0 0, xi 9] [xr 12 9, xi 9, xr 15 0] V) from rfl, y_73_i, cv_r]
  · rfl
  all_goals first | exact h | rfl
set_option maxRecDepth 100000 in
theorem ySH_out (d : Nat) (V : XM) : Xt (d + 1) 119 153 [xr 2 0, xr 0 0, xi 10] [] V = Xt (d + 1) 119 178 [xr 2 0, xr 0 0, xr 0 0] [] V := (Xx_eq _ _ _ _ _ _).trans rfl
def TA_a (V : XM) : XM := xu (xz V 16 0 74) 2 0 9 1
set_option maxRecDepth 100000 in
theorem yTA_a (d : Nat) (V : XM) (h : V 0 0 0 = 74) : Xt (d + 1) 119 178 [xr 2 0, xr 0 0, xr 0 0] [] V = Xt (d + 1) 119 189 [xr 2 0, xr 0 0, xi 0] [] (TA_a V) := by
  refine (Xx_eq _ _ _ _ _ _).trans ?_
  refine Eq.trans (b := xnew WW V 6 6 (fun g j V => xrun WW true (FA (d + 1)) (Yt (d + 1)) 189 (EX 2 3) [xr 2 0, xr 0 0, xr 0 0] [xr g j, xr 2 0] V)) rfl ?_
  rw [xnew_at 74 16 0]
  · rfl
  all_goals first | exact h | rfl
def TB_0 (V : XM) : XM := xu (ch_76 (xz V 13 0 75)) 16 0 0 1
set_option maxRecDepth 100000 in
theorem yTB_0 (d : Nat) (V : XM) (h : V 0 0 0 = 75) (f : V 2 0 9 = 1) : Xt (d + 1) 119 189 [xr 2 0, xr 0 0, xi 0] [] V = Xt (d + 1) 119 189 [xr 2 0, xr 0 0, xi 1] [] (TB_0 V) := by
  refine (Xx_eq _ _ _ _ _ _).trans ?_
  refine Eq.trans (b := if V 2 0 9 = 1 then xnew WW V 17 0 (fun g j V => xrun WW true (FA (d + 1)) (Yt (d + 1)) 214 (EX 3 7) [xr 2 0, xr 0 0, xi 0] [xr g j, xi 0, xr 16 0] V) else none) rfl ?_
  rw [if_pos f, xnew_at 75 13 0, show xrun WW true (FA (d + 1)) (Yt (d + 1)) 214 (EX 3 7) [xr 2 0, xr 0 0, xi 0] [xr 13 0, xi 0, xr 16 0] (xz V 13 0 75) = cv (Yt (d + 1) 75 [xr 13 0] (xz V 13 0 75)) (fun V => xrun WW true (FA (d + 1)) (Yt (d + 1)) 214 (EX 3 9) [xr 2 0, xr 0 0, xi 0] [xr 13 0, xi 0, xr 16 0] V) from rfl, y_76_i, cv_r]
  · rfl
  all_goals first | exact h | rfl
def TB_1 (V : XM) : XM := xu (ch_81 (xz V 13 1 80)) 16 0 1 1
set_option maxRecDepth 100000 in
theorem yTB_1 (d : Nat) (V : XM) (h : V 0 0 0 = 80) (f : V 2 0 9 = 1) : Xt (d + 1) 119 189 [xr 2 0, xr 0 0, xi 1] [] V = Xt (d + 1) 119 189 [xr 2 0, xr 0 0, xi 2] [] (TB_1 V) := by
  refine (Xx_eq _ _ _ _ _ _).trans ?_
  refine Eq.trans (b := if V 2 0 9 = 1 then xnew WW V 17 0 (fun g j V => xrun WW true (FA (d + 1)) (Yt (d + 1)) 214 (EX 3 7) [xr 2 0, xr 0 0, xi 1] [xr g j, xi 1, xr 16 0] V) else none) rfl ?_
  rw [if_pos f, xnew_at 80 13 1, show xrun WW true (FA (d + 1)) (Yt (d + 1)) 214 (EX 3 7) [xr 2 0, xr 0 0, xi 1] [xr 13 1, xi 1, xr 16 0] (xz V 13 1 80) = cv (Yt (d + 1) 75 [xr 13 1] (xz V 13 1 80)) (fun V => xrun WW true (FA (d + 1)) (Yt (d + 1)) 214 (EX 3 9) [xr 2 0, xr 0 0, xi 1] [xr 13 1, xi 1, xr 16 0] V) from rfl, y_81_i, cv_r]
  · rfl
  all_goals first | exact h | rfl
def TB_2 (V : XM) : XM := xu (ch_86 (xz V 13 2 85)) 16 0 2 1
set_option maxRecDepth 100000 in
theorem yTB_2 (d : Nat) (V : XM) (h : V 0 0 0 = 85) (f : V 2 0 9 = 1) : Xt (d + 1) 119 189 [xr 2 0, xr 0 0, xi 2] [] V = Xt (d + 1) 119 189 [xr 2 0, xr 0 0, xi 3] [] (TB_2 V) := by
  refine (Xx_eq _ _ _ _ _ _).trans ?_
  refine Eq.trans (b := if V 2 0 9 = 1 then xnew WW V 17 0 (fun g j V => xrun WW true (FA (d + 1)) (Yt (d + 1)) 214 (EX 3 7) [xr 2 0, xr 0 0, xi 2] [xr g j, xi 2, xr 16 0] V) else none) rfl ?_
  rw [if_pos f, xnew_at 85 13 2, show xrun WW true (FA (d + 1)) (Yt (d + 1)) 214 (EX 3 7) [xr 2 0, xr 0 0, xi 2] [xr 13 2, xi 2, xr 16 0] (xz V 13 2 85) = cv (Yt (d + 1) 75 [xr 13 2] (xz V 13 2 85)) (fun V => xrun WW true (FA (d + 1)) (Yt (d + 1)) 214 (EX 3 9) [xr 2 0, xr 0 0, xi 2] [xr 13 2, xi 2, xr 16 0] V) from rfl, y_86_i, cv_r]
  · rfl
  all_goals first | exact h | rfl
def TB_3 (V : XM) : XM := xu (ch_91 (xz V 13 3 90)) 16 0 3 1
set_option maxRecDepth 100000 in
theorem yTB_3 (d : Nat) (V : XM) (h : V 0 0 0 = 90) (f : V 2 0 9 = 1) : Xt (d + 1) 119 189 [xr 2 0, xr 0 0, xi 3] [] V = Xt (d + 1) 119 189 [xr 2 0, xr 0 0, xi 4] [] (TB_3 V) := by
  refine (Xx_eq _ _ _ _ _ _).trans ?_
  refine Eq.trans (b := if V 2 0 9 = 1 then xnew WW V 17 0 (fun g j V => xrun WW true (FA (d + 1)) (Yt (d + 1)) 214 (EX 3 7) [xr 2 0, xr 0 0, xi 3] [xr g j, xi 3, xr 16 0] V) else none) rfl ?_
  rw [if_pos f, xnew_at 90 13 3, show xrun WW true (FA (d + 1)) (Yt (d + 1)) 214 (EX 3 7) [xr 2 0, xr 0 0, xi 3] [xr 13 3, xi 3, xr 16 0] (xz V 13 3 90) = cv (Yt (d + 1) 75 [xr 13 3] (xz V 13 3 90)) (fun V => xrun WW true (FA (d + 1)) (Yt (d + 1)) 214 (EX 3 9) [xr 2 0, xr 0 0, xi 3] [xr 13 3, xi 3, xr 16 0] V) from rfl, y_91_i, cv_r]
  · rfl
  all_goals first | exact h | rfl
def TB_4 (V : XM) : XM := xu (ch_96 (xz V 13 4 95)) 16 0 4 1
set_option maxRecDepth 100000 in
theorem yTB_4 (d : Nat) (V : XM) (h : V 0 0 0 = 95) (f : V 2 0 9 = 1) : Xt (d + 1) 119 189 [xr 2 0, xr 0 0, xi 4] [] V = Xt (d + 1) 119 189 [xr 2 0, xr 0 0, xi 5] [] (TB_4 V) := by
  refine (Xx_eq _ _ _ _ _ _).trans ?_
  refine Eq.trans (b := if V 2 0 9 = 1 then xnew WW V 17 0 (fun g j V => xrun WW true (FA (d + 1)) (Yt (d + 1)) 214 (EX 3 7) [xr 2 0, xr 0 0, xi 4] [xr g j, xi 4, xr 16 0] V) else none) rfl ?_
  rw [if_pos f, xnew_at 95 13 4, show xrun WW true (FA (d + 1)) (Yt (d + 1)) 214 (EX 3 7) [xr 2 0, xr 0 0, xi 4] [xr 13 4, xi 4, xr 16 0] (xz V 13 4 95) = cv (Yt (d + 1) 75 [xr 13 4] (xz V 13 4 95)) (fun V => xrun WW true (FA (d + 1)) (Yt (d + 1)) 214 (EX 3 9) [xr 2 0, xr 0 0, xi 4] [xr 13 4, xi 4, xr 16 0] V) from rfl, y_96_i, cv_r]
  · rfl
  all_goals first | exact h | rfl
def TB_5 (V : XM) : XM := xu (ch_101 (xz V 13 5 100)) 16 0 5 1
set_option maxRecDepth 100000 in
theorem yTB_5 (d : Nat) (V : XM) (h : V 0 0 0 = 100) (f : V 2 0 9 = 1) : Xt (d + 1) 119 189 [xr 2 0, xr 0 0, xi 5] [] V = Xt (d + 1) 119 189 [xr 2 0, xr 0 0, xi 6] [] (TB_5 V) := by
  refine (Xx_eq _ _ _ _ _ _).trans ?_
  refine Eq.trans (b := if V 2 0 9 = 1 then xnew WW V 17 0 (fun g j V => xrun WW true (FA (d + 1)) (Yt (d + 1)) 214 (EX 3 7) [xr 2 0, xr 0 0, xi 5] [xr g j, xi 5, xr 16 0] V) else none) rfl ?_
  rw [if_pos f, xnew_at 100 13 5, show xrun WW true (FA (d + 1)) (Yt (d + 1)) 214 (EX 3 7) [xr 2 0, xr 0 0, xi 5] [xr 13 5, xi 5, xr 16 0] (xz V 13 5 100) = cv (Yt (d + 1) 75 [xr 13 5] (xz V 13 5 100)) (fun V => xrun WW true (FA (d + 1)) (Yt (d + 1)) 214 (EX 3 9) [xr 2 0, xr 0 0, xi 5] [xr 13 5, xi 5, xr 16 0] V) from rfl, y_101_i, cv_r]
  · rfl
  all_goals first | exact h | rfl
set_option maxRecDepth 100000 in
theorem yTB_out (d : Nat) (V : XM) : Xt (d + 1) 119 189 [xr 2 0, xr 0 0, xi 6] [] V = Xt (d + 1) 119 214 [xr 2 0, xr 0 0, xr 0 0] [] V := (Xx_eq _ _ _ _ _ _).trans rfl
def TW_z (V : XM) : XM := xu (xz (xu (xz V 17 0 105) 2 0 10 1) 18 0 106) 2 0 11 1
set_option maxRecDepth 100000 in
theorem yTW_z (d : Nat) (V : XM) (h : V 0 0 0 = 105) : Xt (d + 1) 119 214 [xr 2 0, xr 0 0, xr 0 0] [] V = cv (Yt (d + 1) 120 [xr 2 0] (TW_z V)) (fun V => some (xi 0, V)) := by
  refine (Xx_eq _ _ _ _ _ _).trans ?_
  refine Eq.trans (b := xnew WW V 1 16 (fun g j V => xrun WW true (FA (d + 1)) (Yt (d + 1)) 236 (EX 4 3) [xr 2 0, xr 0 0, xr 0 0] [xr g j, xr 2 0] V)) rfl ?_
  rw [xnew_at 105 17 0]
  · refine Eq.trans (b := xnew WW (xu (xz V 17 0 105) 2 0 10 1) 1 1490 (fun g j V => xrun WW true (FA (d + 1)) (Yt (d + 1)) 236 (EX 4 7) [xr 2 0, xr 0 0, xr 0 0] [xr g j, xr 2 0] V)) rfl ?_
    rw [xnew_at 106 18 0]
    · rfl
    all_goals rfl
  all_goals first | exact h | rfl
