/-! both constructors, and the law's first block -/
def VA (V : XM) : XM := (TW_z (TB_5 (TB_4 (TB_3 (TB_2 (TB_1 (TB_0 (TA_a (SH_9 (SH_8 (SH_7 (SH_6 (SH_5 (SH_4 (SH_3 (SH_2 (SH_1 (SH_0 (xu (B_10 V) 2 0 8 1)))))))))))))))))))
set_option maxRecDepth 100000 in
theorem ctorA (d : Nat) (V : XM) (h : V 0 0 0 = 1) : Yt (d + 4) 119 [xr 2 0] V = some (xi 0, cBeg (VA V)) := by
  rw [Q_all _ _ h, ySH_0 _ _ rfl rfl, ySH_1 _ _ rfl rfl, ySH_2 _ _ rfl rfl, ySH_3 _ _ rfl rfl, ySH_4 _ _ rfl rfl, ySH_5 _ _ rfl rfl, ySH_6 _ _ rfl rfl, ySH_7 _ _ rfl rfl, ySH_8 _ _ rfl rfl, ySH_9 _ _ rfl rfl, ySH_out, yTA_a _ _ rfl, yTB_0 _ _ rfl rfl, yTB_1 _ _ rfl rfl, yTB_2 _ _ rfl rfl, yTB_3 _ _ rfl rfl, yTB_4 _ _ rfl rfl, yTB_5 _ _ rfl rfl, yTB_out, yTW_z _ _ rfl]
  rw [yt_cBegin d _ rfl rfl rfl rfl rfl rfl rfl, cv_r]
  rfl
set_option maxRecDepth 100000 in
theorem ctorB (d : Nat) (V : XM) (h : V 0 0 0 = 108) : Yt (d + 2) 188 [xr 14 0] V = some (xi 0, rBeg (ch_108 V)) := by
  rw [y_108_i _ _ h, yt_rBegin d _ rfl rfl rfl rfl rfl, cv_r]
noncomputable def FL (d : Nat) : Nat → List XS → List XS → XM → XR := fun t ls st V => xmkK K_L_law t ls (fun ls => Xt d 310 t ls st V)
def EL (j : Nat) : List XE := List.drop j ((xgl ((0, [], [], 0) : XB) K_L_law 0).2.2.1)
/-- all that the law makes -/
def VM (V : XM) : XM := rBeg (ch_108 (xz (cBeg (VA (xz V 2 0 0))) 14 0 107))
set_option maxRecDepth 100000 in
theorem law_made (d : Nat) (V : XM) (h : V 0 0 0 = 0) : Xt (d + 4) 310 0 [xr 1 0, xr 0 0, xr 0 0, xr 0 0] [] V = Xt (d + 4) 310 18 [xr 1 0, xr 2 0, xr 14 0, xi 0] [] (VM V) := by
  refine (Xx_eq _ _ _ _ _ _).trans ?_
  refine Eq.trans (b := xnew WW V 21 0 (fun g j V => xrun WW true (FL (d + 4)) (Yt (d + 4)) 18 (EL 1) [xr 1 0, xr 0 0, xr 0 0, xr 0 0] [xr g j] V)) rfl ?_
  rw [xnew_at 0 2 0]
  · rw [show xrun WW true (FL (d + 4)) (Yt (d + 4)) 18 (EL 1) [xr 1 0, xr 0 0, xr 0 0, xr 0 0] [xr 2 0] (xz V 2 0 0) = cv (Yt (d + 4) 119 [xr 2 0] (xz V 2 0 0)) (fun V => xrun WW true (FL (d + 4)) (Yt (d + 4)) 18 (EL 3) [xr 1 0, xr 0 0, xr 0 0, xr 0 0] [xr 2 0] V) from rfl, ctorA d _ rfl, cv_r]
    refine Eq.trans (b := xnew WW (cBeg (VA (xz V 2 0 0))) 22 0 (fun g j V => xrun WW true (FL (d + 4)) (Yt (d + 4)) 18 (EL 5) [xr 1 0, xr 2 0, xr 0 0, xr 0 0] [xr g j] V)) rfl ?_
    rw [xnew_at 107 14 0]
    · rw [show xrun WW true (FL (d + 4)) (Yt (d + 4)) 18 (EL 5) [xr 1 0, xr 2 0, xr 0 0, xr 0 0] [xr 14 0] (xz (cBeg (VA (xz V 2 0 0))) 14 0 107) = cv (Yt (d + 4) 188 [xr 14 0] (xz (cBeg (VA (xz V 2 0 0))) 14 0 107)) (fun V => xrun WW true (FL (d + 4)) (Yt (d + 4)) 18 (EL 7) [xr 1 0, xr 2 0, xr 0 0, xr 0 0] [xr 14 0] V) from rfl, ctorB (d + 2) _ rfl, cv_r]
      rfl
    all_goals rfl
  all_goals first | exact h | rfl
