set_option maxRecDepth 100000 in
theorem s_X0_add_t (d : Nat) (V : XM) (a : Int) : Yt (d + 1) 2 [xr 3 0, xi a] V =
    if (V 3 0 0) = 1 then
    if 0 ≤ V 3 0 1 ∧ V 3 0 1 < 24 then
      some (xi (V 3 0 1), (xu (xu V 19 0 ((V 3 0 1).toNat) a) 3 0 1 (w32 ((V 3 0 1) + 1))))
    else
      none
  else
    none := Xc_es [] P_X0_add 1 _ V
set_option maxRecDepth 100000 in
theorem s_X0_begin_t (d : Nat) (V : XM) : Yt (d + 1) 1 [xr 3 0] V =
    ci (Yt d 2 [xr 3 0, xi (-9)] (xu V 3 0 1 0)) (fun x2 V1 =>
    Xt d 1 14 [xr 3 0, xi 1] [] V1) := Xc_es [14] P_X0_begin 1 _ V
set_option maxRecDepth 100000 in
theorem s_X0_begin_14_t (d : Nat) (V : XM) (l1 : Int) : Xt d 1 14 [xr 3 0, xi l1] [] V =
    if 4 < l1 then
    ci (Yt d 2 [xr 3 0, xi 4] V) (fun x2 V1 =>
      some (xi 0, V1))
  else
    ci (Yt d 2 [xr 3 0, xi 0] V) (fun x4 V3 =>
      Xt d 1 14 [xr 3 0, xi (w32 (l1 + 1))] [] V3) := Xx_es [14] P_X0_begin 2 _ _ _ V
set_option maxRecDepth 100000 in
theorem s_X11_beginAnew_t (d : Nat) (V : XM) : Yt (d + 1) 120 [xr 2 0] V =
    if (V 2 0 0) = 1 then
    cv (Yt d 1 [xr 3 0] V) (fun V1 =>
      if (V1 2 0 1) = 1 then
        if (V1 2 0 2) = 1 then
          if (V1 2 0 3) = 1 then
            if (V1 2 0 4) = 1 then
              if (V1 2 0 6) = 1 then
                some (xi 0, (xu (xu (xu (xu (xu (xu (xu (xu (xu (xu V1 4 0 7 0) 5 0 9 0) 6 0 4 0) 7 0 15 0) 10 0 6 0) 2 0 12 0) 2 0 13 0) 2 0 14 0) 2 0 15 0) 2 0 16 0))
              else
                none
            else
              none
          else
            none
        else
          none
      else
        none)
  else
    none := Xc_es [] P_X11_beginAnew 1 _ V
set_option maxRecDepth 100000 in
theorem s_X12_begin_t (d : Nat) (V : XM) : Yt (d + 1) 191 [xr 14 0] V =
    Xt d 191 13 [xr 14 0, xi 0] [] (xu (xu V 14 0 0 0) 14 0 1 6) := Xc_es [13, 88, 110] P_X12_begin 1 _ V
set_option maxRecDepth 100000 in
theorem s_X12_begin_13_t (d : Nat) (V : XM) (l1 : Int) : Xt d 191 13 [xr 14 0, xi l1] [] V =
    if l1 < 6 then
    if (V 14 0 2) = 1 then
      if l1 = 5 then
        if 0 ≤ l1 ∧ l1 < 24 then
          Xt d 191 13 [xr 14 0, xi (w32 (l1 + 1))] [] (xu V 67 0 (l1.toNat) 4)
        else
          none
      else
        if 0 ≤ l1 ∧ l1 < 24 then
          Xt d 191 13 [xr 14 0, xi (w32 (l1 + 1))] [] (xu V 67 0 (l1.toNat) 0)
        else
          none
    else
      none
  else
    Xt d 191 88 [xr 14 0, xi 0] [] (xu (xu (xu (xu (xu (xu (xu (xu (xu V 14 0 3 0) 14 0 9 0) 14 0 22 0) 14 0 29 0) 14 0 39 0) 14 0 45 0) 14 0 56 0) 14 0 27 0) 14 0 44 0) := Xx_es [13, 88, 110] P_X12_begin 3 _ _ _ V
set_option maxRecDepth 100000 in
theorem s_X12_begin_88_t (d : Nat) (V : XM) (l1 : Int) : Xt d 191 88 [xr 14 0, xi l1] [] V =
    if l1 < 288 then
    if (V 14 0 7) = 1 then
      if 0 ≤ l1 ∧ l1 < 288 then
        Xt d 191 88 [xr 14 0, xi (w32 (l1 + 1))] [] (xu V 71 0 (l1.toNat) 0)
      else
        none
    else
      none
  else
    Xt d 191 110 [xr 14 0, xi 0] [] V := Xx_es [13, 88, 110] P_X12_begin 2 _ _ _ V
set_option maxRecDepth 100000 in
theorem s_X12_begin_110_t (d : Nat) (V : XM) (l1 : Int) : Xt d 191 110 [xr 14 0, xi l1] [] V =
    if l1 < 512 then
    if (V 14 0 35) = 1 then
      if 0 ≤ l1 ∧ l1 < 512 then
        if (V 14 0 36) = 1 then
          if 0 ≤ l1 ∧ l1 < 512 then
            if (V 14 0 37) = 1 then
              if 0 ≤ l1 ∧ l1 < 512 then
                Xt d 191 110 [xr 14 0, xi (w32 (l1 + 1))] [] (xu (xu (xu V 95 0 (l1.toNat) 0) 96 0 (l1.toNat) (-9)) 97 0 (l1.toNat) (-9))
              else
                none
            else
              none
          else
            none
        else
          none
      else
        none
    else
      none
  else
    some (xi 0, V) := Xx_es [13, 88, 110] P_X12_begin 2 _ _ _ V
