set_option maxRecDepth 100000 in
theorem s_X2_earliestRelate (d : Nat) (V : XM) (a : Int) (b : Int) (c : Int) : Yf (d + 1) 44 [xr 10 0, xi a, xi b, xi c] V =
    Xf d 44 3 [xr 10 0, xi a, xi b, xi c, xi 0] [] V := Xc_es [3] P_X2_earliestRelate 1 _ V
set_option maxRecDepth 100000 in
theorem s_X2_earliestRelate_3 (d : Nat) (V : XM) (l1 : Int) (l2 : Int) (l3 : Int) (l4 : Int) : Xf d 44 3 [xr 10 0, xi l1, xi l2, xi l3, xi l4] [] V =
    if l4 < (V 6 0 4) then
    if 0 ≤ l4 ∧ l4 < 300 then
      if (V 33 0 (l4.toNat)) = 6 then
        if 0 ≤ l4 ∧ l4 < 300 then
          if (V 34 0 (l4.toNat)) = l1 then
            if l2 = (-9) then
              if l3 = (-9) then
                some (xi l4, V)
              else
                if 0 ≤ l4 ∧ l4 < 300 then
                  if (V 36 0 (l4.toNat)) = l3 then
                    some (xi l4, V)
                  else
                    Xf d 44 3 [xr 10 0, xi l1, xi l2, xi l3, xi (w32 (l4 + 1))] [] V
                else
                  none
            else
              if 0 ≤ l4 ∧ l4 < 300 then
                if (V 35 0 (l4.toNat)) = l2 then
                  if l3 = (-9) then
                    some (xi l4, V)
                  else
                    if 0 ≤ l4 ∧ l4 < 300 then
                      if (V 36 0 (l4.toNat)) = l3 then
                        some (xi l4, V)
                      else
                        Xf d 44 3 [xr 10 0, xi l1, xi l2, xi l3, xi (w32 (l4 + 1))] [] V
                    else
                      none
                else
                  Xf d 44 3 [xr 10 0, xi l1, xi l2, xi l3, xi (w32 (l4 + 1))] [] V
              else
                none
          else
            Xf d 44 3 [xr 10 0, xi l1, xi l2, xi l3, xi (w32 (l4 + 1))] [] V
        else
          none
      else
        Xf d 44 3 [xr 10 0, xi l1, xi l2, xi l3, xi (w32 (l4 + 1))] [] V
    else
      none
  else
    some (xi (-9), V) := Xx_es [3] P_X2_earliestRelate 3 _ _ _ V
set_option maxRecDepth 100000 in
theorem s_X2_heldBy (d : Nat) (V : XM) (a : Int) (b : Int) (c : Int) : Yf (d + 1) 45 [xr 10 0, xi a, xi b, xi c] V =
    if 0 ≤ a ∧ a < 8 then
    if (V 54 0 (a.toNat)) = 5 then
      ci (Yf d 46 [xr 10 0, xi a, xi b, xi c] V) (fun x2 V1 =>
        some (xi x2, V1))
    else
      ci (Yf d 44 [xr 10 0, xi a, xi b, xi c] V) (fun x4 V3 =>
        if x4 < 0 then
          ci (Yf d 44 [xr 10 0, xi a, xi c, xi b] V3) (fun x6 V5 =>
            some (xi x6, V5))
        else
          some (xi x4, V3))
  else
    none := Xc_es [] P_X2_heldBy 4 _ V
set_option maxRecDepth 100000 in
theorem s_X2_togetherBy (d : Nat) (V : XM) (a : Int) (b : Int) (c : Int) : Yf (d + 1) 46 [xr 10 0, xi a, xi b, xi c] V =
    Xf d 46 3 [xr 10 0, xi a, xi b, xi c, xi 0] [] V := Xc_es [3, 31] P_X2_togetherBy 1 _ V
set_option maxRecDepth 100000 in
theorem s_X2_togetherBy_3 (d : Nat) (V : XM) (l1 : Int) (l2 : Int) (l3 : Int) (l4 : Int) : Xf d 46 3 [xr 10 0, xi l1, xi l2, xi l3, xi l4] [] V =
    if l4 < 64 then
    cl (Yf d 186 [xi l4] V) (fun x2 V1 =>
      if 0 ≤ l4 ∧ l4 < 64 then
        Xf d 46 3 [xr 10 0, xi l1, xi l2, xi l3, xi (w32 (l4 + 1))] [] (xu V1 56 0 (l4.toNat) x2)
      else
        none)
  else
    Xf d 46 31 [xr 10 0, xi l1, xi l2, xi l3, xi 0] [] V := Xx_es [3, 31] P_X2_togetherBy 2 _ _ _ V
set_option maxRecDepth 100000 in
theorem s_X2_togetherBy_31 (d : Nat) (V : XM) (l1 : Int) (l2 : Int) (l3 : Int) (l4 : Int) : Xf d 46 31 [xr 10 0, xi l1, xi l2, xi l3, xi l4] [] V =
    if l4 < (V 6 0 4) then
    if 0 ≤ l4 ∧ l4 < 300 then
      if (V 33 0 (l4.toNat)) = 6 then
        if 0 ≤ l4 ∧ l4 < 300 then
          if (V 34 0 (l4.toNat)) = l1 then
            if 0 ≤ l4 ∧ l4 < 300 then
              if 0 ≤ l4 ∧ l4 < 300 then
                cv (Yf d 41 [xr 56 0, xi 0, xi (V 35 0 (l4.toNat)), xi (V 36 0 (l4.toNat))] V) (fun V1 =>
                  if 0 ≤ l2 ∧ l2 < 64 then
                    cl (Yf d 186 [xi l3] V1) (fun x3 V2 =>
                      if (cmp3 (lAnd (V1 56 0 (l2.toNat)) x3) 0) = 0 then
                        Xf d 46 31 [xr 10 0, xi l1, xi l2, xi l3, xi (w32 (l4 + 1))] [] V2
                      else
                        some (xi l4, V2))
                  else
                    none)
              else
                none
            else
              none
          else
            Xf d 46 31 [xr 10 0, xi l1, xi l2, xi l3, xi (w32 (l4 + 1))] [] V
        else
          none
      else
        Xf d 46 31 [xr 10 0, xi l1, xi l2, xi l3, xi (w32 (l4 + 1))] [] V
    else
      none
  else
    some (xi (-9), V) := Xx_es [3, 31] P_X2_togetherBy 2 _ _ _ V
set_option maxRecDepth 100000 in
theorem s_X2_walkFrom (d : Nat) (V : XM) (a : Int) (b : Int) : Yf (d + 1) 47 [xr 10 0, xi a, xi b] V =
    cv (Yf d 117 [xr 9 0, xi b] V) (fun V1 =>
    Xf d 47 10 [xr 10 0, xi a, xr 0 0, xi 0, xr 0 0, xr 0 0, xr 0 0, xr 0 0] [] V1) := Xc_es [10, 50] P_X2_walkFrom 1 _ V
set_option maxRecDepth 100000 in
theorem s_X2_walkFrom_10 (d : Nat) (V : XM) (l1 : Int) (l3 : Int) : Xf d 47 10 [xr 10 0, xi l1, xr 0 0, xi l3, xr 0 0, xr 0 0, xr 0 0, xr 0 0] [] V =
    if l3 < 64 then
    if l3 < (V 9 0 3) then
      if 0 ≤ l3 ∧ l3 < 64 then
        cl (Yf d 38 [xr 10 0, xi l1, xi (V 53 0 (l3.toNat))] V) (fun x2 V1 =>
          Xf d 47 50 [xr 10 0, xi l1, xr 0 0, xi l3, xi (V 53 0 (l3.toNat)), xl x2, xr 0 0, xi 0] [] V1)
      else
        none
    else
      some (xr 9 0, V)
  else
    some (xr 9 0, V) := Xx_es [10, 50] P_X2_walkFrom 2 _ _ _ V
set_option maxRecDepth 100000 in
theorem s_X2_walkFrom_50 (d : Nat) (V : XM) (l1 : Int) (l3 : Int) (l4 : Int) (l5 : Int) (l7 : Int) : Xf d 47 50 [xr 10 0, xi l1, xr 0 0, xi l3, xi l4, xl l5, xr 0 0, xi l7] [] V =
    if l7 < (V 4 0 7) then
    cl (Yf d 186 [xi l7] V) (fun x2 V1 =>
      if (cmp3 (lAnd l5 x2) 0) = 0 then
        Xf d 47 50 [xr 10 0, xi l1, xr 0 0, xi l3, xi l4, xl l5, xr 0 0, xi (w32 (l7 + 1))] [] V1
      else
        cv (Yf d 118 [xr 9 0, xi l4, xi l7, xi l7] V1) (fun V3 =>
          Xf d 47 50 [xr 10 0, xi l1, xr 0 0, xi l3, xi l4, xl l5, xr 0 0, xi (w32 (l7 + 1))] [] V3))
  else
    Xf d 47 10 [xr 10 0, xi l1, xr 0 0, xi (w32 (l3 + 1)), xr 0 0, xr 0 0, xr 0 0, xr 0 0] [] V := Xx_es [10, 50] P_X2_walkFrom 2 _ _ _ V
set_option maxRecDepth 100000 in
theorem s_X2_couples (d : Nat) (V : XM) (a : Int) : Yf (d + 1) 48 [xr 10 0, xi a] V =
    Xf d 48 4 [xr 10 0, xi a, xi 0, xi 0] [] V := Xc_es [4] P_X2_couples 1 _ V
set_option maxRecDepth 100000 in
theorem s_X2_couples_4 (d : Nat) (V : XM) (l1 : Int) (l2 : Int) (l3 : Int) : Xf d 48 4 [xr 10 0, xi l1, xi l2, xi l3] [] V =
    if l3 < (V 4 0 7) then
    cl (Yf d 38 [xr 10 0, xi l1, xi l3] V) (fun x2 V1 =>
      cl (Yf d 186 [xi l3] V1) (fun x4 V3 =>
        ci (Yf d 308 [xl (lAnd x2 (lXor x4 (-1)))] V3) (fun x6 V5 =>
          Xf d 48 4 [xr 10 0, xi l1, xi (w32 (l2 + x6)), xi (w32 (l3 + 1))] [] V5)))
  else
    some (xi l2, V) := Xx_es [4] P_X2_couples 2 _ _ _ V
set_option maxRecDepth 100000 in
theorem s_X3_begin (d : Nat) (V : XM) (a : Int) : Yf (d + 1) 50 [xr 11 0, xi a] V =
    Xf d 50 2 [xr 11 0, xi a, xi 0] [] V := Xc_es [2] P_X3_begin 1 _ V
set_option maxRecDepth 100000 in
theorem s_X3_begin_2 (d : Nat) (V : XM) (l1 : Int) (l2 : Int) : Xf d 50 2 [xr 11 0, xi l1, xi l2] [] V =
    if l2 < 8 then
    cv (Yf d 51 [xr 11 0, xi (w32 ((w32 (l1 * 8)) + l2)), xi 0, xi (-9), xi (-9), xi (-9)] V) (fun V1 =>
      Xf d 50 2 [xr 11 0, xi l1, xi (w32 (l2 + 1))] [] V1)
  else
    if 0 ≤ l1 ∧ l1 < 64 then
      some (xi 0, (xu V 61 0 (l1.toNat) (-9)))
    else
      none := Xx_es [2] P_X3_begin 2 _ _ _ V
set_option maxRecDepth 100000 in
theorem s_X3_write (d : Nat) (V : XM) (a : Int) (b : Int) (c : Int) (e : Int) (f : Int) : Yf (d + 1) 51 [xr 11 0, xi a, xi b, xi c, xi e, xi f] V =
    if 0 ≤ a ∧ a < 512 then
    if 0 ≤ a ∧ a < 512 then
      if 0 ≤ a ∧ a < 512 then
        if 0 ≤ a ∧ a < 512 then
          some (xi 0, (xu (xu (xu (xu V 57 0 (a.toNat) b) 58 0 (a.toNat) c) 59 0 (a.toNat) e) 60 0 (a.toNat) f))
        else
          none
      else
        none
    else
      none
  else
    none := Xc_es [] P_X3_write 1 _ V
set_option maxRecDepth 100000 in
theorem s_X3_sortOf (d : Nat) (V : XM) (a : Int) (b : Int) : Yf (d + 1) 52 [xr 11 0, xi a, xi b] V =
    if 0 ≤ w32 ((w32 (a * 8)) + b) ∧ w32 ((w32 (a * 8)) + b) < 512 then
    some (xi (V 57 0 ((w32 ((w32 (a * 8)) + b)).toNat)), V)
  else
    none := Xc_es [] P_X3_sortOf 1 _ V
set_option maxRecDepth 100000 in
theorem s_X3_leadsTo (d : Nat) (V : XM) (a : Int) (b : Int) : Yf (d + 1) 53 [xr 11 0, xi a, xi b] V =
    if 0 ≤ w32 ((w32 (a * 8)) + b) ∧ w32 ((w32 (a * 8)) + b) < 512 then
    some (xi (V 58 0 ((w32 ((w32 (a * 8)) + b)).toNat)), V)
  else
    none := Xc_es [] P_X3_leadsTo 1 _ V
set_option maxRecDepth 100000 in
theorem s_X3_isTold (d : Nat) (V : XM) (a : Int) (b : Int) : Yf (d + 1) 54 [xr 11 0, xi a, xi b] V =
    ci (Yf d 52 [xr 11 0, xi a, xi b] V) (fun x2 V1 =>
    if x2 < 2 then
      some (xi 0, V1)
    else
      some (xi 1, V1)) := Xc_es [] P_X3_isTold 3 _ V
set_option maxRecDepth 100000 in
theorem s_X3_toldIn (d : Nat) (V : XM) (a : Int) (b : Int) : Yf (d + 1) 55 [xr 11 0, xi a, xi b] V =
    if 0 ≤ w32 ((w32 (a * 8)) + b) ∧ w32 ((w32 (a * 8)) + b) < 512 then
    some (xi (V 60 0 ((w32 ((w32 (a * 8)) + b)).toNat)), V)
  else
    none := Xc_es [] P_X3_toldIn 1 _ V
set_option maxRecDepth 100000 in
theorem s_X3_opposite (d : Nat) (V : XM) (a : Int) : Yf (d + 1) 56 [xi a] V =
    some (xi (iXor a 1), V) := Xc_es [] P_X3_opposite 1 _ V
set_option maxRecDepth 100000 in
theorem s_X3_tellExit (d : Nat) (V : XM) (a : Int) (b : Int) (c : Int) (e : Int) : Yf (d + 1) 57 [xr 11 0, xi a, xi b, xi c, xi e] V =
    if c = (-9) then
    cv (Yf d 51 [xr 11 0, xi (w32 ((w32 (a * 8)) + b)), xi 4, xi c, xi (-9), xi e] V) (fun V1 =>
      if c = (-9) then
        some (xi 0, V1)
      else
        ci (Yf d 56 [xi b] V1) (fun x3 V2 =>
          ci (Yf d 52 [xr 11 0, xi c, xi x3] V2) (fun x5 V4 =>
            if x5 = 0 then
              ci (Yf d 56 [xi b] V4) (fun x7 V6 =>
                cv (Yf d 51 [xr 11 0, xi (w32 ((w32 (c * 8)) + x7)), xi 1, xi a, xi (-9), xi (-9)] V6) (fun V8 =>
                  some (xi 0, V8)))
            else
              some (xi 0, V4))))
  else
    cv (Yf d 51 [xr 11 0, xi (w32 ((w32 (a * 8)) + b)), xi 2, xi c, xi (-9), xi e] V) (fun V9 =>
      if c = (-9) then
        some (xi 0, V9)
      else
        ci (Yf d 56 [xi b] V9) (fun x11 V10 =>
          ci (Yf d 52 [xr 11 0, xi c, xi x11] V10) (fun x13 V12 =>
            if x13 = 0 then
              ci (Yf d 56 [xi b] V12) (fun x15 V14 =>
                cv (Yf d 51 [xr 11 0, xi (w32 ((w32 (c * 8)) + x15)), xi 1, xi a, xi (-9), xi (-9)] V14) (fun V16 =>
                  some (xi 0, V16)))
            else
              some (xi 0, V12)))) := Xc_es [] P_X3_tellExit 4 _ V
set_option maxRecDepth 100000 in
theorem s_X3_againstDoor (d : Nat) (V : XM) (a : Int) (b : Int) (c : Int) (e : Int) : Yf (d + 1) 58 [xr 11 0, xi a, xi b, xi c, xi e] V =
    if 0 ≤ a ∧ a < 64 then
    if (V 61 0 (a.toNat)) < 0 then
      ci (Yf d 55 [xr 11 0, xi b, xi c] V) (fun x2 V1 =>
        if x2 < 0 then
          ci (Yf d 56 [xi c] V1) (fun x4 V3 =>
            ci (Yf d 55 [xr 11 0, xi e, xi x4] V3) (fun x6 V5 =>
              some (xi x6, V5)))
        else
          some (xi x2, V1))
    else
      if 0 ≤ a ∧ a < 64 then
        some (xi (V 61 0 (a.toNat)), V)
      else
        none
  else
    none := Xc_es [] P_X3_againstDoor 4 _ V
set_option maxRecDepth 100000 in
theorem s_X3_tellDoor (d : Nat) (V : XM) (a : Int) (b : Int) (c : Int) (e : Int) (f : Int) : Yf (d + 1) 59 [xr 11 0, xi a, xi b, xi c, xi e, xi f] V =
    if 0 ≤ a ∧ a < 64 then
    cv (Yf d 51 [xr 11 0, xi (w32 ((w32 (b * 8)) + c)), xi 3, xi e, xi a, xi f] (xu V 61 0 (a.toNat) f)) (fun V1 =>
      ci (Yf d 56 [xi c] V1) (fun x3 V2 =>
        cv (Yf d 51 [xr 11 0, xi (w32 ((w32 (e * 8)) + x3)), xi 3, xi b, xi a, xi f] V2) (fun V4 =>
          some (xi 0, V4))))
  else
    none := Xc_es [] P_X3_tellDoor 1 _ V
set_option maxRecDepth 100000 in
theorem s_X3_isPassable (d : Nat) (V : XM) (a : Int) (b : Int) (c : Int) : Yf (d + 1) 60 [xr 11 0, xi a, xi b, xi c] V =
    if 0 ≤ w32 ((w32 (a * 8)) + b) ∧ w32 ((w32 (a * 8)) + b) < 512 then
    ci (Yf d 53 [xr 11 0, xi a, xi b] V) (fun x2 V1 =>
      if x2 < 0 then
        some (xi 0, V1)
      else
        if c = 0 then
          if (V 59 0 ((w32 ((w32 (a * 8)) + b)).toNat)) < 0 then
            some (xi 1, V1)
          else
            if 0 ≤ V 59 0 ((w32 ((w32 (a * 8)) + b)).toNat) ∧ V 59 0 ((w32 ((w32 (a * 8)) + b)).toNat) < 64 then
              if (V1 25 0 ((V 59 0 ((w32 ((w32 (a * 8)) + b)).toNat)).toNat)) = 0 then
                some (xi 0, V1)
              else
                some (xi 1, V1)
            else
              none
        else
          some (xi 1, V1))
  else
    none := Xc_es [] P_X3_isPassable 3 _ V
set_option maxRecDepth 100000 in
theorem s_X3_walkFrom (d : Nat) (V : XM) (a : Int) (b : Int) : Yf (d + 1) 61 [xr 11 0, xi a, xi b] V =
    cv (Yf d 117 [xr 9 0, xi a] V) (fun V1 =>
    Xf d 61 10 [xr 11 0, xr 0 0, xi b, xi 0, xr 0 0, xr 0 0] [] V1) := Xc_es [10, 41] P_X3_walkFrom 1 _ V
set_option maxRecDepth 100000 in
theorem s_X3_walkFrom_10 (d : Nat) (V : XM) (l2 : Int) (l3 : Int) : Xf d 61 10 [xr 11 0, xr 0 0, xi l2, xi l3, xr 0 0, xr 0 0] [] V =
    if l3 < 64 then
    if l3 < (V 9 0 3) then
      if 0 ≤ l3 ∧ l3 < 64 then
        Xf d 61 41 [xr 11 0, xr 0 0, xi l2, xi l3, xi (V 53 0 (l3.toNat)), xi 0] [] V
      else
        none
    else
      some (xr 9 0, V)
  else
    some (xr 9 0, V) := Xx_es [10, 41] P_X3_walkFrom 2 _ _ _ V
set_option maxRecDepth 100000 in
theorem s_X3_walkFrom_41 (d : Nat) (V : XM) (l2 : Int) (l3 : Int) (l4 : Int) (l5 : Int) : Xf d 61 41 [xr 11 0, xr 0 0, xi l2, xi l3, xi l4, xi l5] [] V =
    if l5 < 8 then
    ci (Yf d 60 [xr 11 0, xi l4, xi l5, xi l2] V) (fun x2 V1 =>
      if x2 = 0 then
        Xf d 61 41 [xr 11 0, xr 0 0, xi l2, xi l3, xi l4, xi (w32 (l5 + 1))] [] V1
      else
        ci (Yf d 53 [xr 11 0, xi l4, xi l5] V1) (fun x4 V3 =>
          cv (Yf d 118 [xr 9 0, xi l4, xi x4, xi l5] V3) (fun V5 =>
            Xf d 61 41 [xr 11 0, xr 0 0, xi l2, xi l3, xi l4, xi (w32 (l5 + 1))] [] V5)))
  else
    Xf d 61 10 [xr 11 0, xr 0 0, xi l2, xi (w32 (l3 + 1)), xr 0 0, xr 0 0] [] V := Xx_es [10, 41] P_X3_walkFrom 2 _ _ _ V
set_option maxRecDepth 100000 in
theorem s_X4_areFull (d : Nat) (V : XM) : Yf (d + 1) 63 [xr 6 0] V =
    if (V 6 0 4) < 300 then
    some (xi 0, V)
  else
    some (xi 1, V) := Xc_es [] P_X4_areFull 3 _ V
set_option maxRecDepth 100000 in
theorem s_X4_add (d : Nat) (V : XM) (a : Int) (b : Int) (c : Int) (e : Int) : Yf (d + 1) 64 [xr 6 0, xi a, xi b, xi c, xi e] V =
    if 0 ≤ V 6 0 4 ∧ V 6 0 4 < 300 then
    if 0 ≤ V 6 0 4 ∧ V 6 0 4 < 300 then
      if 0 ≤ V 6 0 4 ∧ V 6 0 4 < 300 then
        if 0 ≤ V 6 0 4 ∧ V 6 0 4 < 300 then
          some (xi (V 6 0 4), (xu (xu (xu (xu (xu V 33 0 ((V 6 0 4).toNat) a) 34 0 ((V 6 0 4).toNat) b) 35 0 ((V 6 0 4).toNat) c) 36 0 ((V 6 0 4).toNat) e) 6 0 4 (w32 ((V 6 0 4) + 1))))
        else
          none
      else
        none
    else
      none
  else
    none := Xc_es [] P_X4_add 1 _ V
set_option maxRecDepth 100000 in
theorem s_X4_earliest (d : Nat) (V : XM) (a : Int) (b : Int) (c : Int) (e : Int) : Yf (d + 1) 65 [xr 6 0, xi a, xi b, xi c, xi e] V =
    Xf d 65 3 [xr 6 0, xi a, xi b, xi c, xi e, xi 0] [] V := Xc_es [3] P_X4_earliest 1 _ V
set_option maxRecDepth 100000 in
theorem s_X4_earliest_3 (d : Nat) (V : XM) (l1 : Int) (l2 : Int) (l3 : Int) (l4 : Int) (l5 : Int) : Xf d 65 3 [xr 6 0, xi l1, xi l2, xi l3, xi l4, xi l5] [] V =
    if l5 < (V 6 0 4) then
    if 0 ≤ l5 ∧ l5 < 300 then
      if (V 33 0 (l5.toNat)) = l1 then
        if 0 ≤ l5 ∧ l5 < 300 then
          if (V 34 0 (l5.toNat)) = l2 then
            if 0 ≤ l5 ∧ l5 < 300 then
              if (V 35 0 (l5.toNat)) = l3 then
                if 0 ≤ l5 ∧ l5 < 300 then
                  if (V 36 0 (l5.toNat)) = l4 then
                    some (xi l5, V)
                  else
                    Xf d 65 3 [xr 6 0, xi l1, xi l2, xi l3, xi l4, xi (w32 (l5 + 1))] [] V
                else
                  none
              else
                Xf d 65 3 [xr 6 0, xi l1, xi l2, xi l3, xi l4, xi (w32 (l5 + 1))] [] V
            else
              none
          else
            Xf d 65 3 [xr 6 0, xi l1, xi l2, xi l3, xi l4, xi (w32 (l5 + 1))] [] V
        else
          none
      else
        Xf d 65 3 [xr 6 0, xi l1, xi l2, xi l3, xi l4, xi (w32 (l5 + 1))] [] V
    else
      none
  else
    some (xi (-9), V) := Xx_es [3] P_X4_earliest 2 _ _ _ V
set_option maxRecDepth 100000 in
theorem s_X5_ways (d : Nat) (V : XM) : Yf (d + 1) 67 [xr 8 0] V =
    Xf d 67 4 [xr 8 0, xi 1, xi 0] [] V := Xc_es [4] P_X5_ways 1 _ V
set_option maxRecDepth 100000 in
theorem s_X5_ways_4 (d : Nat) (V : XM) (l1 : Int) (l2 : Int) : Xf d 67 4 [xr 8 0, xi l1, xi l2] [] V =
    if l2 < (V 4 0 7) then
    if 3000 < l1 then
      some (xi l1, V)
    else
      ci (Yf d 25 [xr 7 0, xi l2] V) (fun x2 V1 =>
        if x2 = 0 then
          Xf d 67 4 [xr 8 0, xi l1, xi (w32 (l2 + 1))] [] V1
        else
          cl (Yf d 24 [xr 7 0, xi l2] V1) (fun x4 V3 =>
            ci (Yf d 308 [xl x4] V3) (fun x6 V5 =>
              Xf d 67 4 [xr 8 0, xi (w32 (l1 * x6)), xi (w32 (l2 + 1))] [] V5)))
  else
    some (xi l1, V) := Xx_es [4] P_X5_ways 2 _ _ _ V
set_option maxRecDepth 100000 in
theorem s_X5_thingAt (d : Nat) (V : XM) (a : Int) : Yf (d + 1) 68 [xr 8 0, xi a] V =
    if 0 ≤ a ∧ a < 7 then
    some (xi (V 50 0 (a.toNat)), V)
  else
    none := Xc_es [] P_X5_thingAt 1 _ V
set_option maxRecDepth 100000 in
theorem s_X5_takeLeastWay (d : Nat) (V : XM) (a : Int) : Yf (d + 1) 69 [xr 8 0, xi a] V =
    Xf d 69 7 [xr 8 0, xi a, xi 0] [] (xu V 8 0 3 0) := Xc_es [7] P_X5_takeLeastWay 1 _ V
set_option maxRecDepth 100000 in
theorem s_X5_takeLeastWay_7 (d : Nat) (V : XM) (l1 : Int) (l2 : Int) : Xf d 69 7 [xr 8 0, xi l1, xi l2] [] V =
    if l2 < (V 4 0 7) then
    if (V 8 0 3) < 7 then
      ci (Yf d 25 [xr 7 0, xi l2] V) (fun x2 V1 =>
        if x2 = 0 then
          Xf d 69 7 [xr 8 0, xi l1, xi (w32 (l2 + 1))] [] V1
        else
          if 0 ≤ V1 8 0 3 ∧ V1 8 0 3 < 7 then
            Xf d 69 7 [xr 8 0, xi l1, xi (w32 (l2 + 1))] [] (xu (xu V1 8 0 3 (w32 ((V1 8 0 3) + 1))) 50 0 ((V1 8 0 3).toNat) l2)
          else
            none)
    else
      ci (Yf d 70 [xr 8 0, xi 0, xi l1] V) (fun x4 V3 =>
        if x4 = 0 ∨ x4 = 1 then
          some (xi x4, V3)
        else
          none)
  else
    ci (Yf d 70 [xr 8 0, xi 0, xi l1] V) (fun x6 V5 =>
      if x6 = 0 ∨ x6 = 1 then
        some (xi x6, V5)
      else
        none) := Xx_es [7] P_X5_takeLeastWay 2 _ _ _ V
set_option maxRecDepth 100000 in
theorem s_X5_layFrom (d : Nat) (V : XM) (a : Int) (b : Int) : Yf (d + 1) 70 [xr 8 0, xi a, xi b] V =
    if a < (V 8 0 3) then
    if 0 ≤ a ∧ a < 7 then
      cl (Yf d 24 [xr 7 0, xi (V 50 0 (a.toNat))] V) (fun x2 V1 =>
        Xf d 70 30 [xr 8 0, xi a, xi b, xi (V 50 0 (a.toNat)), xl x2, xr 0 0, xi 0] [] V1)
    else
      none
  else
    some (xi 1, V) := Xc_es [30] P_X5_layFrom 2 _ V
set_option maxRecDepth 100000 in
theorem s_X5_layFrom_30 (d : Nat) (V : XM) (l1 : Int) (l2 : Int) (l3 : Int) (l4 : Int) (l6 : Int) : Xf d 70 30 [xr 8 0, xi l1, xi l2, xi l3, xl l4, xr 0 0, xi l6] [] V =
    if l6 < (V 4 0 7) then
    cl (Yf d 186 [xi l6] V) (fun x2 V1 =>
      if (cmp3 (lAnd l4 x2) 0) = 0 then
        Xf d 70 30 [xr 8 0, xi l1, xi l2, xi l3, xl l4, xr 0 0, xi (w32 (l6 + 1))] [] V1
      else
        ci (Yf d 71 [xr 8 0, xi l3, xi l6] V1) (fun x4 V3 =>
          if x4 = 0 then
            Xf d 70 30 [xr 8 0, xi l1, xi l2, xi l3, xl l4, xr 0 0, xi (w32 (l6 + 1))] [] V3
          else
            cv (Yf d 13 [xr 7 0, xi l3, xi l6, xi (w32 (l2 + l1))] V3) (fun V5 =>
              ci (Yf d 70 [xr 8 0, xi (w32 (l1 + 1)), xi l2] V5) (fun x7 V6 =>
                if x7 = 0 then
                  cv (Yf d 14 [xr 7 0, xi l3] V6) (fun V8 =>
                    Xf d 70 30 [xr 8 0, xi l1, xi l2, xi l3, xl l4, xr 0 0, xi (w32 (l6 + 1))] [] V8)
                else
                  some (xi 1, V6)))))
  else
    some (xi 0, V) := Xx_es [30] P_X5_layFrom 3 _ _ _ V
set_option maxRecDepth 100000 in
theorem s_X5_lets (d : Nat) (V : XM) (a : Int) (b : Int) : Yf (d + 1) 71 [xr 8 0, xi a, xi b] V =
    ci (Yf d 12 [xr 7 0, xi b, xi a] V) (fun x2 V1 =>
    if x2 = 0 then
      ci (Yf d 16 [xr 7 0, xi b] V1) (fun x4 V3 =>
        if x4 = 0 then
          ci (Yf d 17 [xr 7 0, xi a, xi b] V3) (fun x6 V5 =>
            if x6 < 0 then
              some (xi 1, V5)
            else
              some (xi 0, V5))
        else
          some (xi 0, V3))
    else
      some (xi 0, V1)) := Xc_es [] P_X5_lets 3 _ V
set_option maxRecDepth 100000 in
theorem s_X6_begin (d : Nat) (V : XM) (t : Nat) (a : Int) (b : Int) : Yf (d + 1) 73 [xr 12 t, xi a, xi b] V =
    Xf d 73 12 [xr 12 t, xr 0 0, xr 0 0, xi 0] [] (xu (xu V 12 t 1 a) 12 t 2 b) := Xc_es [12] P_X6_begin 1 _ V
set_option maxRecDepth 100000 in
theorem s_X6_begin_12 (d : Nat) (V : XM) (p0 : Nat) (l3 : Int) : Xf d 73 12 [xr 12 p0, xr 0 0, xr 0 0, xi l3] [] V =
    if l3 < 16 then
    if 0 ≤ l3 ∧ l3 < 16 then
      Xf d 73 12 [xr 12 p0, xr 0 0, xr 0 0, xi (w32 (l3 + 1))] [] (xu V 62 p0 (l3.toNat) (-9))
    else
      none
  else
    some (xi 0, V) := Xx_es [12] P_X6_begin 2 _ _ _ V
set_option maxRecDepth 100000 in
theorem s_X6_spans (d : Nat) (V : XM) (t : Nat) (a : Int) (b : Int) : Yf (d + 1) 74 [xr 12 t, xi a, xi b] V =
    if a < 0 then
    some (xi 0, V)
  else
    if b < 0 then
      some (xi 0, V)
    else
      if (V 12 t 2) < a then
        some (xi 0, V)
      else
        if (w32 ((V 12 t 2) - a)) < b then
          some (xi 0, V)
        else
          some (xi 1, V) := Xc_es [] P_X6_spans 3 _ V
set_option maxRecDepth 100000 in
theorem s_X7_begin (d : Nat) (V : XM) (t : Nat) (a : Int) (b : Int) (c : Int) : Yf (d + 1) 76 [xr 13 t, xi a, xi b, xi c] V =
    Xf d 76 16 [xr 13 t, xr 0 0, xi b, xr 0 0, xi c, xi 0] [] (xu (xu V 13 t 4 a) 13 t 5 b) := Xc_es [16, 50] P_X7_begin 1 _ V
set_option maxRecDepth 100000 in
theorem s_X7_begin_16 (d : Nat) (V : XM) (p0 : Nat) (l2 : Int) (l4 : Int) (l5 : Int) : Xf d 76 16 [xr 13 p0, xr 0 0, xi l2, xr 0 0, xi l4, xi l5] [] V =
    if l5 < l2 then
    if 0 ≤ l5 ∧ l5 < 5 then
      Xf d 76 16 [xr 13 p0, xr 0 0, xi l2, xr 0 0, xi (w32 (Int.tdiv l4 10)), xi (w32 (l5 + 1))] [] (xu V 65 p0 (l5.toNat) (Int.tmod l4 10))
    else
      none
  else
    Xf d 76 50 [xr 13 p0, xr 0 0, xr 0 0, xr 0 0, xr 0 0, xi 0] [] V := Xx_es [16, 50] P_X7_begin 2 _ _ _ V
set_option maxRecDepth 100000 in
theorem s_X7_begin_50 (d : Nat) (V : XM) (p0 : Nat) (l5 : Int) : Xf d 76 50 [xr 13 p0, xr 0 0, xr 0 0, xr 0 0, xr 0 0, xi l5] [] V =
    if l5 < 80 then
    if 0 ≤ l5 ∧ l5 < 80 then
      Xf d 76 50 [xr 13 p0, xr 0 0, xr 0 0, xr 0 0, xr 0 0, xi (w32 (l5 + 1))] [] (xu V 64 p0 (l5.toNat) 0)
    else
      none
  else
    some (xi 0, V) := Xx_es [16, 50] P_X7_begin 2 _ _ _ V
set_option maxRecDepth 100000 in
theorem s_X7_hasCell (d : Nat) (V : XM) (t : Nat) (a : Int) (b : Int) : Yf (d + 1) 77 [xr 13 t, xi a, xi b] V =
    ci (Yf d 123 [xi a, xi (V 13 t 4)] V) (fun x2 V1 =>
    if x2 = 0 then
      some (xi 0, V1)
    else
      ci (Yf d 123 [xi b, xi (V1 13 t 5)] V1) (fun x4 V3 =>
        if x4 = 0 then
          some (xi 0, V3)
        else
          some (xi 1, V3))) := Xc_es [] P_X7_hasCell 3 _ V
set_option maxRecDepth 100000 in
theorem s_X7_isBlank (d : Nat) (V : XM) (t : Nat) (a : Int) (b : Int) : Yf (d + 1) 78 [xr 13 t, xi a, xi b] V =
    if 0 ≤ w32 ((w32 (a * 5)) + b) ∧ w32 ((w32 (a * 5)) + b) < 80 then
    if (V 64 t ((w32 ((w32 (a * 5)) + b)).toNat)) = 0 then
      some (xi 1, V)
    else
      some (xi 0, V)
  else
    none := Xc_es [] P_X7_isBlank 3 _ V
set_option maxRecDepth 100000 in
theorem s_X7_told (d : Nat) (V : XM) (t : Nat) (a : Int) (b : Int) : Yf (d + 1) 79 [xr 13 t, xi a, xi b] V =
    if 0 ≤ w32 ((w32 (a * 5)) + b) ∧ w32 ((w32 (a * 5)) + b) < 80 then
    some (xl (V 63 t ((w32 ((w32 (a * 5)) + b)).toNat)), V)
  else
    none := Xc_es [] P_X7_told 1 _ V
set_option maxRecDepth 100000 in
theorem s_X7_write (d : Nat) (V : XM) (t : Nat) (a : Int) (b : Int) (c : Int) : Yf (d + 1) 80 [xr 13 t, xi a, xi b, xl c] V =
    if 0 ≤ b ∧ b < 5 then
    cl (Yf d 187 [xi (V 65 t (b.toNat)), xl c] V) (fun x2 V1 =>
      if 0 ≤ w32 ((w32 (a * 5)) + b) ∧ w32 ((w32 (a * 5)) + b) < 80 then
        if 0 ≤ w32 ((w32 (a * 5)) + b) ∧ w32 ((w32 (a * 5)) + b) < 80 then
          some (xi 0, (xu (xu V1 63 t ((w32 ((w32 (a * 5)) + b)).toNat) x2) 64 t ((w32 ((w32 (a * 5)) + b)).toNat) 1))
        else
          none
      else
        none)
  else
    none := Xc_es [] P_X7_write 1 _ V
set_option maxRecDepth 100000 in
theorem s_X7_wipe (d : Nat) (V : XM) (t : Nat) (a : Int) (b : Int) : Yf (d + 1) 81 [xr 13 t, xi a, xi b] V =
    if 0 ≤ w32 ((w32 (a * 5)) + b) ∧ w32 ((w32 (a * 5)) + b) < 80 then
    if 0 ≤ w32 ((w32 (a * 5)) + b) ∧ w32 ((w32 (a * 5)) + b) < 80 then
      if (V 64 t ((w32 ((w32 (a * 5)) + b)).toNat)) = 0 ∨ (V 64 t ((w32 ((w32 (a * 5)) + b)).toNat)) = 1 then
        some (xi (V 64 t ((w32 ((w32 (a * 5)) + b)).toNat)), (xu V 64 t ((w32 ((w32 (a * 5)) + b)).toNat) 0))
      else
        none
    else
      none
  else
    none := Xc_es [] P_X7_wipe 1 _ V
set_option maxRecDepth 100000 in
theorem s_X7_rowWith (d : Nat) (V : XM) (t : Nat) (a : Int) (b : Int) (c : Int) : Yf (d + 1) 82 [xr 13 t, xi a, xl b, xi c] V =
    Xf d 82 4 [xr 13 t, xi a, xl b, xr 0 0, xr 0 0, xi c] [] V := Xc_es [4] P_X7_rowWith 1 _ V
set_option maxRecDepth 100000 in
theorem s_X7_rowWith_4 (d : Nat) (V : XM) (p0 : Nat) (l1 : Int) (l2 : Int) (l5 : Int) : Xf d 82 4 [xr 13 p0, xi l1, xl l2, xr 0 0, xr 0 0, xi l5] [] V =
    if l5 < (V 13 p0 4) then
    ci (Yf d 78 [xr 13 p0, xi l5, xi l1] V) (fun x2 V1 =>
      if x2 = 0 then
        cl (Yf d 79 [xr 13 p0, xi l5, xi l1] V1) (fun x4 V3 =>
          if (cmp3 x4 l2) = 0 then
            some (xi l5, V3)
          else
            Xf d 82 4 [xr 13 p0, xi l1, xl l2, xr 0 0, xr 0 0, xi (w32 (l5 + 1))] [] V3)
      else
        Xf d 82 4 [xr 13 p0, xi l1, xl l2, xr 0 0, xr 0 0, xi (w32 (l5 + 1))] [] V1)
  else
    some (xi (-9), V) := Xx_es [4] P_X7_rowWith 2 _ _ _ V
set_option maxRecDepth 100000 in
theorem s_X7_order (d : Nat) (V : XM) (t : Nat) (a : Int) (b : Int) : Yf (d + 1) 83 [xr 13 t, xi a, xi b] V =
    Xf d 83 2 [xr 13 t, xi a, xi b, xi 0, xr 0 0] [] V := Xc_es [2, 25, 36, 83] P_X7_order 1 _ V
set_option maxRecDepth 100000 in
theorem s_X7_order_2 (d : Nat) (V : XM) (p0 : Nat) (l1 : Int) (l2 : Int) (l3 : Int) : Xf d 83 2 [xr 13 p0, xi l1, xi l2, xi l3, xr 0 0] [] V =
    if l3 < (V 13 p0 4) then
    if 0 ≤ l3 ∧ l3 < 16 then
      Xf d 83 2 [xr 13 p0, xi l1, xi l2, xi (w32 (l3 + 1)), xr 0 0] [] (xu V 66 p0 (l3.toNat) l3)
    else
      none
  else
    Xf d 83 25 [xr 13 p0, xi l1, xi l2, xi 1, xr 0 0] [] V := Xx_es [2, 25, 36, 83] P_X7_order 2 _ _ _ V
set_option maxRecDepth 100000 in
theorem s_X7_order_25 (d : Nat) (V : XM) (p0 : Nat) (l1 : Int) (l2 : Int) (l3 : Int) : Xf d 83 25 [xr 13 p0, xi l1, xi l2, xi l3, xr 0 0] [] V =
    if l3 < (V 13 p0 4) then
    Xf d 83 36 [xr 13 p0, xi l1, xi l2, xi l3, xi l3] [] V
  else
    Xf d 83 83 [xr 13 p0, xr 0 0, xr 0 0, xi 0, xi 0] [] V := Xx_es [2, 25, 36, 83] P_X7_order 2 _ _ _ V
set_option maxRecDepth 100000 in
theorem s_X7_order_83 (d : Nat) (V : XM) (p0 : Nat) (l3 : Int) (l4 : Int) : Xf d 83 83 [xr 13 p0, xr 0 0, xr 0 0, xi l3, xi l4] [] V =
    if l4 < (V 13 p0 4) then
    if 0 ≤ l4 ∧ l4 < 16 then
      if (V 66 p0 (l4.toNat)) = l4 then
        Xf d 83 83 [xr 13 p0, xr 0 0, xr 0 0, xi l3, xi (w32 (l4 + 1))] [] V
      else
        Xf d 83 83 [xr 13 p0, xr 0 0, xr 0 0, xi (w32 (l3 + 1)), xi (w32 (l4 + 1))] [] V
    else
      none
  else
    some (xi l3, V) := Xx_es [2, 25, 36, 83] P_X7_order 2 _ _ _ V
set_option maxRecDepth 100000 in
theorem s_X7_order_36 (d : Nat) (V : XM) (p0 : Nat) (l1 : Int) (l2 : Int) (l3 : Int) (l4 : Int) : Xf d 83 36 [xr 13 p0, xi l1, xi l2, xi l3, xi l4] [] V =
    if 0 < l4 then
    ci (Yf d 84 [xr 13 p0, xi l4, xi (w32 (l4 - 1)), xi l1, xi l2] V) (fun x2 V1 =>
      if x2 = 0 then
        Xf d 83 25 [xr 13 p0, xi l1, xi l2, xi (w32 (l3 + 1)), xr 0 0] [] V1
      else
        cv (Yf d 85 [xr 13 p0, xi l4, xi (w32 (l4 - 1))] V1) (fun V3 =>
          Xf d 83 36 [xr 13 p0, xi l1, xi l2, xi l3, xi (w32 (l4 + (-1)))] [] V3))
  else
    Xf d 83 25 [xr 13 p0, xi l1, xi l2, xi (w32 (l3 + 1)), xr 0 0] [] V := Xx_es [2, 25, 36, 83] P_X7_order 2 _ _ _ V
set_option maxRecDepth 100000 in
theorem s_X7_isAhead (d : Nat) (V : XM) (t : Nat) (a : Int) (b : Int) (c : Int) (e : Int) : Yf (d + 1) 84 [xr 13 t, xi a, xi b, xi c, xi e] V =
    ci (Yf d 78 [xr 13 t, xi a, xi c] V) (fun x2 V1 =>
    if x2 = 0 then
      ci (Yf d 78 [xr 13 t, xi b, xi c] V1) (fun x4 V3 =>
        if x4 = 0 then
          if e = 0 then
            cl (Yf d 79 [xr 13 t, xi a, xi c] V3) (fun x6 V5 =>
              cl (Yf d 79 [xr 13 t, xi b, xi c] V5) (fun x8 V7 =>
                if (cmp3 x6 x8) < 0 then
                  some (xi 1, V7)
                else
                  some (xi 0, V7)))
          else
            cl (Yf d 79 [xr 13 t, xi a, xi c] V3) (fun x10 V9 =>
              cl (Yf d 79 [xr 13 t, xi b, xi c] V9) (fun x12 V11 =>
                if 0 < (cmp3 x10 x12) then
                  some (xi 1, V11)
                else
                  some (xi 0, V11)))
        else
          some (xi 1, V3))
    else
      some (xi 0, V1)) := Xc_es [] P_X7_isAhead 6 _ V
set_option maxRecDepth 100000 in
theorem s_X7_swap (d : Nat) (V : XM) (t : Nat) (a : Int) (b : Int) : Yf (d + 1) 85 [xr 13 t, xi a, xi b] V =
    if 0 ≤ a ∧ a < 16 then
    if 0 ≤ b ∧ b < 16 then
      if 0 ≤ a ∧ a < 16 then
        if 0 ≤ b ∧ b < 16 then
          Xf d 85 29 [xr 13 t, xi a, xi b, xr 0 0, xi 0, xr 0 0, xr 0 0, xr 0 0, xr 0 0, xr 0 0] [] (xu (xu V 66 t (a.toNat) (V 66 t (b.toNat))) 66 t (b.toNat) (V 66 t (a.toNat)))
        else
          none
      else
        none
    else
      none
  else
    none := Xc_es [29] P_X7_swap 1 _ V
set_option maxRecDepth 100000 in
theorem s_X7_swap_29 (d : Nat) (V : XM) (p0 : Nat) (l1 : Int) (l2 : Int) (l4 : Int) : Xf d 85 29 [xr 13 p0, xi l1, xi l2, xr 0 0, xi l4, xr 0 0, xr 0 0, xr 0 0, xr 0 0, xr 0 0] [] V =
    if l4 < (V 13 p0 5) then
    if 0 ≤ w32 ((w32 (l1 * 5)) + l4) ∧ w32 ((w32 (l1 * 5)) + l4) < 80 then
      if 0 ≤ w32 ((w32 (l1 * 5)) + l4) ∧ w32 ((w32 (l1 * 5)) + l4) < 80 then
        if 0 ≤ w32 ((w32 (l2 * 5)) + l4) ∧ w32 ((w32 (l2 * 5)) + l4) < 80 then
          if 0 ≤ w32 ((w32 (l1 * 5)) + l4) ∧ w32 ((w32 (l1 * 5)) + l4) < 80 then
            if 0 ≤ w32 ((w32 (l2 * 5)) + l4) ∧ w32 ((w32 (l2 * 5)) + l4) < 80 then
              if 0 ≤ w32 ((w32 (l1 * 5)) + l4) ∧ w32 ((w32 (l1 * 5)) + l4) < 80 then
                if 0 ≤ w32 ((w32 (l2 * 5)) + l4) ∧ w32 ((w32 (l2 * 5)) + l4) < 80 then
                  if 0 ≤ w32 ((w32 (l2 * 5)) + l4) ∧ w32 ((w32 (l2 * 5)) + l4) < 80 then
                    Xf d 85 29 [xr 13 p0, xi l1, xi l2, xr 0 0, xi (w32 (l4 + 1)), xr 0 0, xr 0 0, xr 0 0, xr 0 0, xr 0 0] [] (xu (xu (xu (xu V 63 p0 ((w32 ((w32 (l1 * 5)) + l4)).toNat) (V 63 p0 ((w32 ((w32 (l2 * 5)) + l4)).toNat))) 64 p0 ((w32 ((w32 (l1 * 5)) + l4)).toNat) ((V 64 p0 ((w32 ((w32 (l2 * 5)) + l4)).toNat)) % 2)) 63 p0 ((w32 ((w32 (l2 * 5)) + l4)).toNat) (V 63 p0 ((w32 ((w32 (l1 * 5)) + l4)).toNat))) 64 p0 ((w32 ((w32 (l2 * 5)) + l4)).toNat) ((V 64 p0 ((w32 ((w32 (l1 * 5)) + l4)).toNat)) % 2))
                  else
                    none
                else
                  none
              else
                none
            else
              none
          else
            none
        else
          none
      else
        none
    else
      none
  else
    some (xi 0, V) := Xx_es [29] P_X7_swap 2 _ _ _ V
set_option maxRecDepth 100000 in
theorem s_X7_sum (d : Nat) (V : XM) (t : Nat) (a : Int) : Yf (d + 1) 86 [xr 13 t, xi a] V =
    Xf d 86 5 [xr 13 t, xi a, xl 0, xr 0 0, xi 0] [] V := Xc_es [5] P_X7_sum 1 _ V
set_option maxRecDepth 100000 in
theorem s_X7_sum_5 (d : Nat) (V : XM) (p0 : Nat) (l1 : Int) (l2 : Int) (l4 : Int) : Xf d 86 5 [xr 13 p0, xi l1, xl l2, xr 0 0, xi l4] [] V =
    if l4 < (V 13 p0 4) then
    ci (Yf d 78 [xr 13 p0, xi l4, xi l1] V) (fun x2 V1 =>
      if x2 = 0 then
        cl (Yf d 79 [xr 13 p0, xi l4, xi l1] V1) (fun x4 V3 =>
          Xf d 86 5 [xr 13 p0, xi l1, xl (w64 (l2 + x4)), xr 0 0, xi (w32 (l4 + 1))] [] V3)
      else
        Xf d 86 5 [xr 13 p0, xi l1, xl l2, xr 0 0, xi (w32 (l4 + 1))] [] V1)
  else
    some (xl l2, V) := Xx_es [5] P_X7_sum 2 _ _ _ V
set_option maxRecDepth 100000 in
theorem s_X7_filledIn (d : Nat) (V : XM) (t : Nat) (a : Int) : Yf (d + 1) 87 [xr 13 t, xi a] V =
    Xf d 87 4 [xr 13 t, xi a, xi 0, xi 0] [] V := Xc_es [4] P_X7_filledIn 1 _ V
set_option maxRecDepth 100000 in
theorem s_X7_filledIn_4 (d : Nat) (V : XM) (p0 : Nat) (l1 : Int) (l2 : Int) (l3 : Int) : Xf d 87 4 [xr 13 p0, xi l1, xi l2, xi l3] [] V =
    if l3 < (V 13 p0 4) then
    ci (Yf d 78 [xr 13 p0, xi l3, xi l1] V) (fun x2 V1 =>
      if x2 = 0 then
        Xf d 87 4 [xr 13 p0, xi l1, xi (w32 (l2 + 1)), xi (w32 (l3 + 1))] [] V1
      else
        Xf d 87 4 [xr 13 p0, xi l1, xi l2, xi (w32 (l3 + 1))] [] V1)
  else
    some (xi l2, V) := Xx_es [4] P_X7_filledIn 2 _ _ _ V
set_option maxRecDepth 100000 in
theorem s_X8_add (d : Nat) (V : XM) (a : Int) (b : Int) : Yf (d + 1) 89 [xr 4 0, xi a, xi b] V =
    if 0 ≤ V 4 0 7 ∧ V 4 0 7 < 64 then
    ci (Yf d 5 [xr 3 0, xi a] (xu V 20 0 ((V 4 0 7).toNat) a)) (fun x2 V1 =>
      if 0 ≤ V 4 0 7 ∧ V 4 0 7 < 64 then
        if 0 ≤ V1 4 0 7 ∧ V1 4 0 7 < 64 then
          if 0 ≤ V1 4 0 7 ∧ V1 4 0 7 < 64 then
            if 0 ≤ V1 4 0 7 ∧ V1 4 0 7 < 64 then
              if 0 ≤ V1 4 0 7 ∧ V1 4 0 7 < 64 then
                some (xi (V1 4 0 7), (xu (xu (xu (xu (xu (xu V1 21 0 ((V 4 0 7).toNat) x2) 22 0 ((V1 4 0 7).toNat) b) 23 0 ((V1 4 0 7).toNat) b) 24 0 ((V1 4 0 7).toNat) b) 25 0 ((V1 4 0 7).toNat) 0) 4 0 7 (w32 ((V1 4 0 7) + 1))))
              else
                none
            else
              none
          else
            none
        else
          none
      else
        none)
  else
    none := Xc_es [] P_X8_add 1 _ V
set_option maxRecDepth 100000 in
theorem s_X8_has (d : Nat) (V : XM) (a : Int) : Yf (d + 1) 90 [xr 4 0, xl a] V =
    if (cmp3 a 0) < 0 then
    some (xi 0, V)
  else
    if (cmp3 a (V 4 0 7)) < 0 then
      some (xi 1, V)
    else
      some (xi 0, V) := Xc_es [] P_X8_has 3 _ V
set_option maxRecDepth 100000 in
theorem s_X8_all (d : Nat) (V : XM) : Yf (d + 1) 91 [xr 4 0] V =
    if (V 4 0 7) < 64 then
    cl (Yf d 186 [xi (V 4 0 7)] V) (fun x2 V1 =>
      some (xl (w64 (x2 - 1)), V1))
  else
    some (xl (-1), V) := Xc_es [] P_X8_all 3 _ V
set_option maxRecDepth 100000 in
theorem s_X8_holders (d : Nat) (V : XM) : Yf (d + 1) 92 [xr 4 0] V =
    Xf d 92 4 [xr 4 0, xl 0, xr 0 0, xi 0] [] V := Xc_es [4] P_X8_holders 1 _ V
set_option maxRecDepth 100000 in
theorem s_X8_holders_4 (d : Nat) (V : XM) (l1 : Int) (l3 : Int) : Xf d 92 4 [xr 4 0, xl l1, xr 0 0, xi l3] [] V =
    if l3 < (V 4 0 7) then
    ci (Yf d 96 [xr 4 0, xi l3] V) (fun x2 V1 =>
      if x2 = 0 then
        Xf d 92 4 [xr 4 0, xl l1, xr 0 0, xi (w32 (l3 + 1))] [] V1
      else
        cl (Yf d 186 [xi l3] V1) (fun x4 V3 =>
          Xf d 92 4 [xr 4 0, xl (lOr l1 x4), xr 0 0, xi (w32 (l3 + 1))] [] V3))
  else
    some (xl l1, V) := Xx_es [4] P_X8_holders 2 _ _ _ V
set_option maxRecDepth 100000 in
theorem s_X8_isRoom (d : Nat) (V : XM) (a : Int) : Yf (d + 1) 93 [xr 4 0, xi a] V =
    ci (Yf d 90 [xr 4 0, xl a] V) (fun x2 V1 =>
    if x2 = 0 then
      some (xi 0, V1)
    else
      if 0 ≤ a ∧ a < 64 then
        if (V1 21 0 (a.toNat)) = 1 then
          some (xi 1, V1)
        else
          some (xi 0, V1)
      else
        none) := Xc_es [] P_X8_isRoom 3 _ V
set_option maxRecDepth 100000 in
theorem s_X8_haveRoom (d : Nat) (V : XM) : Yf (d + 1) 94 [xr 4 0] V =
    Xf d 94 2 [xr 4 0, xi 0] [] V := Xc_es [2] P_X8_haveRoom 1 _ V
set_option maxRecDepth 100000 in
theorem s_X8_haveRoom_2 (d : Nat) (V : XM) (l1 : Int) : Xf d 94 2 [xr 4 0, xi l1] [] V =
    if l1 < (V 4 0 7) then
    if 0 ≤ l1 ∧ l1 < 64 then
      if (V 21 0 (l1.toNat)) = 1 then
        some (xi 1, V)
      else
        Xf d 94 2 [xr 4 0, xi (w32 (l1 + 1))] [] V
    else
      none
  else
    some (xi 0, V) := Xx_es [2] P_X8_haveRoom 2 _ _ _ V
set_option maxRecDepth 100000 in
theorem s_X8_isCarrier (d : Nat) (V : XM) (a : Int) : Yf (d + 1) 95 [xr 4 0, xi a] V =
    if 0 ≤ a ∧ a < 64 then
    if (V 21 0 (a.toNat)) = 4 then
      some (xi 1, V)
    else
      if 0 ≤ a ∧ a < 64 then
        if (V 21 0 (a.toNat)) = 5 then
          some (xi 1, V)
        else
          some (xi 0, V)
      else
        none
  else
    none := Xc_es [] P_X8_isCarrier 3 _ V
set_option maxRecDepth 100000 in
theorem s_X8_isHolder (d : Nat) (V : XM) (a : Int) : Yf (d + 1) 96 [xr 4 0, xi a] V =
    if 0 ≤ a ∧ a < 64 then
    if (V 21 0 (a.toNat)) = 1 then
      some (xi 1, V)
    else
      ci (Yf d 95 [xr 4 0, xi a] V) (fun x2 V1 =>
        if x2 = 0 then
          some (xi 0, V1)
        else
          some (xi 1, V1))
  else
    none := Xc_es [] P_X8_isHolder 3 _ V
set_option maxRecDepth 100000 in
theorem s_X8_hasLid (d : Nat) (V : XM) (a : Int) : Yf (d + 1) 97 [xr 4 0, xi a] V =
    if 0 ≤ a ∧ a < 64 then
    if (V 21 0 (a.toNat)) = 2 then
      some (xi 1, V)
    else
      ci (Yf d 95 [xr 4 0, xi a] V) (fun x2 V1 =>
        if x2 = 0 then
          some (xi 0, V1)
        else
          some (xi 1, V1))
  else
    none := Xc_es [] P_X8_hasLid 3 _ V
set_option maxRecDepth 100000 in
theorem s_X8_isFixed (d : Nat) (V : XM) (a : Int) : Yf (d + 1) 98 [xr 4 0, xi a] V =
    if 0 ≤ a ∧ a < 64 then
    if (V 21 0 (a.toNat)) = 1 then
      some (xi 1, V)
    else
      if 0 ≤ a ∧ a < 64 then
        if (V 21 0 (a.toNat)) = 2 then
          some (xi 1, V)
        else
          some (xi 0, V)
      else
        none
  else
    none := Xc_es [] P_X8_isFixed 3 _ V
set_option maxRecDepth 100000 in
theorem s_X8_liesInOne (d : Nat) (V : XM) (a : Int) : Yf (d + 1) 99 [xr 4 0, xi a] V =
    ci (Yf d 98 [xr 4 0, xi a] V) (fun x2 V1 =>
    if x2 = 0 then
      if 0 ≤ a ∧ a < 64 then
        if (V1 21 0 (a.toNat)) = 3 then
          some (xi 0, V1)
        else
          some (xi 1, V1)
      else
        none
    else
      some (xi 0, V1)) := Xc_es [] P_X8_liesInOne 3 _ V
set_option maxRecDepth 100000 in
theorem s_X8_mayLieIn (d : Nat) (V : XM) (a : Int) (b : Int) : Yf (d + 1) 100 [xr 4 0, xi a, xi b] V =
    ci (Yf d 98 [xr 4 0, xi a] V) (fun x2 V1 =>
    if x2 = 0 then
      if 0 ≤ a ∧ a < 64 then
        if (V1 21 0 (a.toNat)) = 3 then
          ci (Yf d 93 [xr 4 0, xi b] V1) (fun x4 V3 =>
            if x4 = 0 then
              some (xi 0, V3)
            else
              some (xi 1, V3))
        else
          ci (Yf d 96 [xr 4 0, xi b] V1) (fun x6 V5 =>
            if x6 = 0 then
              some (xi 0, V5)
            else
              some (xi 1, V5))
      else
        none
    else
      some (xi 0, V1)) := Xc_es [] P_X8_mayLieIn 4 _ V
set_option maxRecDepth 100000 in
theorem s_X8_worth (d : Nat) (V : XM) (a : Int) : Yf (d + 1) 101 [xr 4 0, xi a] V =
    if 0 ≤ a ∧ a < 64 then
    if 0 ≤ a ∧ a < 64 then
      if (V 21 0 (a.toNat)) = 1 then
        some (xi (w32 ((w32 ((w32 (3 * (V 22 0 (a.toNat)))) + 1)) + 1000)), V)
      else
        if (V 21 0 (a.toNat)) = 1 + 1 then
          some (xi (w32 ((w32 ((w32 (3 * (V 22 0 (a.toNat)))) + 1)) + 100)), V)
        else
          if (V 21 0 (a.toNat)) = 1 + 1 + 1 then
            some (xi (w32 (-(w32 ((w32 (3 * (V 22 0 (a.toNat)))) + 1)))), V)
          else
            if (V 21 0 (a.toNat)) = 1 + 1 + 1 + 1 then
              some (xi (w32 ((w32 (3 * (V 22 0 (a.toNat)))) + 1)), V)
            else
              if (V 21 0 (a.toNat)) = 1 + 1 + 1 + 1 + 1 then
                some (xi (w32 (2 * (w32 ((w32 (3 * (V 22 0 (a.toNat)))) + 1)))), V)
              else
                some (xi (w32 ((w32 (3 * (V 22 0 (a.toNat)))) + 1)), V)
    else
      none
  else
    none := Xc_es [] P_X8_worth 2 _ V
set_option maxRecDepth 100000 in
theorem s_X8_lid (d : Nat) (V : XM) (a : Int) : Yf (d + 1) 102 [xr 4 0, xi a] V =
    if 0 ≤ a ∧ a < 64 then
    if (V 21 0 (a.toNat)) = 2 then
      if 0 ≤ a ∧ a < 64 then
        if 0 ≤ a ∧ a < 64 then
          if (V 25 0 (a.toNat)) = 0 then
            some (xi (w32 ((w32 (10 * (V 24 0 (a.toNat)))) + 0)), V)
          else
            some (xi (w32 ((w32 (10 * (V 24 0 (a.toNat)))) + 1)), V)
        else
          none
      else
        none
    else
      if 0 ≤ a ∧ a < 64 then
        if 0 ≤ a ∧ a < 64 then
          if (V 25 0 (a.toNat)) = 0 then
            some (xi (w32 ((V 24 0 (a.toNat)) + 0)), V)
          else
            some (xi (w32 ((V 24 0 (a.toNat)) + 1000)), V)
        else
          none
      else
        none
  else
    none := Xc_es [] P_X8_lid 4 _ V
set_option maxRecDepth 100000 in
theorem s_X9_add (d : Nat) (V : XM) (a : Int) (b : Int) (c : Int) : Yf (d + 1) 104 [xr 5 0, xi a, xi b, xi c] V =
    if 0 ≤ V 5 0 9 ∧ V 5 0 9 < 12 then
    if 0 ≤ V 5 0 9 ∧ V 5 0 9 < 12 then
      if 0 ≤ V 5 0 9 ∧ V 5 0 9 < 12 then
        Xf d 104 33 [xr 5 0, xr 0 0, xr 0 0, xr 0 0, xi 0] [] (xu (xu (xu V 26 0 ((V 5 0 9).toNat) a) 27 0 ((V 5 0 9).toNat) b) 28 0 ((V 5 0 9).toNat) c)
      else
        none
    else
      none
  else
    none := Xc_es [33, 65] P_X9_add 1 _ V
set_option maxRecDepth 100000 in
theorem s_X9_add_33 (d : Nat) (V : XM) (l4 : Int) : Xf d 104 33 [xr 5 0, xr 0 0, xr 0 0, xr 0 0, xi l4] [] V =
    if l4 < 24 then
    if 0 ≤ w32 ((w32 ((V 5 0 9) * 24)) + l4) ∧ w32 ((w32 ((V 5 0 9) * 24)) + l4) < 288 then
      Xf d 104 33 [xr 5 0, xr 0 0, xr 0 0, xr 0 0, xi (w32 (l4 + 1))] [] (xu V 30 0 ((w32 ((w32 ((V 5 0 9) * 24)) + l4)).toNat) 0)
    else
      none
  else
    Xf d 104 65 [xr 5 0, xr 0 0, xr 0 0, xr 0 0, xi 0] [] V := Xx_es [33, 65] P_X9_add 2 _ _ _ V
set_option maxRecDepth 100000 in
theorem s_X9_add_65 (d : Nat) (V : XM) (l4 : Int) : Xf d 104 65 [xr 5 0, xr 0 0, xr 0 0, xr 0 0, xi l4] [] V =
    if l4 < 64 then
    cl (Yf d 106 [xr 5 0, xi (V 5 0 9)] V) (fun x2 V1 =>
      if 0 ≤ w32 ((w32 ((V 5 0 9) * 64)) + l4) ∧ w32 ((w32 ((V 5 0 9) * 64)) + l4) < 768 then
        if 0 ≤ w32 ((w32 ((V1 5 0 9) * 64)) + l4) ∧ w32 ((w32 ((V1 5 0 9) * 64)) + l4) < 768 then
          Xf d 104 65 [xr 5 0, xr 0 0, xr 0 0, xr 0 0, xi (w32 (l4 + 1))] [] (xu (xu V1 31 0 ((w32 ((w32 ((V 5 0 9) * 64)) + l4)).toNat) x2) 32 0 ((w32 ((w32 ((V1 5 0 9) * 64)) + l4)).toNat) (-9))
        else
          none
      else
        none)
  else
    some (xi (V 5 0 9), (xu V 5 0 9 (w32 ((V 5 0 9) + 1)))) := Xx_es [33, 65] P_X9_add 2 _ _ _ V
