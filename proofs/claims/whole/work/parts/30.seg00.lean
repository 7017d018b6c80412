set_option maxRecDepth 100000 in
theorem s_X0_begin (d : Nat) (V : XM) : Yf (d + 1) 1 [xr 3 0] V =
    ci (Yf d 2 [xr 3 0, xi (-9)] (xu V 3 0 1 0)) (fun x2 V1 =>
    Xf d 1 14 [xr 3 0, xi 1] [] V1) := Xc_es [14] P_X0_begin 1 _ V
set_option maxRecDepth 100000 in
theorem s_X0_begin_14 (d : Nat) (V : XM) (l1 : Int) : Xf d 1 14 [xr 3 0, xi l1] [] V =
    if 4 < l1 then
    ci (Yf d 2 [xr 3 0, xi 4] V) (fun x2 V1 =>
      some (xi 0, V1))
  else
    ci (Yf d 2 [xr 3 0, xi 0] V) (fun x4 V3 =>
      Xf d 1 14 [xr 3 0, xi (w32 (l1 + 1))] [] V3) := Xx_es [14] P_X0_begin 2 _ _ _ V
set_option maxRecDepth 100000 in
theorem s_X0_add (d : Nat) (V : XM) (a : Int) : Yf (d + 1) 2 [xr 3 0, xi a] V =
    if 0 ≤ V 3 0 1 ∧ V 3 0 1 < 24 then
    some (xi (V 3 0 1), (xu (xu V 19 0 ((V 3 0 1).toNat) a) 3 0 1 (w32 ((V 3 0 1) + 1))))
  else
    none := Xc_es [] P_X0_add 1 _ V
set_option maxRecDepth 100000 in
theorem s_X0_has (d : Nat) (V : XM) (a : Int) : Yf (d + 1) 3 [xr 3 0, xi a] V =
    ci (Yf d 123 [xi a, xi (V 3 0 1)] V) (fun x2 V1 =>
    if x2 = 0 ∨ x2 = 1 then
      some (xi x2, V1)
    else
      none) := Xc_es [] P_X0_has 1 _ V
set_option maxRecDepth 100000 in
theorem s_X0_fits (d : Nat) (V : XM) (a : Int) (b : Int) : Yf (d + 1) 4 [xr 3 0, xi a, xi b] V =
    Xf d 4 5 [xr 3 0, xr 0 0, xi b, xi a, xi 0] [] V := Xc_es [5] P_X0_fits 1 _ V
set_option maxRecDepth 100000 in
theorem s_X0_fits_5 (d : Nat) (V : XM) (l2 : Int) (l3 : Int) (l4 : Int) : Xf d 4 5 [xr 3 0, xr 0 0, xi l2, xi l3, xi l4] [] V =
    if l2 < l3 then
    if l4 < 24 then
      if 0 ≤ l3 ∧ l3 < 24 then
        Xf d 4 5 [xr 3 0, xr 0 0, xi l2, xi (V 19 0 (l3.toNat)), xi (w32 (l4 + 1))] [] V
      else
        none
    else
      if l3 = l2 then
        some (xi 1, V)
      else
        some (xi 0, V)
  else
    if l3 = l2 then
      some (xi 1, V)
    else
      some (xi 0, V) := Xx_es [5] P_X0_fits 4 _ _ _ V
set_option maxRecDepth 100000 in
theorem s_X0_baseOf (d : Nat) (V : XM) (a : Int) : Yf (d + 1) 5 [xr 3 0, xi a] V =
    Xf d 5 4 [xr 3 0, xr 0 0, xi a, xi 0] [] V := Xc_es [4] P_X0_baseOf 1 _ V
set_option maxRecDepth 100000 in
theorem s_X0_baseOf_4 (d : Nat) (V : XM) (l2 : Int) (l3 : Int) : Xf d 5 4 [xr 3 0, xr 0 0, xi l2, xi l3] [] V =
    if 5 < l2 then
    if l3 < 24 then
      if 0 ≤ l2 ∧ l2 < 24 then
        Xf d 5 4 [xr 3 0, xr 0 0, xi (V 19 0 (l2.toNat)), xi (w32 (l3 + 1))] [] V
      else
        none
    else
      some (xi l2, V)
  else
    some (xi l2, V) := Xx_es [4] P_X0_baseOf 2 _ _ _ V
set_option maxRecDepth 100000 in
theorem s_X1_begin (d : Nat) (V : XM) (a : Int) : Yf (d + 1) 7 [xr 7 0, xi a] V =
    if 0 ≤ a ∧ a < 64 then
    if 0 ≤ a ∧ a < 64 then
      if 0 ≤ a ∧ a < 64 then
        if 0 ≤ a ∧ a < 64 then
          if 0 ≤ a ∧ a < 64 then
            if 0 ≤ a ∧ a < 64 then
              if 0 ≤ a ∧ a < 64 then
                if 0 ≤ a ∧ a < 64 then
                  some (xi 0, (xu (xu (xu (xu (xu (xu (xu (xu V 38 0 (a.toNat) 0) 39 0 (a.toNat) (-9)) 40 0 (a.toNat) 0) 41 0 (a.toNat) 0) 42 0 (a.toNat) (-9)) 43 0 (a.toNat) 0) 44 0 (a.toNat) 0) 45 0 (a.toNat) (-9)))
                else
                  none
              else
                none
            else
              none
          else
            none
        else
          none
      else
        none
    else
      none
  else
    none := Xc_es [] P_X1_begin 1 _ V
set_option maxRecDepth 100000 in
theorem s_X1_homeAt (d : Nat) (V : XM) (a : Int) (b : Int) : Yf (d + 1) 8 [xr 7 0, xi a, xi b] V =
    if 0 ≤ a ∧ a < 64 then
    ci (Yf d 123 [xi b, xi (V 38 0 (a.toNat))] V) (fun x2 V1 =>
      if x2 = 0 then
        some (xi (-9), V1)
      else
        if 0 ≤ w32 ((w32 (a * 6)) + b) ∧ w32 ((w32 (a * 6)) + b) < 384 then
          some (xi (V1 37 0 ((w32 ((w32 (a * 6)) + b)).toNat)), V1)
        else
          none)
  else
    none := Xc_es [] P_X1_homeAt 3 _ V
set_option maxRecDepth 100000 in
theorem s_X1_isLaid (d : Nat) (V : XM) (a : Int) : Yf (d + 1) 9 [xr 7 0, xi a] V =
    if 0 ≤ a ∧ a < 64 then
    if 0 < (V 38 0 (a.toNat)) then
      some (xi 1, V)
    else
      some (xi 0, V)
  else
    none := Xc_es [] P_X1_isLaid 3 _ V
set_option maxRecDepth 100000 in
theorem s_X1_liesIn (d : Nat) (V : XM) (a : Int) (b : Int) : Yf (d + 1) 10 [xr 7 0, xi a, xi b] V =
    Xf d 10 2 [xr 7 0, xi a, xi b, xi 0] [] V := Xc_es [2] P_X1_liesIn 1 _ V
set_option maxRecDepth 100000 in
theorem s_X1_liesIn_2 (d : Nat) (V : XM) (l1 : Int) (l2 : Int) (l3 : Int) : Xf d 10 2 [xr 7 0, xi l1, xi l2, xi l3] [] V =
    if 0 ≤ l1 ∧ l1 < 64 then
    if l3 < (V 38 0 (l1.toNat)) then
      if 0 ≤ w32 ((w32 (l1 * 6)) + l3) ∧ w32 ((w32 (l1 * 6)) + l3) < 384 then
        if (V 37 0 ((w32 ((w32 (l1 * 6)) + l3)).toNat)) = l2 then
          some (xi 1, V)
        else
          Xf d 10 2 [xr 7 0, xi l1, xi l2, xi (w32 (l3 + 1))] [] V
      else
        none
    else
      some (xi 0, V)
  else
    none := Xx_es [2] P_X1_liesIn 2 _ _ _ V
set_option maxRecDepth 100000 in
theorem s_X1_hasAllHomes (d : Nat) (V : XM) (a : Int) : Yf (d + 1) 11 [xr 7 0, xi a] V =
    if 0 ≤ a ∧ a < 64 then
    if (V 21 0 (a.toNat)) = 3 then
      if 0 ≤ a ∧ a < 64 then
        if (V 38 0 (a.toNat)) < 6 then
          some (xi 0, V)
        else
          some (xi 1, V)
      else
        none
    else
      some (xi 0, V)
  else
    none := Xc_es [] P_X1_hasAllHomes 3 _ V
set_option maxRecDepth 100000 in
theorem s_X1_isWithin (d : Nat) (V : XM) (a : Int) (b : Int) : Yf (d + 1) 12 [xr 7 0, xi a, xi b] V =
    Xf d 12 5 [xr 7 0, xr 0 0, xi b, xi a, xi 0] [] V := Xc_es [5] P_X1_isWithin 1 _ V
set_option maxRecDepth 100000 in
theorem s_X1_isWithin_5 (d : Nat) (V : XM) (l2 : Int) (l3 : Int) (l4 : Int) : Xf d 12 5 [xr 7 0, xr 0 0, xi l2, xi l3, xi l4] [] V =
    if l3 < 0 then
    some (xi 0, V)
  else
    if l4 < 64 then
      if l3 = l2 then
        some (xi 1, V)
      else
        ci (Yf d 8 [xr 7 0, xi l3, xi 0] V) (fun x2 V1 =>
          Xf d 12 5 [xr 7 0, xr 0 0, xi l2, xi x2, xi (w32 (l4 + 1))] [] V1)
    else
      some (xi 0, V) := Xx_es [5] P_X1_isWithin 2 _ _ _ V
set_option maxRecDepth 100000 in
theorem s_X1_lay (d : Nat) (V : XM) (a : Int) (b : Int) (c : Int) : Yf (d + 1) 13 [xr 7 0, xi a, xi b, xi c] V =
    if 0 ≤ a ∧ a < 64 then
    if 0 ≤ w32 ((w32 (a * 6)) + (V 38 0 (a.toNat))) ∧ w32 ((w32 (a * 6)) + (V 38 0 (a.toNat))) < 384 then
      if 0 ≤ a ∧ a < 64 then
        if 0 ≤ a ∧ a < 64 then
          if 0 ≤ a ∧ a < 64 then
            if 0 ≤ a ∧ a < 64 then
              if (V 21 0 (a.toNat)) = 3 then
                some (xi 0, (xu (xu (xu V 37 0 ((w32 ((w32 (a * 6)) + (V 38 0 (a.toNat)))).toNat) b) 38 0 (a.toNat) (w32 ((V 38 0 (a.toNat)) + 1))) 39 0 (a.toNat) c))
              else
                if 0 ≤ b ∧ b < 64 then
                  if 0 ≤ b ∧ b < 64 then
                    some (xi 0, (xu (xu (xu (xu V 37 0 ((w32 ((w32 (a * 6)) + (V 38 0 (a.toNat)))).toNat) b) 38 0 (a.toNat) (w32 ((V 38 0 (a.toNat)) + 1))) 39 0 (a.toNat) c) 43 0 (b.toNat) (w32 ((V 43 0 (b.toNat)) + 1))))
                  else
                    none
                else
                  none
            else
              none
          else
            none
        else
          none
      else
        none
    else
      none
  else
    none := Xc_es [] P_X1_lay 2 _ V
set_option maxRecDepth 100000 in
theorem s_X1_lift (d : Nat) (V : XM) (a : Int) : Yf (d + 1) 14 [xr 7 0, xi a] V =
    if 0 ≤ w32 (a * 6) ∧ w32 (a * 6) < 384 then
    if 0 ≤ V 37 0 ((w32 (a * 6)).toNat) ∧ V 37 0 ((w32 (a * 6)).toNat) < 64 then
      if 0 ≤ V 37 0 ((w32 (a * 6)).toNat) ∧ V 37 0 ((w32 (a * 6)).toNat) < 64 then
        if 0 ≤ a ∧ a < 64 then
          if 0 ≤ a ∧ a < 64 then
            some (xi 0, (xu (xu (xu V 43 0 ((V 37 0 ((w32 (a * 6)).toNat)).toNat) (w32 ((V 43 0 ((V 37 0 ((w32 (a * 6)).toNat)).toNat)) - 1))) 38 0 (a.toNat) 0) 39 0 (a.toNat) (-9)))
          else
            none
        else
          none
      else
        none
    else
      none
  else
    none := Xc_es [] P_X1_lift 1 _ V
set_option maxRecDepth 100000 in
theorem s_X1_againstPut (d : Nat) (V : XM) (a : Int) (b : Int) : Yf (d + 1) 15 [xr 7 0, xi a, xi b] V =
    ci (Yf d 99 [xr 4 0, xi a] V) (fun x2 V1 =>
    if x2 = 0 then
      if 0 ≤ a ∧ a < 64 then
        cl (Yf d 186 [xi b] V1) (fun x4 V3 =>
          if (cmp3 (lAnd (V1 40 0 (a.toNat)) x4) 0) = 0 then
            if 0 ≤ a ∧ a < 64 then
              if (V3 42 0 (a.toNat)) < 0 then
                if x2 = 0 then
                  ci (Yf d 17 [xr 7 0, xi a, xi b] V3) (fun x6 V5 =>
                    some (xi x6, V5))
                else
                  ci (Yf d 16 [xr 7 0, xi b] V3) (fun x8 V7 =>
                    if x8 = 0 then
                      ci (Yf d 17 [xr 7 0, xi a, xi b] V7) (fun x10 V9 =>
                        some (xi x10, V9))
                    else
                      if 0 ≤ b ∧ b < 64 then
                        some (xi (V7 45 0 (b.toNat)), V7)
                      else
                        none)
              else
                if 0 ≤ a ∧ a < 64 then
                  cl (Yf d 186 [xi b] V3) (fun x12 V11 =>
                    if (cmp3 (lAnd (V3 41 0 (a.toNat)) x12) 0) = 0 then
                      if 0 ≤ a ∧ a < 64 then
                        some (xi (V11 42 0 (a.toNat)), V11)
                      else
                        none
                    else
                      if x2 = 0 then
                        ci (Yf d 17 [xr 7 0, xi a, xi b] V11) (fun x14 V13 =>
                          some (xi x14, V13))
                      else
                        ci (Yf d 16 [xr 7 0, xi b] V11) (fun x16 V15 =>
                          if x16 = 0 then
                            ci (Yf d 17 [xr 7 0, xi a, xi b] V15) (fun x18 V17 =>
                              some (xi x18, V17))
                          else
                            if 0 ≤ b ∧ b < 64 then
                              some (xi (V15 45 0 (b.toNat)), V15)
                            else
                              none))
                else
                  none
            else
              none
          else
            ci (Yf d 65 [xr 6 0, xi 1, xi a, xi b, xi (-9)] V3) (fun x20 V19 =>
              some (xi x20, V19)))
      else
        none
    else
      ci (Yf d 9 [xr 7 0, xi a] V1) (fun x22 V21 =>
        if x22 = 0 then
          if 0 ≤ a ∧ a < 64 then
            cl (Yf d 186 [xi b] V21) (fun x24 V23 =>
              if (cmp3 (lAnd (V21 40 0 (a.toNat)) x24) 0) = 0 then
                if 0 ≤ a ∧ a < 64 then
                  if (V23 42 0 (a.toNat)) < 0 then
                    if x2 = 0 then
                      ci (Yf d 17 [xr 7 0, xi a, xi b] V23) (fun x26 V25 =>
                        some (xi x26, V25))
                    else
                      ci (Yf d 16 [xr 7 0, xi b] V23) (fun x28 V27 =>
                        if x28 = 0 then
                          ci (Yf d 17 [xr 7 0, xi a, xi b] V27) (fun x30 V29 =>
                            some (xi x30, V29))
                        else
                          if 0 ≤ b ∧ b < 64 then
                            some (xi (V27 45 0 (b.toNat)), V27)
                          else
                            none)
                  else
                    if 0 ≤ a ∧ a < 64 then
                      cl (Yf d 186 [xi b] V23) (fun x32 V31 =>
                        if (cmp3 (lAnd (V23 41 0 (a.toNat)) x32) 0) = 0 then
                          if 0 ≤ a ∧ a < 64 then
                            some (xi (V31 42 0 (a.toNat)), V31)
                          else
                            none
                        else
                          if x2 = 0 then
                            ci (Yf d 17 [xr 7 0, xi a, xi b] V31) (fun x34 V33 =>
                              some (xi x34, V33))
                          else
                            ci (Yf d 16 [xr 7 0, xi b] V31) (fun x36 V35 =>
                              if x36 = 0 then
                                ci (Yf d 17 [xr 7 0, xi a, xi b] V35) (fun x38 V37 =>
                                  some (xi x38, V37))
                              else
                                if 0 ≤ b ∧ b < 64 then
                                  some (xi (V35 45 0 (b.toNat)), V35)
                                else
                                  none))
                    else
                      none
                else
                  none
              else
                ci (Yf d 65 [xr 6 0, xi 1, xi a, xi b, xi (-9)] V23) (fun x40 V39 =>
                  some (xi x40, V39)))
          else
            none
        else
          if 0 ≤ a ∧ a < 64 then
            some (xi (V21 39 0 (a.toNat)), V21)
          else
            none)) := Xc_es [] P_X1_againstPut 5 _ V
set_option maxRecDepth 100000 in
theorem s_X1_isCrowded (d : Nat) (V : XM) (a : Int) : Yf (d + 1) 16 [xr 7 0, xi a] V =
    ci (Yf d 29 [xr 7 0, xi a] V) (fun x2 V1 =>
    if x2 = 0 then
      some (xi 0, V1)
    else
      if 0 ≤ a ∧ a < 64 then
        if 0 ≤ a ∧ a < 64 then
          if (V1 43 0 (a.toNat)) < (V1 44 0 (a.toNat)) then
            some (xi 0, V1)
          else
            some (xi 1, V1)
        else
          none
      else
        none) := Xc_es [] P_X1_isCrowded 3 _ V
set_option maxRecDepth 100000 in
theorem s_X1_againstPairs (d : Nat) (V : XM) (a : Int) (b : Int) : Yf (d + 1) 17 [xr 7 0, xi a, xi b] V =
    Xf d 17 2 [xr 7 0, xi a, xi b, xi 0, xr 0 0] [] V := Xc_es [2] P_X1_againstPairs 1 _ V
set_option maxRecDepth 100000 in
theorem s_X1_againstPairs_2 (d : Nat) (V : XM) (l1 : Int) (l2 : Int) (l3 : Int) : Xf d 17 2 [xr 7 0, xi l1, xi l2, xi l3, xr 0 0] [] V =
    if l3 < (V 7 0 15) then
    ci (Yf d 18 [xr 7 0, xi l3, xi l1] V) (fun x2 V1 =>
      if x2 < 0 then
        Xf d 17 2 [xr 7 0, xi l1, xi l2, xi (w32 (l3 + 1)), xr 0 0] [] V1
      else
        ci (Yf d 9 [xr 7 0, xi x2] V1) (fun x4 V3 =>
          if x4 = 0 then
            Xf d 17 2 [xr 7 0, xi l1, xi l2, xi (w32 (l3 + 1)), xr 0 0] [] V3
          else
            ci (Yf d 8 [xr 7 0, xi x2, xi 0] V3) (fun x6 V5 =>
              if x6 = l2 then
                if 0 ≤ l3 ∧ l3 < 16 then
                  if 1 = (V5 48 0 (l3.toNat)) then
                    Xf d 17 2 [xr 7 0, xi l1, xi l2, xi (w32 (l3 + 1)), xr 0 0] [] V5
                  else
                    if 0 ≤ l3 ∧ l3 < 16 then
                      some (xi (V5 49 0 (l3.toNat)), V5)
                    else
                      none
                else
                  none
              else
                if 0 ≤ l3 ∧ l3 < 16 then
                  if 0 = (V5 48 0 (l3.toNat)) then
                    Xf d 17 2 [xr 7 0, xi l1, xi l2, xi (w32 (l3 + 1)), xr 0 0] [] V5
                  else
                    if 0 ≤ l3 ∧ l3 < 16 then
                      some (xi (V5 49 0 (l3.toNat)), V5)
                    else
                      none
                else
                  none)))
  else
    some (xi (-9), V) := Xx_es [2] P_X1_againstPairs 4 _ _ _ V
set_option maxRecDepth 100000 in
theorem s_X1_partner (d : Nat) (V : XM) (a : Int) (b : Int) : Yf (d + 1) 18 [xr 7 0, xi a, xi b] V =
    if 0 ≤ a ∧ a < 16 then
    if (V 46 0 (a.toNat)) = b then
      if 0 ≤ a ∧ a < 16 then
        some (xi (V 47 0 (a.toNat)), V)
      else
        none
    else
      if 0 ≤ a ∧ a < 16 then
        if (V 47 0 (a.toNat)) = b then
          if 0 ≤ a ∧ a < 16 then
            some (xi (V 46 0 (a.toNat)), V)
          else
            none
        else
          some (xi (-9), V)
      else
        none
  else
    none := Xc_es [] P_X1_partner 4 _ V
set_option maxRecDepth 100000 in
theorem s_X1_againstBar (d : Nat) (V : XM) (a : Int) (b : Int) : Yf (d + 1) 19 [xr 7 0, xi a, xi b] V =
    ci (Yf d 10 [xr 7 0, xi a, xi b] V) (fun x2 V1 =>
    if x2 = 0 then
      if 0 ≤ a ∧ a < 64 then
        if (V1 42 0 (a.toNat)) < 0 then
          some (xi (-9), V1)
        else
          if 0 ≤ a ∧ a < 64 then
            cl (Yf d 186 [xi b] V1) (fun x4 V3 =>
              if (cmp3 (lAnd (V1 41 0 (a.toNat)) (lXor x4 (-1))) 0) = 0 then
                if 0 ≤ a ∧ a < 64 then
                  some (xi (V3 42 0 (a.toNat)), V3)
                else
                  none
              else
                some (xi (-9), V3))
          else
            none
      else
        none
    else
      ci (Yf d 65 [xr 6 0, xi 0, xi a, xi b, xi (-9)] V1) (fun x6 V5 =>
        some (xi x6, V5))) := Xc_es [] P_X1_againstBar 4 _ V
set_option maxRecDepth 100000 in
theorem s_X1_shut (d : Nat) (V : XM) (a : Int) (b : Int) : Yf (d + 1) 20 [xr 7 0, xi a, xi b] V =
    if 0 ≤ a ∧ a < 64 then
    cl (Yf d 186 [xi b] V) (fun x2 V1 =>
      if 0 ≤ a ∧ a < 64 then
        if 0 ≤ a ∧ a < 64 then
          cl (Yf d 186 [xi b] (xu V1 40 0 (a.toNat) (lOr (V 40 0 (a.toNat)) x2))) (fun x4 V3 =>
            if 0 ≤ a ∧ a < 64 then
              some (xi 0, (xu V3 41 0 (a.toNat) (lAnd (V1 41 0 (a.toNat)) (lXor x4 (-1)))))
            else
              none)
        else
          none
      else
        none)
  else
    none := Xc_es [] P_X1_shut 1 _ V
set_option maxRecDepth 100000 in
theorem s_X1_againstAmong (d : Nat) (V : XM) (a : Int) (b : Int) : Yf (d + 1) 21 [xr 7 0, xi a, xl b] V =
    ci (Yf d 9 [xr 7 0, xi a] V) (fun x2 V1 =>
    if x2 = 0 then
      if 0 ≤ a ∧ a < 64 then
        if (V1 42 0 (a.toNat)) < 0 then
          if 0 ≤ a ∧ a < 64 then
            if (cmp3 (lAnd b (lXor (V1 40 0 (a.toNat)) (-1))) 0) = 0 then
              ci (Yf d 22 [xr 7 0, xi a, xl b] V1) (fun x4 V3 =>
                some (xi x4, V3))
            else
              some (xi (-9), V1)
          else
            none
        else
          if 0 ≤ a ∧ a < 64 then
            if (cmp3 (lAnd b (V1 41 0 (a.toNat))) 0) = 0 then
              if 0 ≤ a ∧ a < 64 then
                some (xi (V1 42 0 (a.toNat)), V1)
              else
                none
            else
              if 0 ≤ a ∧ a < 64 then
                if (cmp3 (lAnd b (lXor (V1 40 0 (a.toNat)) (-1))) 0) = 0 then
                  ci (Yf d 22 [xr 7 0, xi a, xl b] V1) (fun x6 V5 =>
                    some (xi x6, V5))
                else
                  some (xi (-9), V1)
              else
                none
          else
            none
      else
        none
    else
      ci (Yf d 8 [xr 7 0, xi a, xi 0] V1) (fun x8 V7 =>
        cl (Yf d 186 [xi x8] V7) (fun x10 V9 =>
          if (cmp3 (lAnd b x10) 0) = 0 then
            if 0 ≤ a ∧ a < 64 then
              some (xi (V9 39 0 (a.toNat)), V9)
            else
              none
          else
            if 0 ≤ a ∧ a < 64 then
              if (V9 42 0 (a.toNat)) < 0 then
                if 0 ≤ a ∧ a < 64 then
                  if (cmp3 (lAnd b (lXor (V9 40 0 (a.toNat)) (-1))) 0) = 0 then
                    ci (Yf d 22 [xr 7 0, xi a, xl b] V9) (fun x12 V11 =>
                      some (xi x12, V11))
                  else
                    some (xi (-9), V9)
                else
                  none
              else
                if 0 ≤ a ∧ a < 64 then
                  if (cmp3 (lAnd b (V9 41 0 (a.toNat))) 0) = 0 then
                    if 0 ≤ a ∧ a < 64 then
                      some (xi (V9 42 0 (a.toNat)), V9)
                    else
                      none
                  else
                    if 0 ≤ a ∧ a < 64 then
                      if (cmp3 (lAnd b (lXor (V9 40 0 (a.toNat)) (-1))) 0) = 0 then
                        ci (Yf d 22 [xr 7 0, xi a, xl b] V9) (fun x14 V13 =>
                          some (xi x14, V13))
                      else
                        some (xi (-9), V9)
                    else
                      none
                else
                  none
            else
              none))) := Xc_es [] P_X1_againstAmong 5 _ V
set_option maxRecDepth 100000 in
theorem s_X1_earliestBarInto (d : Nat) (V : XM) (a : Int) (b : Int) : Yf (d + 1) 22 [xr 7 0, xi a, xl b] V =
    Xf d 22 3 [xr 7 0, xi a, xl b, xr 0 0, xi 0] [] V := Xc_es [3] P_X1_earliestBarInto 1 _ V
set_option maxRecDepth 100000 in
theorem s_X1_earliestBarInto_3 (d : Nat) (V : XM) (l1 : Int) (l2 : Int) (l4 : Int) : Xf d 22 3 [xr 7 0, xi l1, xl l2, xr 0 0, xi l4] [] V =
    if l4 < (V 6 0 4) then
    if 0 ≤ l4 ∧ l4 < 300 then
      if (V 33 0 (l4.toNat)) = 1 then
        if 0 ≤ l4 ∧ l4 < 300 then
          if (V 34 0 (l4.toNat)) = l1 then
            if 0 ≤ l4 ∧ l4 < 300 then
              cl (Yf d 186 [xi (V 35 0 (l4.toNat))] V) (fun x2 V1 =>
                if (cmp3 (lAnd l2 x2) 0) = 0 then
                  Xf d 22 3 [xr 7 0, xi l1, xl l2, xr 0 0, xi (w32 (l4 + 1))] [] V1
                else
                  some (xi l4, V1))
            else
              none
          else
            Xf d 22 3 [xr 7 0, xi l1, xl l2, xr 0 0, xi (w32 (l4 + 1))] [] V
        else
          none
      else
        Xf d 22 3 [xr 7 0, xi l1, xl l2, xr 0 0, xi (w32 (l4 + 1))] [] V
    else
      none
  else
    some (xi (-9), V) := Xx_es [3] P_X1_earliestBarInto 2 _ _ _ V
set_option maxRecDepth 100000 in
theorem s_X1_narrow (d : Nat) (V : XM) (a : Int) (b : Int) (c : Int) : Yf (d + 1) 23 [xr 7 0, xi a, xl b, xi c] V =
    if 0 ≤ a ∧ a < 64 then
    if (V 42 0 (a.toNat)) < 0 then
      if 0 ≤ a ∧ a < 64 then
        if 0 ≤ a ∧ a < 64 then
          if 0 ≤ a ∧ a < 64 then
            some (xi 0, (xu (xu V 41 0 (a.toNat) (lAnd (lAnd b (-1)) (lXor (V 40 0 (a.toNat)) (-1)))) 42 0 (a.toNat) c))
          else
            none
        else
          none
      else
        none
    else
      if 0 ≤ a ∧ a < 64 then
        if 0 ≤ a ∧ a < 64 then
          if 0 ≤ a ∧ a < 64 then
            if 0 ≤ a ∧ a < 64 then
              some (xi 0, (xu (xu V 41 0 (a.toNat) (lAnd (lAnd b (V 41 0 (a.toNat))) (lXor (V 40 0 (a.toNat)) (-1)))) 42 0 (a.toNat) c))
            else
              none
          else
            none
        else
          none
      else
        none
  else
    none := Xc_es [] P_X1_narrow 3 _ V
set_option maxRecDepth 100000 in
theorem s_X1_setOf (d : Nat) (V : XM) (a : Int) : Yf (d + 1) 24 [xr 7 0, xi a] V =
    if 0 ≤ a ∧ a < 64 then
    some (xl (V 41 0 (a.toNat)), V)
  else
    none := Xc_es [] P_X1_setOf 1 _ V
set_option maxRecDepth 100000 in
theorem s_X1_isUnsettled (d : Nat) (V : XM) (a : Int) : Yf (d + 1) 25 [xr 7 0, xi a] V =
    if 0 ≤ a ∧ a < 64 then
    if (V 42 0 (a.toNat)) < 0 then
      some (xi 0, V)
    else
      ci (Yf d 9 [xr 7 0, xi a] V) (fun x2 V1 =>
        if x2 = 0 then
          some (xi 1, V1)
        else
          some (xi 0, V1))
  else
    none := Xc_es [] P_X1_isUnsettled 3 _ V
set_option maxRecDepth 100000 in
theorem s_X1_unsettled (d : Nat) (V : XM) : Yf (d + 1) 26 [xr 7 0] V =
    Xf d 26 4 [xr 7 0, xi 0, xi 0] [] V := Xc_es [4] P_X1_unsettled 1 _ V
set_option maxRecDepth 100000 in
theorem s_X1_unsettled_4 (d : Nat) (V : XM) (l1 : Int) (l2 : Int) : Xf d 26 4 [xr 7 0, xi l1, xi l2] [] V =
    if l2 < (V 4 0 7) then
    ci (Yf d 25 [xr 7 0, xi l2] V) (fun x2 V1 =>
      if x2 = 0 then
        Xf d 26 4 [xr 7 0, xi l1, xi (w32 (l2 + 1))] [] V1
      else
        Xf d 26 4 [xr 7 0, xi (w32 (l1 + 1)), xi (w32 (l2 + 1))] [] V1)
  else
    some (xi l1, V) := Xx_es [4] P_X1_unsettled 2 _ _ _ V
set_option maxRecDepth 100000 in
theorem s_X1_againstPairing (d : Nat) (V : XM) (a : Int) (b : Int) (c : Int) : Yf (d + 1) 27 [xr 7 0, xi a, xi b, xi c] V =
    Xf d 27 3 [xr 7 0, xi a, xi b, xi c, xi 0] [] V := Xc_es [3] P_X1_againstPairing 1 _ V
set_option maxRecDepth 100000 in
theorem s_X1_againstPairing_3 (d : Nat) (V : XM) (l1 : Int) (l2 : Int) (l3 : Int) (l4 : Int) : Xf d 27 3 [xr 7 0, xi l1, xi l2, xi l3, xi l4] [] V =
    if l4 < (V 7 0 15) then
    ci (Yf d 18 [xr 7 0, xi l4, xi l1] V) (fun x2 V1 =>
      if x2 = l2 then
        if 0 ≤ l4 ∧ l4 < 16 then
          if (V1 48 0 (l4.toNat)) = l3 then
            Xf d 27 3 [xr 7 0, xi l1, xi l2, xi l3, xi (w32 (l4 + 1))] [] V1
          else
            if 0 ≤ l4 ∧ l4 < 16 then
              some (xi (V1 49 0 (l4.toNat)), V1)
            else
              none
        else
          none
      else
        Xf d 27 3 [xr 7 0, xi l1, xi l2, xi l3, xi (w32 (l4 + 1))] [] V1)
  else
    ci (Yf d 9 [xr 7 0, xi l1] V) (fun x4 V3 =>
      if x4 = 0 then
        some (xi (-9), V3)
      else
        ci (Yf d 9 [xr 7 0, xi l2] V3) (fun x6 V5 =>
          if x6 = 0 then
            some (xi (-9), V5)
          else
            ci (Yf d 8 [xr 7 0, xi l1, xi 0] V5) (fun x8 V7 =>
              ci (Yf d 8 [xr 7 0, xi l2, xi 0] V7) (fun x10 V9 =>
                if x8 = x10 then
                  if 1 = l3 then
                    some (xi (-9), V9)
                  else
                    if 0 ≤ l1 ∧ l1 < 64 then
                      if 0 ≤ l2 ∧ l2 < 64 then
                        some (xi (if (V9 39 0 (l1.toNat)) < (V9 39 0 (l2.toNat)) then (V9 39 0 (l2.toNat)) else (V9 39 0 (l1.toNat))), V9)
                      else
                        none
                    else
                      none
                else
                  if 0 = l3 then
                    some (xi (-9), V9)
                  else
                    if 0 ≤ l1 ∧ l1 < 64 then
                      if 0 ≤ l2 ∧ l2 < 64 then
                        some (xi (if (V9 39 0 (l1.toNat)) < (V9 39 0 (l2.toNat)) then (V9 39 0 (l2.toNat)) else (V9 39 0 (l1.toNat))), V9)
                      else
                        none
                    else
                      none)))) := Xx_es [3] P_X1_againstPairing 5 _ _ _ V
set_option maxRecDepth 100000 in
theorem s_X1_addPair (d : Nat) (V : XM) (a : Int) (b : Int) (c : Int) (e : Int) : Yf (d + 1) 28 [xr 7 0, xi a, xi b, xi c, xi e] V =
    if 0 ≤ V 7 0 15 ∧ V 7 0 15 < 16 then
    if 0 ≤ V 7 0 15 ∧ V 7 0 15 < 16 then
      if 0 ≤ V 7 0 15 ∧ V 7 0 15 < 16 then
        if 0 ≤ V 7 0 15 ∧ V 7 0 15 < 16 then
          some (xi 0, (xu (xu (xu (xu (xu V 46 0 ((V 7 0 15).toNat) a) 47 0 ((V 7 0 15).toNat) b) 48 0 ((V 7 0 15).toNat) (c % 2)) 49 0 ((V 7 0 15).toNat) e) 7 0 15 (w32 ((V 7 0 15) + 1))))
        else
          none
      else
        none
    else
      none
  else
    none := Xc_es [] P_X1_addPair 1 _ V
set_option maxRecDepth 100000 in
theorem s_X1_hasMost (d : Nat) (V : XM) (a : Int) : Yf (d + 1) 29 [xr 7 0, xi a] V =
    if 0 ≤ a ∧ a < 64 then
    if (V 45 0 (a.toNat)) < 0 then
      some (xi 0, V)
    else
      some (xi 1, V)
  else
    none := Xc_es [] P_X1_hasMost 3 _ V
set_option maxRecDepth 100000 in
theorem s_X1_tellMost (d : Nat) (V : XM) (a : Int) (b : Int) (c : Int) : Yf (d + 1) 30 [xr 7 0, xi a, xi b, xi c] V =
    if 0 ≤ a ∧ a < 64 then
    if 0 ≤ a ∧ a < 64 then
      some (xi 0, (xu (xu V 44 0 (a.toNat) b) 45 0 (a.toNat) c))
    else
      none
  else
    none := Xc_es [] P_X1_tellMost 1 _ V
set_option maxRecDepth 100000 in
theorem s_X1_putBehind (d : Nat) (V : XM) (a : Int) (b : Int) : Yf (d + 1) 31 [xr 7 0, xi a, xi b] V =
    Xf d 31 5 [xr 7 0, xi a, xi b, xi 0, xi 0] [] V := Xc_es [5] P_X1_putBehind 1 _ V
set_option maxRecDepth 100000 in
theorem s_X1_putBehind_5 (d : Nat) (V : XM) (l1 : Int) (l2 : Int) (l3 : Int) (l4 : Int) : Xf d 31 5 [xr 7 0, xi l1, xi l2, xi l3, xi l4] [] V =
    if l4 < (V 6 0 4) then
    if 0 ≤ l4 ∧ l4 < 300 then
      if (V 33 0 (l4.toNat)) = 0 then
        if 0 ≤ l4 ∧ l4 < 300 then
          if (V 35 0 (l4.toNat)) = l1 then
            if 0 ≤ l4 ∧ l4 < 300 then
              if 0 ≤ V 34 0 (l4.toNat) ∧ V 34 0 (l4.toNat) < 64 then
                if (V 21 0 ((V 34 0 (l4.toNat)).toNat)) = 3 then
                  Xf d 31 5 [xr 7 0, xi l1, xi l2, xi l3, xi (w32 (l4 + 1))] [] V
                else
                  if l3 = l2 then
                    some (xi l4, V)
                  else
                    Xf d 31 5 [xr 7 0, xi l1, xi l2, xi (w32 (l3 + 1)), xi (w32 (l4 + 1))] [] V
              else
                none
            else
              none
          else
            Xf d 31 5 [xr 7 0, xi l1, xi l2, xi l3, xi (w32 (l4 + 1))] [] V
        else
          none
      else
        Xf d 31 5 [xr 7 0, xi l1, xi l2, xi l3, xi (w32 (l4 + 1))] [] V
    else
      none
  else
    some (xi (-9), V) := Xx_es [5] P_X1_putBehind 3 _ _ _ V
set_option maxRecDepth 100000 in
theorem s_X1_bulk (d : Nat) (V : XM) (a : Int) : Yf (d + 1) 32 [xr 7 0, xi a] V =
    if 0 ≤ a ∧ a < 64 then
    if (V 21 0 (a.toNat)) = 1 then
      ci (Yf d 34 [xr 7 0, xi a] V) (fun x2 V1 =>
        some (xi x2, V1))
    else
      if (V 21 0 (a.toNat)) = 1 + 1 then
        if 0 ≤ a ∧ a < 64 then
          some (xi (w32 (2 * (V 22 0 (a.toNat)))), V)
        else
          none
      else
        if (V 21 0 (a.toNat)) = 1 + 1 + 1 then
          some (xi 0, V)
        else
          if (V 21 0 (a.toNat)) = 1 + 1 + 1 + 1 then
            ci (Yf d 33 [xr 7 0, xi a] V) (fun x4 V3 =>
              ci (Yf d 34 [xr 7 0, xi a] V3) (fun x6 V5 =>
                some (xi (w32 (x4 + x6)), V5)))
          else
            if (V 21 0 (a.toNat)) = 1 + 1 + 1 + 1 + 1 then
              ci (Yf d 33 [xr 7 0, xi a] V) (fun x8 V7 =>
                ci (Yf d 34 [xr 7 0, xi a] V7) (fun x10 V9 =>
                  some (xi (w32 (x8 + x10)), V9)))
            else
              ci (Yf d 33 [xr 7 0, xi a] V) (fun x12 V11 =>
                some (xi x12, V11))
  else
    none := Xc_es [] P_X1_bulk 2 _ V
set_option maxRecDepth 100000 in
theorem s_X1_bulkAlone (d : Nat) (V : XM) (a : Int) : Yf (d + 1) 33 [xr 7 0, xi a] V =
    if 0 ≤ a ∧ a < 64 then
    if 0 ≤ a ∧ a < 64 then
      if (V 21 0 (a.toNat)) = 5 then
        some (xi (w32 ((V 22 0 (a.toNat)) + 10)), V)
      else
        some (xi (w32 ((V 22 0 (a.toNat)) + 0)), V)
    else
      none
  else
    none := Xc_es [] P_X1_bulkAlone 3 _ V
set_option maxRecDepth 100000 in
theorem s_X1_load (d : Nat) (V : XM) (a : Int) : Yf (d + 1) 34 [xr 7 0, xi a] V =
    Xf d 34 4 [xr 7 0, xi a, xi 0, xi 0] [] V := Xc_es [4] P_X1_load 1 _ V
set_option maxRecDepth 100000 in
theorem s_X1_load_4 (d : Nat) (V : XM) (l1 : Int) (l2 : Int) (l3 : Int) : Xf d 34 4 [xr 7 0, xi l1, xi l2, xi l3] [] V =
    if l3 < (V 4 0 7) then
    if 0 ≤ l3 ∧ l3 < 64 then
      if (V 21 0 (l3.toNat)) = 3 then
        Xf d 34 4 [xr 7 0, xi l1, xi l2, xi (w32 (l3 + 1))] [] V
      else
        ci (Yf d 9 [xr 7 0, xi l3] V) (fun x2 V1 =>
          if x2 = 0 then
            Xf d 34 4 [xr 7 0, xi l1, xi l2, xi (w32 (l3 + 1))] [] V1
          else
            ci (Yf d 8 [xr 7 0, xi l3, xi 0] V1) (fun x4 V3 =>
              ci (Yf d 12 [xr 7 0, xi x4, xi l1] V3) (fun x6 V5 =>
                if x6 = 0 then
                  Xf d 34 4 [xr 7 0, xi l1, xi l2, xi (w32 (l3 + 1))] [] V5
                else
                  ci (Yf d 33 [xr 7 0, xi l3] V5) (fun x8 V7 =>
                    Xf d 34 4 [xr 7 0, xi l1, xi (w32 (l2 + x8)), xi (w32 (l3 + 1))] [] V7))))
    else
      none
  else
    some (xi l2, V) := Xx_es [4] P_X1_load 2 _ _ _ V
set_option maxRecDepth 100000 in
theorem s_X2_add (d : Nat) (V : XM) (a : Int) : Yf (d + 1) 36 [xr 10 0, xi a] V =
    if 0 ≤ V 10 0 6 ∧ V 10 0 6 < 8 then
    Xf d 36 12 [xr 10 0, xi a, xi 0] [] (xu V 54 0 ((V 10 0 6).toNat) a)
  else
    none := Xc_es [12] P_X2_add 1 _ V
set_option maxRecDepth 100000 in
theorem s_X2_add_12 (d : Nat) (V : XM) (l1 : Int) (l2 : Int) : Xf d 36 12 [xr 10 0, xi l1, xi l2] [] V =
    if l2 < 64 then
    if l1 = 5 then
      cl (Yf d 186 [xi l2] V) (fun x2 V1 =>
        if 0 ≤ w32 ((w32 ((V 10 0 6) * 64)) + l2) ∧ w32 ((w32 ((V 10 0 6) * 64)) + l2) < 512 then
          Xf d 36 12 [xr 10 0, xi l1, xi (w32 (l2 + 1))] [] (xu V1 55 0 ((w32 ((w32 ((V 10 0 6) * 64)) + l2)).toNat) x2)
        else
          none)
    else
      if 0 ≤ w32 ((w32 ((V 10 0 6) * 64)) + l2) ∧ w32 ((w32 ((V 10 0 6) * 64)) + l2) < 512 then
        Xf d 36 12 [xr 10 0, xi l1, xi (w32 (l2 + 1))] [] (xu V 55 0 ((w32 ((w32 ((V 10 0 6) * 64)) + l2)).toNat) 0)
      else
        none
  else
    some (xi (V 10 0 6), (xu V 10 0 6 (w32 ((V 10 0 6) + 1)))) := Xx_es [12] P_X2_add 3 _ _ _ V
set_option maxRecDepth 100000 in
theorem s_X2_has (d : Nat) (V : XM) (a : Int) : Yf (d + 1) 37 [xr 10 0, xi a] V =
    ci (Yf d 123 [xi a, xi (V 10 0 6)] V) (fun x2 V1 =>
    if x2 = 0 ∨ x2 = 1 then
      some (xi x2, V1)
    else
      none) := Xc_es [] P_X2_has 1 _ V
set_option maxRecDepth 100000 in
theorem s_X2_rowOf (d : Nat) (V : XM) (a : Int) (b : Int) : Yf (d + 1) 38 [xr 10 0, xi a, xi b] V =
    if 0 ≤ w32 ((w32 (a * 64)) + b) ∧ w32 ((w32 (a * 64)) + b) < 512 then
    some (xl (V 55 0 ((w32 ((w32 (a * 64)) + b)).toNat)), V)
  else
    none := Xc_es [] P_X2_rowOf 1 _ V
set_option maxRecDepth 100000 in
theorem s_X2_holds (d : Nat) (V : XM) (a : Int) (b : Int) (c : Int) : Yf (d + 1) 39 [xr 10 0, xi a, xi b, xi c] V =
    cl (Yf d 38 [xr 10 0, xi a, xi b] V) (fun x2 V1 =>
    cl (Yf d 186 [xi c] V1) (fun x4 V3 =>
      if (cmp3 (lAnd x2 x4) 0) = 0 then
        some (xi 0, V3)
      else
        some (xi 1, V3))) := Xc_es [] P_X2_holds 3 _ V
set_option maxRecDepth 100000 in
theorem s_X2_join (d : Nat) (V : XM) (a : Int) (b : Int) (c : Int) : Yf (d + 1) 40 [xr 10 0, xi a, xi b, xi c] V =
    if 0 ≤ a ∧ a < 8 then
    if (V 54 0 (a.toNat)) = 5 then
      cv (Yf d 41 [xr 55 0, xi (w32 (a * 64)), xi b, xi c] V) (fun V1 =>
        some (xi 0, V1))
    else
      if 0 ≤ w32 ((w32 (a * 64)) + b) ∧ w32 ((w32 (a * 64)) + b) < 512 then
        cl (Yf d 186 [xi c] V) (fun x3 V2 =>
          if 0 ≤ w32 ((w32 (a * 64)) + b) ∧ w32 ((w32 (a * 64)) + b) < 512 then
            if 0 ≤ a ∧ a < 8 then
              if (V2 54 0 (a.toNat)) = 4 then
                if 0 ≤ w32 ((w32 (a * 64)) + c) ∧ w32 ((w32 (a * 64)) + c) < 512 then
                  cl (Yf d 186 [xi b] (xu V2 55 0 ((w32 ((w32 (a * 64)) + b)).toNat) (lOr (V 55 0 ((w32 ((w32 (a * 64)) + b)).toNat)) x3))) (fun x5 V4 =>
                    if 0 ≤ w32 ((w32 (a * 64)) + c) ∧ w32 ((w32 (a * 64)) + c) < 512 then
                      some (xi 0, (xu V4 55 0 ((w32 ((w32 (a * 64)) + c)).toNat) (lOr ((xu V2 55 0 ((w32 ((w32 (a * 64)) + b)).toNat) (lOr (V 55 0 ((w32 ((w32 (a * 64)) + b)).toNat)) x3)) 55 0 ((w32 ((w32 (a * 64)) + c)).toNat)) x5)))
                    else
                      none)
                else
                  none
              else
                some (xi 0, (xu V2 55 0 ((w32 ((w32 (a * 64)) + b)).toNat) (lOr (V 55 0 ((w32 ((w32 (a * 64)) + b)).toNat)) x3)))
            else
              none
          else
            none)
      else
        none
  else
    none := Xc_es [] P_X2_join 3 _ V
set_option maxRecDepth 100000 in
theorem s_X2_merge (d : Nat) (V : XM) (b : Int) (c : Int) (e : Int) : Yf (d + 1) 41 [xr 56 0, xi b, xi c, xi e] V =
    if 0 ≤ w32 (b + c) ∧ w32 (b + c) < 64 then
    if 0 ≤ w32 (b + e) ∧ w32 (b + e) < 64 then
      Xf d 41 16 [xr 56 0, xi b, xr 0 0, xr 0 0, xl (lOr (V 56 0 ((w32 (b + c)).toNat)) (V 56 0 ((w32 (b + e)).toNat))), xr 0 0, xi 0] [] V
    else
      none
  else
    none := Xc_es [16] P_X2_merge 1 _ V
set_option maxRecDepth 100000 in
theorem s_X2_merge_16 (d : Nat) (V : XM) (l1 : Int) (l4 : Int) (l6 : Int) : Xf d 41 16 [xr 56 0, xi l1, xr 0 0, xr 0 0, xl l4, xr 0 0, xi l6] [] V =
    if l6 < 64 then
    cl (Yf d 186 [xi l6] V) (fun x2 V1 =>
      if (cmp3 (lAnd l4 x2) 0) = 0 then
        Xf d 41 16 [xr 56 0, xi l1, xr 0 0, xr 0 0, xl l4, xr 0 0, xi (w32 (l6 + 1))] [] V1
      else
        if 0 ≤ w32 (l1 + l6) ∧ w32 (l1 + l6) < 64 then
          Xf d 41 16 [xr 56 0, xi l1, xr 0 0, xr 0 0, xl l4, xr 0 0, xi (w32 (l6 + 1))] [] (xu V1 56 0 ((w32 (l1 + l6)).toNat) l4)
        else
          none)
  else
    some (xi 0, V) := Xx_es [16] P_X2_merge 2 _ _ _ V
set_option maxRecDepth 100000 in
theorem s_X2_merge_r (d : Nat) (V : XM) (a : Int) (b : Int) (c : Int) : Yf (d + 1) 41 [xr 55 0, xi a, xi b, xi c] V =
    if 0 ≤ w32 (a + b) ∧ w32 (a + b) < 512 then
    if 0 ≤ w32 (a + c) ∧ w32 (a + c) < 512 then
      Xf d 41 16 [xr 55 0, xi a, xr 0 0, xr 0 0, xl (lOr (V 55 0 ((w32 (a + b)).toNat)) (V 55 0 ((w32 (a + c)).toNat))), xr 0 0, xi 0] [] V
    else
      none
  else
    none := Xc_es [16] P_X2_merge 1 _ V
set_option maxRecDepth 100000 in
theorem s_X2_merge_16_r (d : Nat) (V : XM) (l1 : Int) (l4 : Int) (l6 : Int) : Xf d 41 16 [xr 55 0, xi l1, xr 0 0, xr 0 0, xl l4, xr 0 0, xi l6] [] V =
    if l6 < 64 then
    cl (Yf d 186 [xi l6] V) (fun x2 V1 =>
      if (cmp3 (lAnd l4 x2) 0) = 0 then
        Xf d 41 16 [xr 55 0, xi l1, xr 0 0, xr 0 0, xl l4, xr 0 0, xi (w32 (l6 + 1))] [] V1
      else
        if 0 ≤ w32 (l1 + l6) ∧ w32 (l1 + l6) < 512 then
          Xf d 41 16 [xr 55 0, xi l1, xr 0 0, xr 0 0, xl l4, xr 0 0, xi (w32 (l6 + 1))] [] (xu V1 55 0 ((w32 (l1 + l6)).toNat) l4)
        else
          none)
  else
    some (xi 0, V) := Xx_es [16] P_X2_merge 2 _ _ _ V
set_option maxRecDepth 100000 in
theorem s_X2_againstRelate (d : Nat) (V : XM) (a : Int) (b : Int) (c : Int) : Yf (d + 1) 42 [xr 10 0, xi a, xi b, xi c] V =
    if 0 ≤ a ∧ a < 8 then
    ci (Yf d 43 [xr 10 0, xi a, xi b, xi c] V) (fun x2 V1 =>
      if x2 < 0 then
        if (V 54 0 (a.toNat)) = 0 then
          ci (Yf d 44 [xr 10 0, xi a, xi b, xi (-9)] V1) (fun x4 V3 =>
            if x4 < 0 then
              if (V 54 0 (a.toNat)) = 0 then
                ci (Yf d 44 [xr 10 0, xi a, xi (-9), xi c] V3) (fun x6 V5 =>
                  some (xi x6, V5))
              else
                if (V 54 0 (a.toNat)) = 1 then
                  ci (Yf d 44 [xr 10 0, xi a, xi (-9), xi c] V3) (fun x8 V7 =>
                    some (xi x8, V7))
                else
                  some (xi (-9), V3)
            else
              some (xi x4, V3))
        else
          if (V 54 0 (a.toNat)) = 2 then
            ci (Yf d 44 [xr 10 0, xi a, xi b, xi (-9)] V1) (fun x10 V9 =>
              if x10 < 0 then
                if (V 54 0 (a.toNat)) = 0 then
                  ci (Yf d 44 [xr 10 0, xi a, xi (-9), xi c] V9) (fun x12 V11 =>
                    some (xi x12, V11))
                else
                  if (V 54 0 (a.toNat)) = 1 then
                    ci (Yf d 44 [xr 10 0, xi a, xi (-9), xi c] V9) (fun x14 V13 =>
                      some (xi x14, V13))
                  else
                    some (xi (-9), V9)
              else
                some (xi x10, V9))
          else
            if (V 54 0 (a.toNat)) = 0 then
              ci (Yf d 44 [xr 10 0, xi a, xi (-9), xi c] V1) (fun x16 V15 =>
                some (xi x16, V15))
            else
              if (V 54 0 (a.toNat)) = 1 then
                ci (Yf d 44 [xr 10 0, xi a, xi (-9), xi c] V1) (fun x18 V17 =>
                  some (xi x18, V17))
              else
                some (xi (-9), V1)
      else
        some (xi x2, V1))
  else
    none := Xc_es [] P_X2_againstRelate 6 _ V
set_option maxRecDepth 100000 in
theorem s_X2_earliestDeny (d : Nat) (V : XM) (a : Int) (b : Int) (c : Int) : Yf (d + 1) 43 [xr 10 0, xi a, xi b, xi c] V =
    cl (Yf d 186 [xi b] V) (fun x2 V1 =>
    cl (Yf d 186 [xi c] V1) (fun x4 V3 =>
      if 0 ≤ a ∧ a < 8 then
        if (V3 54 0 (a.toNat)) = 5 then
          cl (Yf d 38 [xr 10 0, xi a, xi b] V3) (fun x6 V5 =>
            cl (Yf d 38 [xr 10 0, xi a, xi c] V5) (fun x8 V7 =>
              if 0 ≤ a ∧ a < 8 then
                if (V7 54 0 (a.toNat)) = 5 then
                  Xf d 43 68 [xr 10 0, xi a, xr 0 0, xr 0 0, xl x6, xr 0 0, xl x8, xr 0 0, xi 1, xi 0, xr 0 0, xr 0 0, xr 0 0, xr 0 0] [] V7
                else
                  if 0 ≤ a ∧ a < 8 then
                    if (V7 54 0 (a.toNat)) = 4 then
                      Xf d 43 68 [xr 10 0, xi a, xr 0 0, xr 0 0, xl x6, xr 0 0, xl x8, xr 0 0, xi 1, xi 0, xr 0 0, xr 0 0, xr 0 0, xr 0 0] [] V7
                    else
                      Xf d 43 68 [xr 10 0, xi a, xr 0 0, xr 0 0, xl x6, xr 0 0, xl x8, xr 0 0, xi 0, xi 0, xr 0 0, xr 0 0, xr 0 0, xr 0 0] [] V7
                  else
                    none
              else
                none))
        else
          if 0 ≤ a ∧ a < 8 then
            if (V3 54 0 (a.toNat)) = 5 then
              Xf d 43 68 [xr 10 0, xi a, xr 0 0, xr 0 0, xl x2, xr 0 0, xl x4, xr 0 0, xi 1, xi 0, xr 0 0, xr 0 0, xr 0 0, xr 0 0] [] V3
            else
              if 0 ≤ a ∧ a < 8 then
                if (V3 54 0 (a.toNat)) = 4 then
                  Xf d 43 68 [xr 10 0, xi a, xr 0 0, xr 0 0, xl x2, xr 0 0, xl x4, xr 0 0, xi 1, xi 0, xr 0 0, xr 0 0, xr 0 0, xr 0 0] [] V3
                else
                  Xf d 43 68 [xr 10 0, xi a, xr 0 0, xr 0 0, xl x2, xr 0 0, xl x4, xr 0 0, xi 0, xi 0, xr 0 0, xr 0 0, xr 0 0, xr 0 0] [] V3
              else
                none
          else
            none
      else
        none)) := Xc_es [68] P_X2_earliestDeny 4 _ V
set_option maxRecDepth 100000 in
theorem s_X2_earliestDeny_68 (d : Nat) (V : XM) (l1 : Int) (l4 : Int) (l6 : Int) (l8 : Int) (l9 : Int) : Xf d 43 68 [xr 10 0, xi l1, xr 0 0, xr 0 0, xl l4, xr 0 0, xl l6, xr 0 0, xi l8, xi l9, xr 0 0, xr 0 0, xr 0 0, xr 0 0] [] V =
    if l9 < (V 6 0 4) then
    if 0 ≤ l9 ∧ l9 < 300 then
      if (V 33 0 (l9.toNat)) = 7 then
        if 0 ≤ l9 ∧ l9 < 300 then
          if (V 34 0 (l9.toNat)) = l1 then
            if 0 ≤ l9 ∧ l9 < 300 then
              cl (Yf d 186 [xi (V 35 0 (l9.toNat))] V) (fun x2 V1 =>
                if 0 ≤ l9 ∧ l9 < 300 then
                  cl (Yf d 186 [xi (V1 36 0 (l9.toNat))] V1) (fun x4 V3 =>
                    if (cmp3 (lAnd x2 l4) 0) = 0 then
                      if l8 = 0 then
                        Xf d 43 68 [xr 10 0, xi l1, xr 0 0, xr 0 0, xl l4, xr 0 0, xl l6, xr 0 0, xi l8, xi (w32 (l9 + 1)), xr 0 0, xr 0 0, xr 0 0, xr 0 0] [] V3
                      else
                        if (cmp3 (lAnd x2 l6) 0) = 0 then
                          Xf d 43 68 [xr 10 0, xi l1, xr 0 0, xr 0 0, xl l4, xr 0 0, xl l6, xr 0 0, xi l8, xi (w32 (l9 + 1)), xr 0 0, xr 0 0, xr 0 0, xr 0 0] [] V3
                        else
                          if (cmp3 (lAnd x4 l4) 0) = 0 then
                            Xf d 43 68 [xr 10 0, xi l1, xr 0 0, xr 0 0, xl l4, xr 0 0, xl l6, xr 0 0, xi l8, xi (w32 (l9 + 1)), xr 0 0, xr 0 0, xr 0 0, xr 0 0] [] V3
                          else
                            some (xi l9, V3)
                    else
                      if (cmp3 (lAnd x4 l6) 0) = 0 then
                        if l8 = 0 then
                          Xf d 43 68 [xr 10 0, xi l1, xr 0 0, xr 0 0, xl l4, xr 0 0, xl l6, xr 0 0, xi l8, xi (w32 (l9 + 1)), xr 0 0, xr 0 0, xr 0 0, xr 0 0] [] V3
                        else
                          if (cmp3 (lAnd x2 l6) 0) = 0 then
                            Xf d 43 68 [xr 10 0, xi l1, xr 0 0, xr 0 0, xl l4, xr 0 0, xl l6, xr 0 0, xi l8, xi (w32 (l9 + 1)), xr 0 0, xr 0 0, xr 0 0, xr 0 0] [] V3
                          else
                            if (cmp3 (lAnd x4 l4) 0) = 0 then
                              Xf d 43 68 [xr 10 0, xi l1, xr 0 0, xr 0 0, xl l4, xr 0 0, xl l6, xr 0 0, xi l8, xi (w32 (l9 + 1)), xr 0 0, xr 0 0, xr 0 0, xr 0 0] [] V3
                            else
                              some (xi l9, V3)
                      else
                        some (xi l9, V3))
                else
                  none)
            else
              none
          else
            Xf d 43 68 [xr 10 0, xi l1, xr 0 0, xr 0 0, xl l4, xr 0 0, xl l6, xr 0 0, xi l8, xi (w32 (l9 + 1)), xr 0 0, xr 0 0, xr 0 0, xr 0 0] [] V
        else
          none
      else
        Xf d 43 68 [xr 10 0, xi l1, xr 0 0, xr 0 0, xl l4, xr 0 0, xl l6, xr 0 0, xi l8, xi (w32 (l9 + 1)), xr 0 0, xr 0 0, xr 0 0, xr 0 0] [] V
    else
      none
  else
    some (xi (-9), V) := Xx_es [68] P_X2_earliestDeny 3 _ _ _ V
