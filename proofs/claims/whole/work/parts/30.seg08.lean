set_option maxRecDepth 100000 in
theorem s_X12_isAhead (d : Nat) (V : XM) (a : Int) (b : Int) (c : Int) (e : Int) (f : Int) : Yf (d + 1) 294 [xr 14 0, xi a, xi b, xi c, xi e, xi f] V =
    ci (Yf d 289 [xi a, xi c, xi b] V) (fun x2 V1 =>
    ci (Yf d 289 [xi a, xi e, xi b] V1) (fun x4 V3 =>
      if 0 ≤ x2 ∧ x2 < 480 then
        if (V3 106 0 (x2.toNat)) = 0 then
          if 0 ≤ x4 ∧ x4 < 480 then
            if (V3 106 0 (x4.toNat)) = 0 then
              if 0 ≤ w32 ((w32 (5 * a)) + b) ∧ w32 ((w32 (5 * a)) + b) < 30 then
                if (V3 105 0 ((w32 ((w32 (5 * a)) + b)).toNat)) = 6 then
                  if 0 ≤ x2 ∧ x2 < 480 then
                    if 0 ≤ x4 ∧ x4 < 480 then
                      if (fDcmp .g (V3 108 0 (x2.toNat)) (V3 108 0 (x4.toNat))) < 0 then
                        Xf d 294 138 [xr 14 0, xr 0 0, xr 0 0, xr 0 0, xr 0 0, xi f, xi x2, xi x4, xi (V3 105 0 ((w32 ((w32 (5 * a)) + b)).toNat)), xr 0 0, xr 0 0] [xi 1] V3
                      else
                        Xf d 294 138 [xr 14 0, xr 0 0, xr 0 0, xr 0 0, xr 0 0, xi f, xi x2, xi x4, xi (V3 105 0 ((w32 ((w32 (5 * a)) + b)).toNat)), xr 0 0, xr 0 0] [xi 0] V3
                    else
                      none
                  else
                    none
                else
                  if (V3 105 0 ((w32 ((w32 (5 * a)) + b)).toNat)) = 7 then
                    if 0 ≤ x2 ∧ x2 < 480 then
                      if 0 ≤ x4 ∧ x4 < 480 then
                        if (fDcmp .g (V3 108 0 (x2.toNat)) (V3 108 0 (x4.toNat))) < 0 then
                          Xf d 294 138 [xr 14 0, xr 0 0, xr 0 0, xr 0 0, xr 0 0, xi f, xi x2, xi x4, xi (V3 105 0 ((w32 ((w32 (5 * a)) + b)).toNat)), xr 0 0, xr 0 0] [xi 1] V3
                        else
                          Xf d 294 138 [xr 14 0, xr 0 0, xr 0 0, xr 0 0, xr 0 0, xi f, xi x2, xi x4, xi (V3 105 0 ((w32 ((w32 (5 * a)) + b)).toNat)), xr 0 0, xr 0 0] [xi 0] V3
                      else
                        none
                    else
                      none
                  else
                    if 0 ≤ x2 ∧ x2 < 480 then
                      if 0 ≤ x4 ∧ x4 < 480 then
                        if (cmp3 (V3 107 0 (x2.toNat)) (V3 107 0 (x4.toNat))) < 0 then
                          Xf d 294 138 [xr 14 0, xr 0 0, xr 0 0, xr 0 0, xr 0 0, xi f, xi x2, xi x4, xi (V3 105 0 ((w32 ((w32 (5 * a)) + b)).toNat)), xr 0 0, xr 0 0] [xi 1] V3
                        else
                          Xf d 294 138 [xr 14 0, xr 0 0, xr 0 0, xr 0 0, xr 0 0, xi f, xi x2, xi x4, xi (V3 105 0 ((w32 ((w32 (5 * a)) + b)).toNat)), xr 0 0, xr 0 0] [xi 0] V3
                      else
                        none
                    else
                      none
              else
                none
            else
              if 0 ≤ x2 ∧ x2 < 480 then
                if (V3 106 0 (x2.toNat)) = 0 then
                  if 0 ≤ x4 ∧ x4 < 480 then
                    if (V3 106 0 (x4.toNat)) = 0 then
                      Xf d 294 62 [xr 0 0, xr 0 0, xr 0 0, xr 0 0, xr 0 0, xr 0 0, xr 0 0, xr 0 0, xr 0 0, xr 0 0, xr 0 0] [xi 0] V3
                    else
                      Xf d 294 62 [xr 0 0, xr 0 0, xr 0 0, xr 0 0, xr 0 0, xr 0 0, xr 0 0, xr 0 0, xr 0 0, xr 0 0, xr 0 0] [xi 1] V3
                  else
                    none
                else
                  Xf d 294 62 [xr 0 0, xr 0 0, xr 0 0, xr 0 0, xr 0 0, xr 0 0, xr 0 0, xr 0 0, xr 0 0, xr 0 0, xr 0 0] [xi 0] V3
              else
                none
          else
            none
        else
          if 0 ≤ x2 ∧ x2 < 480 then
            if (V3 106 0 (x2.toNat)) = 0 then
              if 0 ≤ x4 ∧ x4 < 480 then
                if (V3 106 0 (x4.toNat)) = 0 then
                  Xf d 294 62 [xr 0 0, xr 0 0, xr 0 0, xr 0 0, xr 0 0, xr 0 0, xr 0 0, xr 0 0, xr 0 0, xr 0 0, xr 0 0] [xi 0] V3
                else
                  Xf d 294 62 [xr 0 0, xr 0 0, xr 0 0, xr 0 0, xr 0 0, xr 0 0, xr 0 0, xr 0 0, xr 0 0, xr 0 0, xr 0 0] [xi 1] V3
              else
                none
            else
              Xf d 294 62 [xr 0 0, xr 0 0, xr 0 0, xr 0 0, xr 0 0, xr 0 0, xr 0 0, xr 0 0, xr 0 0, xr 0 0, xr 0 0] [xi 0] V3
          else
            none
      else
        none)) := Xc_es [62, 138, 203, 217] P_X12_isAhead 4 _ V
set_option maxRecDepth 100000 in
theorem s_X12_isAhead_62 (d : Nat) (V : XM) (y0 : Int) : Xf d 294 62 [xr 0 0, xr 0 0, xr 0 0, xr 0 0, xr 0 0, xr 0 0, xr 0 0, xr 0 0, xr 0 0, xr 0 0, xr 0 0] [xi y0] V =
    if y0 = 0 ∨ y0 = 1 then
    some (xi y0, V)
  else
    none := Xx_es [62, 138, 203, 217] P_X12_isAhead 1 _ _ _ V
set_option maxRecDepth 100000 in
theorem s_X12_isAhead_138 (d : Nat) (V : XM) (l5 : Int) (l6 : Int) (l7 : Int) (l8 : Int) (y0 : Int) : Xf d 294 138 [xr 14 0, xr 0 0, xr 0 0, xr 0 0, xr 0 0, xi l5, xi l6, xi l7, xi l8, xr 0 0, xr 0 0] [xi y0] V =
    if l8 = 6 then
    if 0 ≤ l6 ∧ l6 < 480 then
      if 0 ≤ l7 ∧ l7 < 480 then
        if 0 < (fDcmp .l (V 108 0 (l6.toNat)) (V 108 0 (l7.toNat))) then
          Xf d 294 203 [xr 0 0, xr 0 0, xr 0 0, xr 0 0, xr 0 0, xi l5, xr 0 0, xr 0 0, xr 0 0, xi y0, xr 0 0] [xi 1] V
        else
          Xf d 294 203 [xr 0 0, xr 0 0, xr 0 0, xr 0 0, xr 0 0, xi l5, xr 0 0, xr 0 0, xr 0 0, xi y0, xr 0 0] [xi 0] V
      else
        none
    else
      none
  else
    if l8 = 7 then
      if 0 ≤ l6 ∧ l6 < 480 then
        if 0 ≤ l7 ∧ l7 < 480 then
          if 0 < (fDcmp .l (V 108 0 (l6.toNat)) (V 108 0 (l7.toNat))) then
            Xf d 294 203 [xr 0 0, xr 0 0, xr 0 0, xr 0 0, xr 0 0, xi l5, xr 0 0, xr 0 0, xr 0 0, xi y0, xr 0 0] [xi 1] V
          else
            Xf d 294 203 [xr 0 0, xr 0 0, xr 0 0, xr 0 0, xr 0 0, xi l5, xr 0 0, xr 0 0, xr 0 0, xi y0, xr 0 0] [xi 0] V
        else
          none
      else
        none
    else
      if 0 ≤ l6 ∧ l6 < 480 then
        if 0 ≤ l7 ∧ l7 < 480 then
          if 0 < (cmp3 (V 107 0 (l6.toNat)) (V 107 0 (l7.toNat))) then
            Xf d 294 203 [xr 0 0, xr 0 0, xr 0 0, xr 0 0, xr 0 0, xi l5, xr 0 0, xr 0 0, xr 0 0, xi y0, xr 0 0] [xi 1] V
          else
            Xf d 294 203 [xr 0 0, xr 0 0, xr 0 0, xr 0 0, xr 0 0, xi l5, xr 0 0, xr 0 0, xr 0 0, xi y0, xr 0 0] [xi 0] V
        else
          none
      else
        none := Xx_es [62, 138, 203, 217] P_X12_isAhead 3 _ _ _ V
set_option maxRecDepth 100000 in
theorem s_X12_isAhead_203 (d : Nat) (V : XM) (l5 : Int) (l9 : Int) (y0 : Int) : Xf d 294 203 [xr 0 0, xr 0 0, xr 0 0, xr 0 0, xr 0 0, xi l5, xr 0 0, xr 0 0, xr 0 0, xi l9, xr 0 0] [xi y0] V =
    if l5 = 0 then
    Xf d 294 217 [xr 0 0, xr 0 0, xr 0 0, xr 0 0, xr 0 0, xr 0 0, xr 0 0, xr 0 0, xr 0 0, xr 0 0, xr 0 0] [xi l9] V
  else
    Xf d 294 217 [xr 0 0, xr 0 0, xr 0 0, xr 0 0, xr 0 0, xr 0 0, xr 0 0, xr 0 0, xr 0 0, xr 0 0, xr 0 0] [xi y0] V := Xx_es [62, 138, 203, 217] P_X12_isAhead 2 _ _ _ V
set_option maxRecDepth 100000 in
theorem s_X12_isAhead_217 (d : Nat) (V : XM) (y0 : Int) : Xf d 294 217 [xr 0 0, xr 0 0, xr 0 0, xr 0 0, xr 0 0, xr 0 0, xr 0 0, xr 0 0, xr 0 0, xr 0 0, xr 0 0] [xi y0] V =
    if y0 = 0 ∨ y0 = 1 then
    some (xi y0, V)
  else
    none := Xx_es [62, 138, 203, 217] P_X12_isAhead 1 _ _ _ V
set_option maxRecDepth 100000 in
theorem s_X12_rank (d : Nat) (V : XM) (a : Int) (b : Int) (c : Int) : Yf (d + 1) 295 [xr 14 0, xi a, xi b, xi c] V =
    ci (Yf d 285 [xr 14 0, xi a] V) (fun x2 V1 =>
    if x2 = 0 then
      some (xi (-1), V1)
    else
      ci (Yf d 287 [xr 14 0, xi a, xi b] V1) (fun x4 V3 =>
        if x4 = 0 then
          ci (Yf d 190 [xr 14 0, xi (-12)] V3) (fun x6 V5 =>
            some (xi x6, V5))
        else
          Xf d 295 29 [xr 14 0, xi a, xi b, xi c, xi 0, xr 0 0, xr 0 0] [] V3)) := Xc_es [29, 44, 110, 186, 222] P_X12_rank 3 _ V
set_option maxRecDepth 100000 in
theorem s_X12_rank_29 (d : Nat) (V : XM) (l1 : Int) (l2 : Int) (l3 : Int) (l4 : Int) : Xf d 295 29 [xr 14 0, xi l1, xi l2, xi l3, xi l4, xr 0 0, xr 0 0] [] V =
    if 0 ≤ l1 ∧ l1 < 6 then
    if l4 < (V 103 0 (l1.toNat)) then
      Xf d 295 44 [xr 14 0, xi l1, xi l2, xi l3, xi l4, xi l4, xr 0 0] [] V
    else
      Xf d 295 110 [xr 14 0, xi l1, xr 0 0, xr 0 0, xi 0, xr 0 0, xr 0 0] [] V
  else
    none := Xx_es [29, 44, 110, 186, 222] P_X12_rank 2 _ _ _ V
set_option maxRecDepth 100000 in
theorem s_X12_rank_110 (d : Nat) (V : XM) (l1 : Int) (l4 : Int) : Xf d 295 110 [xr 14 0, xi l1, xr 0 0, xr 0 0, xi l4, xr 0 0, xr 0 0] [] V =
    if l4 < 80 then
    if 0 ≤ w32 ((w32 (80 * l1)) + l4) ∧ w32 ((w32 (80 * l1)) + l4) < 480 then
      if 0 ≤ l4 ∧ l4 < 80 then
        if 0 ≤ w32 ((w32 (80 * l1)) + l4) ∧ w32 ((w32 (80 * l1)) + l4) < 480 then
          if 0 ≤ l4 ∧ l4 < 80 then
            if 0 ≤ w32 ((w32 (80 * l1)) + l4) ∧ w32 ((w32 (80 * l1)) + l4) < 480 then
              if 0 ≤ l4 ∧ l4 < 80 then
                Xf d 295 110 [xr 14 0, xi l1, xr 0 0, xr 0 0, xi (w32 (l4 + 1)), xr 0 0, xr 0 0] [] (xu (xu (xu V 110 0 (l4.toNat) ((V 106 0 ((w32 ((w32 (80 * l1)) + l4)).toNat)) % 2)) 111 0 (l4.toNat) (V 107 0 ((w32 ((w32 (80 * l1)) + l4)).toNat))) 112 0 (l4.toNat) (V 108 0 ((w32 ((w32 (80 * l1)) + l4)).toNat)))
              else
                none
            else
              none
          else
            none
        else
          none
      else
        none
    else
      none
  else
    Xf d 295 186 [xr 14 0, xi l1, xr 0 0, xr 0 0, xi 0, xi 0, xr 0 0] [] V := Xx_es [29, 44, 110, 186, 222] P_X12_rank 2 _ _ _ V
set_option maxRecDepth 100000 in
theorem s_X12_rank_186 (d : Nat) (V : XM) (l1 : Int) (l4 : Int) (l5 : Int) : Xf d 295 186 [xr 14 0, xi l1, xr 0 0, xr 0 0, xi l4, xi l5, xr 0 0] [] V =
    if 0 ≤ l1 ∧ l1 < 6 then
    if l5 < (V 103 0 (l1.toNat)) then
      if 0 ≤ l5 ∧ l5 < 16 then
        if (V 109 0 (l5.toNat)) = l5 then
          Xf d 295 222 [xr 14 0, xi l1, xr 0 0, xr 0 0, xi (w32 (l4 + 0)), xi l5, xi 0] [] V
        else
          Xf d 295 222 [xr 14 0, xi l1, xr 0 0, xr 0 0, xi (w32 (l4 + 1)), xi l5, xi 0] [] V
      else
        none
    else
      some (xi l4, V)
  else
    none := Xx_es [29, 44, 110, 186, 222] P_X12_rank 3 _ _ _ V
set_option maxRecDepth 100000 in
theorem s_X12_rank_222 (d : Nat) (V : XM) (l1 : Int) (l4 : Int) (l5 : Int) (l6 : Int) : Xf d 295 222 [xr 14 0, xi l1, xr 0 0, xr 0 0, xi l4, xi l5, xi l6] [] V =
    if l6 < 5 then
    if 0 ≤ l5 ∧ l5 < 16 then
      if 0 ≤ w32 ((w32 (5 * (V 109 0 (l5.toNat)))) + l6) ∧ w32 ((w32 (5 * (V 109 0 (l5.toNat)))) + l6) < 80 then
        if 0 ≤ w32 ((w32 ((w32 (80 * l1)) + (w32 (5 * l5)))) + l6) ∧ w32 ((w32 ((w32 (80 * l1)) + (w32 (5 * l5)))) + l6) < 480 then
          if 0 ≤ l5 ∧ l5 < 16 then
            if 0 ≤ w32 ((w32 (5 * (V 109 0 (l5.toNat)))) + l6) ∧ w32 ((w32 (5 * (V 109 0 (l5.toNat)))) + l6) < 80 then
              if 0 ≤ w32 ((w32 ((w32 (80 * l1)) + (w32 (5 * l5)))) + l6) ∧ w32 ((w32 ((w32 (80 * l1)) + (w32 (5 * l5)))) + l6) < 480 then
                if 0 ≤ l5 ∧ l5 < 16 then
                  if 0 ≤ w32 ((w32 (5 * (V 109 0 (l5.toNat)))) + l6) ∧ w32 ((w32 (5 * (V 109 0 (l5.toNat)))) + l6) < 80 then
                    if 0 ≤ w32 ((w32 ((w32 (80 * l1)) + (w32 (5 * l5)))) + l6) ∧ w32 ((w32 ((w32 (80 * l1)) + (w32 (5 * l5)))) + l6) < 480 then
                      Xf d 295 222 [xr 14 0, xi l1, xr 0 0, xr 0 0, xi l4, xi l5, xi (w32 (l6 + 1))] [] (xu (xu (xu V 106 0 ((w32 ((w32 ((w32 (80 * l1)) + (w32 (5 * l5)))) + l6)).toNat) ((V 110 0 ((w32 ((w32 (5 * (V 109 0 (l5.toNat)))) + l6)).toNat)) % 2)) 107 0 ((w32 ((w32 ((w32 (80 * l1)) + (w32 (5 * l5)))) + l6)).toNat) (V 111 0 ((w32 ((w32 (5 * (V 109 0 (l5.toNat)))) + l6)).toNat))) 108 0 ((w32 ((w32 ((w32 (80 * l1)) + (w32 (5 * l5)))) + l6)).toNat) (V 112 0 ((w32 ((w32 (5 * (V 109 0 (l5.toNat)))) + l6)).toNat)))
                    else
                      none
                  else
                    none
                else
                  none
              else
                none
            else
              none
          else
            none
        else
          none
      else
        none
    else
      none
  else
    Xf d 295 186 [xr 14 0, xi l1, xr 0 0, xr 0 0, xi l4, xi (w32 (l5 + 1)), xr 0 0] [] V := Xx_es [29, 44, 110, 186, 222] P_X12_rank 2 _ _ _ V
set_option maxRecDepth 100000 in
theorem s_X12_rank_44 (d : Nat) (V : XM) (l1 : Int) (l2 : Int) (l3 : Int) (l4 : Int) (l5 : Int) : Xf d 295 44 [xr 14 0, xi l1, xi l2, xi l3, xi l4, xi l5, xr 0 0] [] V =
    if 0 < l5 then
    if 0 ≤ w32 (l5 - 1) ∧ w32 (l5 - 1) < 16 then
      ci (Yf d 294 [xr 14 0, xi l1, xi l2, xi l4, xi (V 109 0 ((w32 (l5 - 1)).toNat)), xi l3] V) (fun x2 V1 =>
        if x2 = 0 then
          if 0 ≤ l5 ∧ l5 < 16 then
            Xf d 295 29 [xr 14 0, xi l1, xi l2, xi l3, xi (w32 (l4 + 1)), xr 0 0, xr 0 0] [] (xu V1 109 0 (l5.toNat) l4)
          else
            none
        else
          if 0 ≤ w32 (l5 - 1) ∧ w32 (l5 - 1) < 16 then
            if 0 ≤ l5 ∧ l5 < 16 then
              Xf d 295 44 [xr 14 0, xi l1, xi l2, xi l3, xi l4, xi (w32 (l5 + (-1))), xr 0 0] [] (xu V1 109 0 (l5.toNat) (V1 109 0 ((w32 (l5 - 1)).toNat)))
            else
              none
          else
            none)
    else
      none
  else
    if 0 ≤ l5 ∧ l5 < 16 then
      Xf d 295 29 [xr 14 0, xi l1, xi l2, xi l3, xi (w32 (l4 + 1)), xr 0 0, xr 0 0] [] (xu V 109 0 (l5.toNat) l4)
    else
      none := Xx_es [29, 44, 110, 186, 222] P_X12_rank 2 _ _ _ V
set_option maxRecDepth 100000 in
theorem s_X12_filledIn (d : Nat) (V : XM) (a : Int) (b : Int) : Yf (d + 1) 296 [xr 14 0, xi a, xi b] V =
    Xf d 296 5 [xr 14 0, xi a, xi b, xi 0, xi 0] [] V := Xc_es [5] P_X12_filledIn 1 _ V
set_option maxRecDepth 100000 in
theorem s_X12_filledIn_5 (d : Nat) (V : XM) (l1 : Int) (l2 : Int) (l3 : Int) (l4 : Int) : Xf d 296 5 [xr 14 0, xi l1, xi l2, xi l3, xi l4] [] V =
    if 0 ≤ l1 ∧ l1 < 6 then
    if l4 < (V 103 0 (l1.toNat)) then
      ci (Yf d 289 [xi l1, xi l4, xi l2] V) (fun x2 V1 =>
        if 0 ≤ x2 ∧ x2 < 480 then
          if (V1 106 0 (x2.toNat)) = 0 then
            Xf d 296 5 [xr 14 0, xi l1, xi l2, xi (w32 (l3 + 1)), xi (w32 (l4 + 1))] [] V1
          else
            Xf d 296 5 [xr 14 0, xi l1, xi l2, xi (w32 (l3 + 0)), xi (w32 (l4 + 1))] [] V1
        else
          none)
    else
      some (xi l3, V)
  else
    none := Xx_es [5] P_X12_filledIn 3 _ _ _ V
set_option maxRecDepth 100000 in
theorem s_X12_sumOf (d : Nat) (V : XM) (a : Int) (b : Int) : Yf (d + 1) 297 [xr 14 0, xi a, xi b] V =
    Xf d 297 5 [xr 14 0, xi a, xi b, xl 0, xr 0 0, xi 0, xr 0 0] [] V := Xc_es [5] P_X12_sumOf 1 _ V
set_option maxRecDepth 100000 in
theorem s_X12_sumOf_5 (d : Nat) (V : XM) (l1 : Int) (l2 : Int) (l3 : Int) (l5 : Int) : Xf d 297 5 [xr 14 0, xi l1, xi l2, xl l3, xr 0 0, xi l5, xr 0 0] [] V =
    if 0 ≤ l1 ∧ l1 < 6 then
    if l5 < (V 103 0 (l1.toNat)) then
      ci (Yf d 289 [xi l1, xi l5, xi l2] V) (fun x2 V1 =>
        if 0 ≤ x2 ∧ x2 < 480 then
          if (V1 106 0 (x2.toNat)) = 0 then
            if 0 ≤ x2 ∧ x2 < 480 then
              Xf d 297 5 [xr 14 0, xi l1, xi l2, xl (w64 (l3 + (V1 107 0 (x2.toNat)))), xr 0 0, xi (w32 (l5 + 1)), xr 0 0] [] V1
            else
              none
          else
            Xf d 297 5 [xr 14 0, xi l1, xi l2, xl (w64 (l3 + 0)), xr 0 0, xi (w32 (l5 + 1)), xr 0 0] [] V1
        else
          none)
    else
      some (xl l3, V)
  else
    none := Xx_es [5] P_X12_sumOf 3 _ _ _ V
set_option maxRecDepth 100000 in
theorem s_X12_total (d : Nat) (V : XM) (a : Int) (b : Int) : Yf (d + 1) 298 [xr 14 0, xi a, xi b] V =
    ci (Yf d 285 [xr 14 0, xi a] V) (fun x2 V1 =>
    if x2 = 0 then
      some (xl (-1), V1)
    else
      ci (Yf d 287 [xr 14 0, xi a, xi b] V1) (fun x4 V3 =>
        if x4 = 0 then
          ci (Yf d 190 [xr 14 0, xi (-12)] V3) (fun x6 V5 =>
            some (xl x6, V5))
        else
          cl (Yf d 297 [xr 14 0, xi a, xi b] V3) (fun x8 V7 =>
            some (xl x8, V7)))) := Xc_es [] P_X12_total 4 _ V
set_option maxRecDepth 100000 in
theorem s_X12_mean (d : Nat) (V : XM) (a : Int) (b : Int) : Yf (d + 1) 299 [xr 14 0, xi a, xi b] V =
    ci (Yf d 285 [xr 14 0, xi a] V) (fun x2 V1 =>
    if x2 = 0 then
      some (xl (-1), V1)
    else
      ci (Yf d 287 [xr 14 0, xi a, xi b] V1) (fun x4 V3 =>
        if x4 = 0 then
          ci (Yf d 190 [xr 14 0, xi (-12)] V3) (fun x6 V5 =>
            some (xl x6, V5))
        else
          ci (Yf d 296 [xr 14 0, xi a, xi b] V3) (fun x8 V7 =>
            if x8 = 0 then
              ci (Yf d 190 [xr 14 0, xi (-16)] V7) (fun x10 V9 =>
                some (xl x10, V9))
            else
              cl (Yf d 297 [xr 14 0, xi a, xi b] V7) (fun x12 V11 =>
                if x8 = 0 then
                  none
                else
                  some (xl (w64 (Int.tdiv x12 x8)), V11))))) := Xc_es [] P_X12_mean 5 _ V
set_option maxRecDepth 100000 in
theorem s_X12_add (d : Nat) (V : XM) (a : Int) : Yf (d + 1) 300 [xr 14 0, xi a] V =
    if 0 ≤ V 14 0 56 ∧ V 14 0 56 < 2048 then
    some (xi 0, (xu (xu V 113 0 ((V 14 0 56).toNat) a) 14 0 56 (w32 ((V 14 0 56) + 1))))
  else
    none := Xc_es [] P_X12_add 1 _ V
set_option maxRecDepth 100000 in
theorem s_X12_make (d : Nat) (V : XM) : Yf (d + 1) 301 [xr 14 0] V =
    Xf d 301 4 [xr 14 0, xi 0, xi 0, xr 0 0, xr 0 0] [] V := Xc_es [4, 73, 112, 164, 174, 212, 230] P_X12_make 1 _ V
set_option maxRecDepth 100000 in
theorem s_X12_make_4 (d : Nat) (V : XM) (l1 : Int) (l2 : Int) : Xf d 301 4 [xr 14 0, xi l1, xi l2, xr 0 0, xr 0 0] [] V =
    if l2 < (V 14 0 9) then
    if l1 = 0 then
      ci (Yf d 268 [xr 14 0, xi l2] V) (fun x2 V1 =>
        if x2 = 0 then
          Xf d 301 4 [xr 14 0, xi 0, xi (w32 (l2 + 1)), xr 0 0, xr 0 0] [] V1
        else
          Xf d 301 4 [xr 14 0, xi 1, xi (w32 (l2 + 1)), xr 0 0, xr 0 0] [] V1)
    else
      Xf d 301 4 [xr 14 0, xi 1, xi (w32 (l2 + 1)), xr 0 0, xr 0 0] [] V
  else
    if l1 = 0 then
      some (xi (-3), V)
    else
      ci (Yf d 244 [xr 14 0] V) (fun x4 V3 =>
        if 0 < x4 then
          some (xi (-3), V3)
        else
          cv (Yf d 300 [xr 14 0, xi (V3 14 0 1)] (xu V3 14 0 56 0)) (fun V5 =>
            cv (Yf d 300 [xr 14 0, xi (V5 14 0 9)] V5) (fun V6 =>
              Xf d 301 73 [xr 14 0, xr 0 0, xi 0, xr 0 0, xr 0 0] [] V6))) := Xx_es [4, 73, 112, 164, 174, 212, 230] P_X12_make 3 _ _ _ V
set_option maxRecDepth 100000 in
theorem s_X12_make_73 (d : Nat) (V : XM) (l2 : Int) : Xf d 301 73 [xr 14 0, xr 0 0, xi l2, xr 0 0, xr 0 0] [] V =
    if l2 < (V 14 0 9) then
    if 0 ≤ l2 ∧ l2 < 64 then
      cv (Yf d 300 [xr 14 0, xi (V 73 0 (l2.toNat))] V) (fun V1 =>
        ci (Yf d 215 [xr 14 0, xi l2] V1) (fun x3 V2 =>
          cv (Yf d 300 [xr 14 0, xi x3] V2) (fun V4 =>
            if 0 ≤ l2 ∧ l2 < 64 then
              cv (Yf d 300 [xr 14 0, xi (V4 74 0 (l2.toNat))] V4) (fun V5 =>
                Xf d 301 112 [xr 14 0, xr 0 0, xi l2, xi 0, xr 0 0] [] V5)
            else
              none)))
    else
      none
  else
    Xf d 301 164 [xr 14 0, xr 0 0, xi 0, xr 0 0, xr 0 0] [] V := Xx_es [4, 73, 112, 164, 174, 212, 230] P_X12_make 2 _ _ _ V
set_option maxRecDepth 100000 in
theorem s_X12_make_164 (d : Nat) (V : XM) (l2 : Int) : Xf d 301 164 [xr 14 0, xr 0 0, xi l2, xr 0 0, xr 0 0] [] V =
    if l2 < (V 14 0 9) then
    Xf d 301 174 [xr 14 0, xr 0 0, xi l2, xi 0, xr 0 0] [] V
  else
    Xf d 301 212 [xr 14 0, xr 0 0, xi 0, xr 0 0, xr 0 0] [] V := Xx_es [4, 73, 112, 164, 174, 212, 230] P_X12_make 2 _ _ _ V
set_option maxRecDepth 100000 in
theorem s_X12_make_212 (d : Nat) (V : XM) (l2 : Int) : Xf d 301 212 [xr 14 0, xr 0 0, xi l2, xr 0 0, xr 0 0] [] V =
    if l2 < (V 14 0 29) then
    cv (Yf d 264 [xr 14 0, xi l2] V) (fun V1 =>
      Xf d 301 230 [xr 14 0, xr 0 0, xi l2, xi 0, xi 0] [] V1)
  else
    some (xi (V 14 0 56), V) := Xx_es [4, 73, 112, 164, 174, 212, 230] P_X12_make 2 _ _ _ V
set_option maxRecDepth 100000 in
theorem s_X12_make_230 (d : Nat) (V : XM) (l2 : Int) (l3 : Int) (l4 : Int) : Xf d 301 230 [xr 14 0, xr 0 0, xi l2, xi l3, xi l4] [] V =
    if l4 < (w32 (64 * (V 14 0 9))) then
    if (Int.tmod l4 64) < (V 14 0 9) then
      if 0 ≤ l4 ∧ l4 < 4096 then
        if (V 94 0 (l4.toNat)) = 0 then
          Xf d 301 230 [xr 14 0, xr 0 0, xi l2, xi (w32 (l3 + 0)), xi (w32 (l4 + 1))] [] V
        else
          Xf d 301 230 [xr 14 0, xr 0 0, xi l2, xi (w32 (l3 + 1)), xi (w32 (l4 + 1))] [] V
      else
        none
    else
      Xf d 301 230 [xr 14 0, xr 0 0, xi l2, xi (w32 (l3 + 0)), xi (w32 (l4 + 1))] [] V
  else
    if 0 ≤ l2 ∧ l2 < 8 then
      cv (Yf d 300 [xr 14 0, xi (V 90 0 (l2.toNat))] V) (fun V1 =>
        cv (Yf d 300 [xr 14 0, xi l3] V1) (fun V2 =>
          Xf d 301 212 [xr 14 0, xr 0 0, xi (w32 (l2 + 1)), xr 0 0, xr 0 0] [] V2))
    else
      none := Xx_es [4, 73, 112, 164, 174, 212, 230] P_X12_make 3 _ _ _ V
set_option maxRecDepth 100000 in
theorem s_X12_make_174 (d : Nat) (V : XM) (l2 : Int) (l3 : Int) : Xf d 301 174 [xr 14 0, xr 0 0, xi l2, xi l3, xr 0 0] [] V =
    if l3 < 8 then
    ci (Yf d 268 [xr 14 0, xi l2] V) (fun x2 V1 =>
      if x2 = 0 then
        Xf d 301 164 [xr 14 0, xr 0 0, xi (w32 (l2 + 1)), xr 0 0, xr 0 0] [] V1
      else
        ci (Yf d 272 [xr 14 0, xi l2, xi l3] V1) (fun x4 V3 =>
          cv (Yf d 300 [xr 14 0, xi x4] V3) (fun V5 =>
            Xf d 301 174 [xr 14 0, xr 0 0, xi l2, xi (w32 (l3 + 1)), xr 0 0] [] V5)))
  else
    Xf d 301 164 [xr 14 0, xr 0 0, xi (w32 (l2 + 1)), xr 0 0, xr 0 0] [] V := Xx_es [4, 73, 112, 164, 174, 212, 230] P_X12_make 2 _ _ _ V
set_option maxRecDepth 100000 in
theorem s_X12_make_112 (d : Nat) (V : XM) (l2 : Int) (l3 : Int) : Xf d 301 112 [xr 14 0, xr 0 0, xi l2, xi l3, xr 0 0] [] V =
    if l3 < (V 14 0 3) then
    if 0 ≤ l2 ∧ l2 < 64 then
      if 0 ≤ l3 ∧ l3 < 12 then
        ci (Yf d 194 [xr 14 0, xi (V 73 0 (l2.toNat)), xi (V 68 0 (l3.toNat))] V) (fun x2 V1 =>
          if x2 = 0 then
            Xf d 301 112 [xr 14 0, xr 0 0, xi l2, xi (w32 (l3 + 1)), xr 0 0] [] V1
          else
            cl (Yf d 224 [xr 14 0, xi l2, xi l3] V1) (fun x4 V3 =>
              cv (Yf d 300 [xr 14 0, xi (w32 x4)] V3) (fun V5 =>
                Xf d 301 112 [xr 14 0, xr 0 0, xi l2, xi (w32 (l3 + 1)), xr 0 0] [] V5)))
      else
        none
    else
      none
  else
    Xf d 301 73 [xr 14 0, xr 0 0, xi (w32 (l2 + 1)), xr 0 0, xr 0 0] [] V := Xx_es [4, 73, 112, 164, 174, 212, 230] P_X12_make 2 _ _ _ V
set_option maxRecDepth 100000 in
theorem s_X12_word (d : Nat) (V : XM) (a : Int) : Yf (d + 1) 302 [xr 14 0, xi a] V =
    ci (Yf d 189 [xl a, xl 0, xl (w32 ((V 14 0 56) - 1))] V) (fun x2 V1 =>
    if x2 = 0 then
      some (xi (-9), V1)
    else
      if 0 ≤ a ∧ a < 2048 then
        some (xi (V1 113 0 (a.toNat)), V1)
      else
        none) := Xc_es [] P_X12_word 3 _ V
set_option maxRecDepth 100000 in
theorem s_X12_digest (d : Nat) (V : XM) : Yf (d + 1) 303 [xr 14 0] V =
    Xf d 303 6 [xr 14 0, xl 17, xr 0 0, xi 0] [] V := Xc_es [6] P_X12_digest 1 _ V
set_option maxRecDepth 100000 in
theorem s_X12_digest_6 (d : Nat) (V : XM) (l1 : Int) (l3 : Int) : Xf d 303 6 [xr 14 0, xl l1, xr 0 0, xi l3] [] V =
    if l3 < (V 14 0 56) then
    if 0 ≤ l3 ∧ l3 < 2048 then
      Xf d 303 6 [xr 14 0, xl (w64 ((w64 (31 * l1)) + (V 113 0 (l3.toNat)))), xr 0 0, xi (w32 (l3 + 1))] [] V
    else
      none
  else
    some (xl l1, V) := Xx_es [6] P_X12_digest 2 _ _ _ V
set_option maxRecDepth 100000 in
theorem s_X12_sentence (d : Nat) (V : XM) (a : Int) (b : Int) : Yf (d + 1) 304 [xr 14 0, xi a, xi b] V =
    ci (Yf d 189 [xl a, xl 0, xl (w32 ((V 14 0 22) - 1))] V) (fun x2 V1 =>
    if x2 = 0 then
      some (xi (-1), V1)
    else
      if b = 0 then
        if 0 ≤ a ∧ a < 300 then
          some (xi (V1 85 0 (a.toNat)), V1)
        else
          none
      else
        if b = 1 then
          if 0 ≤ a ∧ a < 300 then
            some (xi (V1 86 0 (a.toNat)), V1)
          else
            none
        else
          if b = 2 then
            if 0 ≤ a ∧ a < 300 then
              some (xi (V1 87 0 (a.toNat)), V1)
            else
              none
          else
            some (xi (-2), V1)) := Xc_es [] P_X12_sentence 6 _ V
set_option maxRecDepth 100000 in
theorem s_X12_count (d : Nat) (V : XM) (a : Int) : Yf (d + 1) 305 [xr 14 0, xi a] V =
    if a = 0 then
    some (xi (V 14 0 1), V)
  else
    if a = 0 + 1 then
      some (xi (V 14 0 3), V)
    else
      if a = 0 + 1 + 1 then
        some (xi (V 14 0 9), V)
      else
        if a = 0 + 1 + 1 + 1 then
          some (xi (V 14 0 22), V)
        else
          if a = 0 + 1 + 1 + 1 + 1 then
            some (xi (V 14 0 29), V)
          else
            if a = 0 + 1 + 1 + 1 + 1 + 1 then
              some (xi (V 14 0 39), V)
            else
              if a = 0 + 1 + 1 + 1 + 1 + 1 + 1 then
                some (xi (V 14 0 45), V)
              else
                if a = 0 + 1 + 1 + 1 + 1 + 1 + 1 + 1 then
                  ci (Yf d 244 [xr 14 0] V) (fun x2 V1 =>
                    some (xi x2, V1))
                else
                  if a = 0 + 1 + 1 + 1 + 1 + 1 + 1 + 1 + 1 then
                    some (xi (V 14 0 56), V)
                  else
                    if a = 0 + 1 + 1 + 1 + 1 + 1 + 1 + 1 + 1 + 1 then
                      some (xi (V 14 0 27), V)
                    else
                      some (xi (-2), V) := Xc_es [] P_X12_count 2 _ V
set_option maxRecDepth 100000 in
theorem s_X12_fault (d : Nat) (V : XM) : Yf (d + 1) 306 [xr 14 0] V =
    some (xi (V 14 0 0), V) := Xc_es [] P_X12_fault 1 _ V
set_option maxRecDepth 100000 in
theorem s_X12_clear (d : Nat) (V : XM) : Yf (d + 1) 307 [xr 14 0] V =
    cv (Yf d 191 [xr 14 0] V) (fun V1 =>
    some (xi (V 14 0 9), V1)) := Xc_es [] P_X12_clear 1 _ V
set_option maxRecDepth 100000 in
theorem s_J13_bitCount_95d88 (d : Nat) (V : XM) (a : Int) : Yf (d + 1) 308 [xl a] V =
    some (xi (iAnd (w32 (w64 ((w64 ((w64 ((lAnd (w64 ((w64 ((lAnd (w64 (a - (lAnd (lUshr a 1) 6148914691236517205))) 3689348814741910323) + (lAnd (lUshr (w64 (a - (lAnd (lUshr a 1) 6148914691236517205))) 2) 3689348814741910323))) + (lUshr (w64 ((lAnd (w64 (a - (lAnd (lUshr a 1) 6148914691236517205))) 3689348814741910323) + (lAnd (lUshr (w64 (a - (lAnd (lUshr a 1) 6148914691236517205))) 2) 3689348814741910323))) 4))) 1085102592571150095) + (lUshr (lAnd (w64 ((w64 ((lAnd (w64 (a - (lAnd (lUshr a 1) 6148914691236517205))) 3689348814741910323) + (lAnd (lUshr (w64 (a - (lAnd (lUshr a 1) 6148914691236517205))) 2) 3689348814741910323))) + (lUshr (w64 ((lAnd (w64 (a - (lAnd (lUshr a 1) 6148914691236517205))) 3689348814741910323) + (lAnd (lUshr (w64 (a - (lAnd (lUshr a 1) 6148914691236517205))) 2) 3689348814741910323))) 4))) 1085102592571150095) 8))) + (lUshr (w64 ((lAnd (w64 ((w64 ((lAnd (w64 (a - (lAnd (lUshr a 1) 6148914691236517205))) 3689348814741910323) + (lAnd (lUshr (w64 (a - (lAnd (lUshr a 1) 6148914691236517205))) 2) 3689348814741910323))) + (lUshr (w64 ((lAnd (w64 (a - (lAnd (lUshr a 1) 6148914691236517205))) 3689348814741910323) + (lAnd (lUshr (w64 (a - (lAnd (lUshr a 1) 6148914691236517205))) 2) 3689348814741910323))) 4))) 1085102592571150095) + (lUshr (lAnd (w64 ((w64 ((lAnd (w64 (a - (lAnd (lUshr a 1) 6148914691236517205))) 3689348814741910323) + (lAnd (lUshr (w64 (a - (lAnd (lUshr a 1) 6148914691236517205))) 2) 3689348814741910323))) + (lUshr (w64 ((lAnd (w64 (a - (lAnd (lUshr a 1) 6148914691236517205))) 3689348814741910323) + (lAnd (lUshr (w64 (a - (lAnd (lUshr a 1) 6148914691236517205))) 2) 3689348814741910323))) 4))) 1085102592571150095) 8))) 16))) + (lUshr (w64 ((w64 ((lAnd (w64 ((w64 ((lAnd (w64 (a - (lAnd (lUshr a 1) 6148914691236517205))) 3689348814741910323) + (lAnd (lUshr (w64 (a - (lAnd (lUshr a 1) 6148914691236517205))) 2) 3689348814741910323))) + (lUshr (w64 ((lAnd (w64 (a - (lAnd (lUshr a 1) 6148914691236517205))) 3689348814741910323) + (lAnd (lUshr (w64 (a - (lAnd (lUshr a 1) 6148914691236517205))) 2) 3689348814741910323))) 4))) 1085102592571150095) + (lUshr (lAnd (w64 ((w64 ((lAnd (w64 (a - (lAnd (lUshr a 1) 6148914691236517205))) 3689348814741910323) + (lAnd (lUshr (w64 (a - (lAnd (lUshr a 1) 6148914691236517205))) 2) 3689348814741910323))) + (lUshr (w64 ((lAnd (w64 (a - (lAnd (lUshr a 1) 6148914691236517205))) 3689348814741910323) + (lAnd (lUshr (w64 (a - (lAnd (lUshr a 1) 6148914691236517205))) 2) 3689348814741910323))) 4))) 1085102592571150095) 8))) + (lUshr (w64 ((lAnd (w64 ((w64 ((lAnd (w64 (a - (lAnd (lUshr a 1) 6148914691236517205))) 3689348814741910323) + (lAnd (lUshr (w64 (a - (lAnd (lUshr a 1) 6148914691236517205))) 2) 3689348814741910323))) + (lUshr (w64 ((lAnd (w64 (a - (lAnd (lUshr a 1) 6148914691236517205))) 3689348814741910323) + (lAnd (lUshr (w64 (a - (lAnd (lUshr a 1) 6148914691236517205))) 2) 3689348814741910323))) 4))) 1085102592571150095) + (lUshr (lAnd (w64 ((w64 ((lAnd (w64 (a - (lAnd (lUshr a 1) 6148914691236517205))) 3689348814741910323) + (lAnd (lUshr (w64 (a - (lAnd (lUshr a 1) 6148914691236517205))) 2) 3689348814741910323))) + (lUshr (w64 ((lAnd (w64 (a - (lAnd (lUshr a 1) 6148914691236517205))) 3689348814741910323) + (lAnd (lUshr (w64 (a - (lAnd (lUshr a 1) 6148914691236517205))) 2) 3689348814741910323))) 4))) 1085102592571150095) 8))) 16))) 32)))) 127), V) := Xc_es [] P_J13_bitCount_95d88 1 _ V
set_option maxRecDepth 100000 in
theorem s_J9_max_7cf53 (d : Nat) (V : XM) (a : Int) (b : Int) : Yf (d + 1) 309 [xi a, xi b] V =
    if a < b then
    some (xi b, V)
  else
    some (xi a, V) := Xc_es [] P_J9_max_7cf53 3 _ V
