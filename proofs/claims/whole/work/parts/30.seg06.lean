set_option maxRecDepth 100000 in
theorem s_X12_pair (d : Nat) (V : XM) (a : Int) (b : Int) (c : Int) : Yf (d + 1) 241 [xr 14 0, xi a, xi b, xi c] V =
    ci (Yf d 203 [xr 14 0, xl a] V) (fun x2 V1 =>
    if x2 = 0 then
      some (xi (-1), V1)
    else
      ci (Yf d 203 [xr 14 0, xl b] V1) (fun x4 V3 =>
        if x4 = 0 then
          some (xi (-1), V3)
        else
          if a = b then
            some (xi (-3), V3)
          else
            ci (Yf d 207 [xr 14 0, xi a] V3) (fun x6 V5 =>
              if x6 = 0 then
                ci (Yf d 208 [xr 14 0, xi a] V5) (fun x8 V7 =>
                  if x8 = 0 then
                    ci (Yf d 207 [xr 14 0, xi b] V7) (fun x10 V9 =>
                      if x10 = 0 then
                        ci (Yf d 208 [xr 14 0, xi b] V9) (fun x12 V11 =>
                          if x12 = 0 then
                            if (V11 14 0 22) = 300 then
                              some (xi (-4), V11)
                            else
                              if (V11 14 0 27) = 16 then
                                some (xi (-4), V11)
                              else
                                if c = 0 then
                                  Xf d 241 96 [xr 14 0, xi a, xi b, xi c, xi 0, xi 0] [] V11
                                else
                                  Xf d 241 96 [xr 14 0, xi a, xi b, xi c, xi 1, xi 0] [] V11
                          else
                            some (xi (-3), V11))
                      else
                        some (xi (-3), V9))
                  else
                    some (xi (-3), V7))
              else
                some (xi (-3), V5)))) := Xc_es [96] P_X12_pair 6 _ V
set_option maxRecDepth 100000 in
theorem s_X12_pair_96 (d : Nat) (V : XM) (l1 : Int) (l2 : Int) (l3 : Int) (l4 : Int) (l5 : Int) : Xf d 241 96 [xr 14 0, xi l1, xi l2, xi l3, xi l4, xi l5] [] V =
    if l5 < (V 14 0 22) then
    if 0 ≤ l5 ∧ l5 < 300 then
      if (V 85 0 (l5.toNat)) = 4 then
        if 0 ≤ l5 ∧ l5 < 300 then
          if (V 86 0 (l5.toNat)) = l1 then
            if 0 ≤ l5 ∧ l5 < 300 then
              if (V 87 0 (l5.toNat)) = l2 then
                if 0 ≤ l5 ∧ l5 < 300 then
                  if (V 88 0 (l5.toNat)) = l4 then
                    Xf d 241 96 [xr 14 0, xi l1, xi l2, xi l3, xi l4, xi (w32 (l5 + 1))] [] V
                  else
                    ci (Yf d 211 [xi l5] V) (fun x2 V1 =>
                      some (xi x2, V1))
                else
                  none
              else
                if 0 ≤ l5 ∧ l5 < 300 then
                  if (V 86 0 (l5.toNat)) = l2 then
                    if 0 ≤ l5 ∧ l5 < 300 then
                      if (V 87 0 (l5.toNat)) = l1 then
                        if 0 ≤ l5 ∧ l5 < 300 then
                          if (V 88 0 (l5.toNat)) = l4 then
                            Xf d 241 96 [xr 14 0, xi l1, xi l2, xi l3, xi l4, xi (w32 (l5 + 1))] [] V
                          else
                            ci (Yf d 211 [xi l5] V) (fun x4 V3 =>
                              some (xi x4, V3))
                        else
                          none
                      else
                        Xf d 241 96 [xr 14 0, xi l1, xi l2, xi l3, xi l4, xi (w32 (l5 + 1))] [] V
                    else
                      none
                  else
                    Xf d 241 96 [xr 14 0, xi l1, xi l2, xi l3, xi l4, xi (w32 (l5 + 1))] [] V
                else
                  none
            else
              none
          else
            if 0 ≤ l5 ∧ l5 < 300 then
              if (V 86 0 (l5.toNat)) = l2 then
                if 0 ≤ l5 ∧ l5 < 300 then
                  if (V 87 0 (l5.toNat)) = l1 then
                    if 0 ≤ l5 ∧ l5 < 300 then
                      if (V 88 0 (l5.toNat)) = l4 then
                        Xf d 241 96 [xr 14 0, xi l1, xi l2, xi l3, xi l4, xi (w32 (l5 + 1))] [] V
                      else
                        ci (Yf d 211 [xi l5] V) (fun x6 V5 =>
                          some (xi x6, V5))
                    else
                      none
                  else
                    Xf d 241 96 [xr 14 0, xi l1, xi l2, xi l3, xi l4, xi (w32 (l5 + 1))] [] V
                else
                  none
              else
                Xf d 241 96 [xr 14 0, xi l1, xi l2, xi l3, xi l4, xi (w32 (l5 + 1))] [] V
            else
              none
        else
          none
      else
        Xf d 241 96 [xr 14 0, xi l1, xi l2, xi l3, xi l4, xi (w32 (l5 + 1))] [] V
    else
      none
  else
    if 0 ≤ l1 ∧ l1 < 64 then
      if 0 < (V 80 0 (l1.toNat)) then
        if 0 ≤ l2 ∧ l2 < 64 then
          if 0 < (V 80 0 (l2.toNat)) then
            ci (Yf d 215 [xr 14 0, xi l1] V) (fun x8 V7 =>
              ci (Yf d 215 [xr 14 0, xi l2] V7) (fun x10 V9 =>
                if x8 = x10 then
                  if 1 = l3 then
                    ci (Yf d 210 [xr 14 0, xi 4, xi l1, xi l2, xi l4] (xu V9 14 0 27 (w32 ((V9 14 0 27) + 1)))) (fun x12 V11 =>
                      some (xi x12, V11))
                  else
                    if 0 ≤ w32 (6 * l1) ∧ w32 (6 * l1) < 384 then
                      if 0 ≤ w32 (6 * l2) ∧ w32 (6 * l2) < 384 then
                        if (V9 79 0 ((w32 (6 * l2)).toNat)) < (V9 79 0 ((w32 (6 * l1)).toNat)) then
                          if 0 ≤ w32 (6 * l1) ∧ w32 (6 * l1) < 384 then
                            ci (Yf d 211 [xi (V9 79 0 ((w32 (6 * l1)).toNat))] V9) (fun x14 V13 =>
                              some (xi x14, V13))
                          else
                            none
                        else
                          if 0 ≤ w32 (6 * l2) ∧ w32 (6 * l2) < 384 then
                            ci (Yf d 211 [xi (V9 79 0 ((w32 (6 * l2)).toNat))] V9) (fun x16 V15 =>
                              some (xi x16, V15))
                          else
                            none
                      else
                        none
                    else
                      none
                else
                  if 0 = l3 then
                    ci (Yf d 210 [xr 14 0, xi 4, xi l1, xi l2, xi l4] (xu V9 14 0 27 (w32 ((V9 14 0 27) + 1)))) (fun x18 V17 =>
                      some (xi x18, V17))
                  else
                    if 0 ≤ w32 (6 * l1) ∧ w32 (6 * l1) < 384 then
                      if 0 ≤ w32 (6 * l2) ∧ w32 (6 * l2) < 384 then
                        if (V9 79 0 ((w32 (6 * l2)).toNat)) < (V9 79 0 ((w32 (6 * l1)).toNat)) then
                          if 0 ≤ w32 (6 * l1) ∧ w32 (6 * l1) < 384 then
                            ci (Yf d 211 [xi (V9 79 0 ((w32 (6 * l1)).toNat))] V9) (fun x20 V19 =>
                              some (xi x20, V19))
                          else
                            none
                        else
                          if 0 ≤ w32 (6 * l2) ∧ w32 (6 * l2) < 384 then
                            ci (Yf d 211 [xi (V9 79 0 ((w32 (6 * l2)).toNat))] V9) (fun x22 V21 =>
                              some (xi x22, V21))
                          else
                            none
                      else
                        none
                    else
                      none))
          else
            ci (Yf d 210 [xr 14 0, xi 4, xi l1, xi l2, xi l4] (xu V 14 0 27 (w32 ((V 14 0 27) + 1)))) (fun x24 V23 =>
              some (xi x24, V23))
        else
          none
      else
        ci (Yf d 210 [xr 14 0, xi 4, xi l1, xi l2, xi l4] (xu V 14 0 27 (w32 ((V 14 0 27) + 1)))) (fun x26 V25 =>
          some (xi x26, V25))
    else
      none := Xx_es [96] P_X12_pair 6 _ _ _ V
set_option maxRecDepth 100000 in
theorem s_X12_most (d : Nat) (V : XM) (a : Int) (b : Int) : Yf (d + 1) 242 [xr 14 0, xi a, xi b] V =
    ci (Yf d 203 [xr 14 0, xl a] V) (fun x2 V1 =>
    if x2 = 0 then
      some (xi (-1), V1)
    else
      ci (Yf d 189 [xl b, xl 0, xl 64] V1) (fun x4 V3 =>
        if x4 = 0 then
          some (xi (-2), V3)
        else
          ci (Yf d 206 [xr 14 0, xi a] V3) (fun x6 V5 =>
            if x6 = 0 then
              some (xi (-3), V5)
            else
              if 0 ≤ a ∧ a < 64 then
                if (V5 82 0 (a.toNat)) = (-9) then
                  if (V5 14 0 22) = 300 then
                    some (xi (-4), V5)
                  else
                    Xf d 242 66 [xr 14 0, xi a, xi b, xi 0, xi 0] [] V5
                else
                  some (xi (-3), V5)
              else
                none))) := Xc_es [66] P_X12_most 5 _ V
set_option maxRecDepth 100000 in
theorem s_X12_most_66 (d : Nat) (V : XM) (l1 : Int) (l2 : Int) (l3 : Int) (l4 : Int) : Xf d 242 66 [xr 14 0, xi l1, xi l2, xi l3, xi l4] [] V =
    if l4 < (V 14 0 22) then
    if 0 ≤ l4 ∧ l4 < 300 then
      if (V 85 0 (l4.toNat)) = 0 then
        if 0 ≤ l4 ∧ l4 < 300 then
          if (V 87 0 (l4.toNat)) = l1 then
            if 0 ≤ l4 ∧ l4 < 300 then
              ci (Yf d 208 [xr 14 0, xi (V 86 0 (l4.toNat))] V) (fun x2 V1 =>
                if x2 = 0 then
                  if (w32 (l3 + 1)) = (w32 (l2 + 1)) then
                    ci (Yf d 211 [xi l4] V1) (fun x4 V3 =>
                      some (xi x4, V3))
                  else
                    Xf d 242 66 [xr 14 0, xi l1, xi l2, xi (w32 (l3 + 1)), xi (w32 (l4 + 1))] [] V1
                else
                  Xf d 242 66 [xr 14 0, xi l1, xi l2, xi l3, xi (w32 (l4 + 1))] [] V1)
            else
              none
          else
            Xf d 242 66 [xr 14 0, xi l1, xi l2, xi l3, xi (w32 (l4 + 1))] [] V
        else
          none
      else
        Xf d 242 66 [xr 14 0, xi l1, xi l2, xi l3, xi (w32 (l4 + 1))] [] V
    else
      none
  else
    ci (Yf d 210 [xr 14 0, xi 5, xi l1, xi l2, xi 0] V) (fun x6 V5 =>
      if 0 ≤ l1 ∧ l1 < 64 then
        if 0 ≤ l1 ∧ l1 < 64 then
          some (xi ((xu V5 82 0 (l1.toNat) x6) 82 0 (l1.toNat)), (xu V5 82 0 (l1.toNat) x6))
        else
          none
      else
        none) := Xx_es [66] P_X12_most 2 _ _ _ V
set_option maxRecDepth 100000 in
theorem s_X12_isUnsettled (d : Nat) (V : XM) (a : Int) : Yf (d + 1) 243 [xr 14 0, xi a] V =
    if 0 ≤ a ∧ a < 64 then
    if (cmp3 (V 81 0 (a.toNat)) 0) = 0 then
      some (xi 0, V)
    else
      if 0 ≤ a ∧ a < 64 then
        if (V 80 0 (a.toNat)) = 0 then
          some (xi 1, V)
        else
          some (xi 0, V)
      else
        none
  else
    none := Xc_es [] P_X12_isUnsettled 3 _ V
set_option maxRecDepth 100000 in
theorem s_X12_unsettled (d : Nat) (V : XM) : Yf (d + 1) 244 [xr 14 0] V =
    Xf d 244 4 [xr 14 0, xi 0, xi 0] [] V := Xc_es [4] P_X12_unsettled 1 _ V
set_option maxRecDepth 100000 in
theorem s_X12_unsettled_4 (d : Nat) (V : XM) (l1 : Int) (l2 : Int) : Xf d 244 4 [xr 14 0, xi l1, xi l2] [] V =
    if l2 < (V 14 0 9) then
    ci (Yf d 243 [xr 14 0, xi l2] V) (fun x2 V1 =>
      if x2 = 0 then
        Xf d 244 4 [xr 14 0, xi (w32 (l1 + 0)), xi (w32 (l2 + 1))] [] V1
      else
        Xf d 244 4 [xr 14 0, xi (w32 (l1 + 1)), xi (w32 (l2 + 1))] [] V1)
  else
    some (xi l1, V) := Xx_es [4] P_X12_unsettled 3 _ _ _ V
set_option maxRecDepth 100000 in
theorem s_X12_keeps (d : Nat) (V : XM) : Yf (d + 1) 245 [xr 14 0] V =
    Xf d 245 2 [xr 14 0, xi 0, xr 0 0, xr 0 0, xr 0 0] [] V := Xc_es [2, 19, 67, 135] P_X12_keeps 1 _ V
set_option maxRecDepth 100000 in
theorem s_X12_keeps_2 (d : Nat) (V : XM) (l1 : Int) : Xf d 245 2 [xr 14 0, xi l1, xr 0 0, xr 0 0, xr 0 0] [] V =
    if l1 < (V 14 0 9) then
    if 0 ≤ l1 ∧ l1 < 64 then
      Xf d 245 19 [xr 14 0, xi l1, xi (V 89 0 (l1.toNat)), xi 0, xr 0 0] [] V
    else
      none
  else
    Xf d 245 135 [xr 14 0, xi 0, xr 0 0, xr 0 0, xr 0 0] [] V := Xx_es [2, 19, 67, 135] P_X12_keeps 2 _ _ _ V
set_option maxRecDepth 100000 in
theorem s_X12_keeps_135 (d : Nat) (V : XM) (l1 : Int) : Xf d 245 135 [xr 14 0, xi l1, xr 0 0, xr 0 0, xr 0 0] [] V =
    if l1 < (V 14 0 22) then
    if 0 ≤ l1 ∧ l1 < 300 then
      if (V 85 0 (l1.toNat)) = 4 then
        if 0 ≤ l1 ∧ l1 < 300 then
          if 0 ≤ V 86 0 (l1.toNat) ∧ V 86 0 (l1.toNat) < 64 then
            if 0 ≤ l1 ∧ l1 < 300 then
              if 0 ≤ V 87 0 (l1.toNat) ∧ V 87 0 (l1.toNat) < 64 then
                if (V 89 0 ((V 86 0 (l1.toNat)).toNat)) = (-9) then
                  Xf d 245 135 [xr 14 0, xi (w32 (l1 + 1)), xr 0 0, xr 0 0, xr 0 0] [] V
                else
                  if (V 89 0 ((V 87 0 (l1.toNat)).toNat)) = (-9) then
                    Xf d 245 135 [xr 14 0, xi (w32 (l1 + 1)), xr 0 0, xr 0 0, xr 0 0] [] V
                  else
                    if (V 89 0 ((V 86 0 (l1.toNat)).toNat)) = (V 89 0 ((V 87 0 (l1.toNat)).toNat)) then
                      if 0 ≤ l1 ∧ l1 < 300 then
                        if (V 88 0 (l1.toNat)) = 1 then
                          Xf d 245 135 [xr 14 0, xi (w32 (l1 + 1)), xr 0 0, xr 0 0, xr 0 0] [] V
                        else
                          some (xi 0, V)
                      else
                        none
                    else
                      if 0 ≤ l1 ∧ l1 < 300 then
                        if (V 88 0 (l1.toNat)) = 1 then
                          some (xi 0, V)
                        else
                          Xf d 245 135 [xr 14 0, xi (w32 (l1 + 1)), xr 0 0, xr 0 0, xr 0 0] [] V
                      else
                        none
              else
                none
            else
              none
          else
            none
        else
          none
      else
        Xf d 245 135 [xr 14 0, xi (w32 (l1 + 1)), xr 0 0, xr 0 0, xr 0 0] [] V
    else
      none
  else
    some (xi 1, V) := Xx_es [2, 19, 67, 135] P_X12_keeps 6 _ _ _ V
set_option maxRecDepth 100000 in
theorem s_X12_keeps_19 (d : Nat) (V : XM) (l1 : Int) (l2 : Int) (l3 : Int) : Xf d 245 19 [xr 14 0, xi l1, xi l2, xi l3, xr 0 0] [] V =
    if l3 < 65 then
    if l2 = (-9) then
      if 0 ≤ l1 ∧ l1 < 64 then
        if (V 82 0 (l1.toNat)) = (-9) then
          Xf d 245 2 [xr 14 0, xi (w32 (l1 + 1)), xr 0 0, xr 0 0, xr 0 0] [] V
        else
          Xf d 245 67 [xr 14 0, xi l1, xr 0 0, xi 0, xi 0] [] V
      else
        none
    else
      if l2 = l1 then
        some (xi 0, V)
      else
        if 0 ≤ l2 ∧ l2 < 64 then
          Xf d 245 19 [xr 14 0, xi l1, xi (V 89 0 (l2.toNat)), xi (w32 (l3 + 1)), xr 0 0] [] V
        else
          none
  else
    if 0 ≤ l1 ∧ l1 < 64 then
      if (V 82 0 (l1.toNat)) = (-9) then
        Xf d 245 2 [xr 14 0, xi (w32 (l1 + 1)), xr 0 0, xr 0 0, xr 0 0] [] V
      else
        Xf d 245 67 [xr 14 0, xi l1, xr 0 0, xi 0, xi 0] [] V
    else
      none := Xx_es [2, 19, 67, 135] P_X12_keeps 3 _ _ _ V
set_option maxRecDepth 100000 in
theorem s_X12_keeps_67 (d : Nat) (V : XM) (l1 : Int) (l3 : Int) (l4 : Int) : Xf d 245 67 [xr 14 0, xi l1, xr 0 0, xi l3, xi l4] [] V =
    if l4 < (V 14 0 9) then
    ci (Yf d 208 [xr 14 0, xi l4] V) (fun x2 V1 =>
      if x2 = 0 then
        if 0 ≤ l4 ∧ l4 < 64 then
          if (V1 89 0 (l4.toNat)) = l1 then
            Xf d 245 67 [xr 14 0, xi l1, xr 0 0, xi (w32 (l3 + 1)), xi (w32 (l4 + 1))] [] V1
          else
            Xf d 245 67 [xr 14 0, xi l1, xr 0 0, xi (w32 (l3 + 0)), xi (w32 (l4 + 1))] [] V1
        else
          none
      else
        Xf d 245 67 [xr 14 0, xi l1, xr 0 0, xi (w32 (l3 + 0)), xi (w32 (l4 + 1))] [] V1)
  else
    if 0 ≤ l1 ∧ l1 < 64 then
      if 0 ≤ V 82 0 (l1.toNat) ∧ V 82 0 (l1.toNat) < 300 then
        if (V 87 0 ((V 82 0 (l1.toNat)).toNat)) < l3 then
          some (xi 0, V)
        else
          Xf d 245 2 [xr 14 0, xi (w32 (l1 + 1)), xr 0 0, xr 0 0, xr 0 0] [] V
      else
        none
    else
      none := Xx_es [2, 19, 67, 135] P_X12_keeps 3 _ _ _ V
set_option maxRecDepth 100000 in
theorem s_X12_lowest (d : Nat) (V : XM) (a : Int) : Yf (d + 1) 246 [xl a] V =
    Xf d 246 2 [xl a, xr 0 0, xi 0] [] V := Xc_es [2] P_X12_lowest 1 _ V
set_option maxRecDepth 100000 in
theorem s_X12_lowest_2 (d : Nat) (V : XM) (l0 : Int) (l2 : Int) : Xf d 246 2 [xl l0, xr 0 0, xi l2] [] V =
    if (cmp3 (lAnd (lUshr l0 l2) 1) 0) = 0 then
    Xf d 246 2 [xl l0, xr 0 0, xi (w32 (l2 + 1))] [] V
  else
    some (xi l2, V) := Xx_es [2] P_X12_lowest 2 _ _ _ V
set_option maxRecDepth 100000 in
theorem s_X12_many (d : Nat) (V : XM) (a : Int) : Yf (d + 1) 247 [xl a] V =
    Xf d 247 4 [xl a, xr 0 0, xi 0, xi 0] [] V := Xc_es [4] P_X12_many 1 _ V
set_option maxRecDepth 100000 in
theorem s_X12_many_4 (d : Nat) (V : XM) (l0 : Int) (l2 : Int) (l3 : Int) : Xf d 247 4 [xl l0, xr 0 0, xi l2, xi l3] [] V =
    if l3 < 64 then
    if (cmp3 (lAnd (lUshr l0 l3) 1) 1) = 0 then
      Xf d 247 4 [xl l0, xr 0 0, xi (w32 (l2 + 1)), xi (w32 (l3 + 1))] [] V
    else
      Xf d 247 4 [xl l0, xr 0 0, xi (w32 (l2 + 0)), xi (w32 (l3 + 1))] [] V
  else
    some (xi l2, V) := Xx_es [4] P_X12_many 3 _ _ _ V
set_option maxRecDepth 100000 in
theorem s_X12_goesOn (d : Nat) (V : XM) : Yf (d + 1) 248 [xr 14 0] V =
    Xf d 248 7 [xr 14 0, xi (w32 ((V 14 0 9) - 1)), xr 0 0, xr 0 0] [] V := Xc_es [7] P_X12_goesOn 1 _ V
set_option maxRecDepth 100000 in
theorem s_X12_goesOn_7 (d : Nat) (V : XM) (l1 : Int) : Xf d 248 7 [xr 14 0, xi l1, xr 0 0, xr 0 0] [] V =
    if l1 < 0 then
    some (xi 0, V)
  else
    ci (Yf d 243 [xr 14 0, xi l1] V) (fun x2 V1 =>
      if x2 = 0 then
        Xf d 248 7 [xr 14 0, xi (w32 (l1 + (-1))), xr 0 0, xr 0 0] [] V1
      else
        if 0 ≤ l1 ∧ l1 < 64 then
          if 0 ≤ l1 ∧ l1 < 64 then
            if (cmp3 (lUshr (lUshr (V1 81 0 (l1.toNat)) (V1 89 0 (l1.toNat))) 1) 0) = 0 then
              if 0 ≤ l1 ∧ l1 < 64 then
                ci (Yf d 246 [xl (V1 81 0 (l1.toNat))] V1) (fun x4 V3 =>
                  if 0 ≤ l1 ∧ l1 < 64 then
                    Xf d 248 7 [xr 14 0, xi (w32 (l1 + (-1))), xr 0 0, xr 0 0] [] (xu V3 89 0 (l1.toNat) x4)
                  else
                    none)
              else
                none
            else
              if 0 ≤ l1 ∧ l1 < 64 then
                ci (Yf d 246 [xl (lUshr (lUshr (V1 81 0 (l1.toNat)) (V1 89 0 (l1.toNat))) 1)] V1) (fun x6 V5 =>
                  if 0 ≤ l1 ∧ l1 < 64 then
                    some (xi 1, (xu V5 89 0 (l1.toNat) (w32 ((w32 ((V1 89 0 (l1.toNat)) + 1)) + x6))))
                  else
                    none)
              else
                none
          else
            none
        else
          none) := Xx_es [7] P_X12_goesOn 3 _ _ _ V
set_option maxRecDepth 100000 in
theorem s_X12_settle (d : Nat) (V : XM) : Yf (d + 1) 249 [xr 14 0] V =
    ci (Yf d 244 [xr 14 0] V) (fun x2 V1 =>
    Xf d 249 10 [xr 14 0, xi x2, xl 1, xr 0 0, xi 0, xr 0 0, xr 0 0] [] V1) := Xc_es [10, 95, 162, 194] P_X12_settle 1 _ V
set_option maxRecDepth 100000 in
theorem s_X12_settle_10 (d : Nat) (V : XM) (l1 : Int) (l2 : Int) (l4 : Int) : Xf d 249 10 [xr 14 0, xi l1, xl l2, xr 0 0, xi l4, xr 0 0, xr 0 0] [] V =
    if l4 < (V 14 0 9) then
    ci (Yf d 243 [xr 14 0, xi l4] V) (fun x2 V1 =>
      if x2 = 0 then
        Xf d 249 10 [xr 14 0, xi l1, xl l2, xr 0 0, xi (w32 (l4 + 1)), xr 0 0, xr 0 0] [] V1
      else
        if 0 < (cmp3 l2 3000) then
          Xf d 249 10 [xr 14 0, xi l1, xl l2, xr 0 0, xi (w32 (l4 + 1)), xr 0 0, xr 0 0] [] V1
        else
          if 0 ≤ l4 ∧ l4 < 64 then
            ci (Yf d 247 [xl (V1 81 0 (l4.toNat))] V1) (fun x4 V3 =>
              Xf d 249 10 [xr 14 0, xi l1, xl (w64 (l2 * x4)), xr 0 0, xi (w32 (l4 + 1)), xr 0 0, xr 0 0] [] V3)
          else
            none)
  else
    if 7 < l1 then
      some (xi (-3), V)
    else
      if 0 < (cmp3 l2 3000) then
        some (xi (-3), V)
      else
        if 300 < (w32 ((V 14 0 22) + l1)) then
          some (xi (-4), V)
        else
          Xf d 249 95 [xr 14 0, xi l1, xr 0 0, xr 0 0, xi 0, xr 0 0, xr 0 0] [] V := Xx_es [10, 95, 162, 194] P_X12_settle 4 _ _ _ V
set_option maxRecDepth 100000 in
theorem s_X12_settle_95 (d : Nat) (V : XM) (l1 : Int) (l4 : Int) : Xf d 249 95 [xr 14 0, xi l1, xr 0 0, xr 0 0, xi l4, xr 0 0, xr 0 0] [] V =
    if l4 < (V 14 0 9) then
    ci (Yf d 243 [xr 14 0, xi l4] V) (fun x2 V1 =>
      if x2 = 0 then
        ci (Yf d 208 [xr 14 0, xi l4] V1) (fun x4 V3 =>
          if x4 = 0 then
            ci (Yf d 215 [xr 14 0, xi l4] V3) (fun x6 V5 =>
              if 0 ≤ l4 ∧ l4 < 64 then
                Xf d 249 95 [xr 14 0, xi l1, xr 0 0, xr 0 0, xi (w32 (l4 + 1)), xr 0 0, xr 0 0] [] (xu V5 89 0 (l4.toNat) x6)
              else
                none)
          else
            if 0 ≤ l4 ∧ l4 < 64 then
              Xf d 249 95 [xr 14 0, xi l1, xr 0 0, xr 0 0, xi (w32 (l4 + 1)), xr 0 0, xr 0 0] [] (xu V3 89 0 (l4.toNat) (-9))
            else
              none)
      else
        if 0 ≤ l4 ∧ l4 < 64 then
          ci (Yf d 246 [xl (V1 81 0 (l4.toNat))] V1) (fun x8 V7 =>
            if 0 ≤ l4 ∧ l4 < 64 then
              Xf d 249 95 [xr 14 0, xi l1, xr 0 0, xr 0 0, xi (w32 (l4 + 1)), xr 0 0, xr 0 0] [] (xu V7 89 0 (l4.toNat) x8)
            else
              none)
        else
          none)
  else
    Xf d 249 162 [xr 14 0, xi l1, xr 0 0, xr 0 0, xi 1, xr 0 0, xr 0 0] [] V := Xx_es [10, 95, 162, 194] P_X12_settle 4 _ _ _ V
set_option maxRecDepth 100000 in
theorem s_X12_settle_162 (d : Nat) (V : XM) (l1 : Int) (l4 : Int) : Xf d 249 162 [xr 14 0, xi l1, xr 0 0, xr 0 0, xi l4, xr 0 0, xr 0 0] [] V =
    if l4 = 0 then
    if l4 = 0 then
      some (xi (-5), V)
    else
      Xf d 249 194 [xr 14 0, xi l1, xr 0 0, xr 0 0, xr 0 0, xi 0, xr 0 0] [] V
  else
    ci (Yf d 245 [xr 14 0] V) (fun x2 V1 =>
      if x2 = 0 then
        ci (Yf d 248 [xr 14 0] V1) (fun x4 V3 =>
          Xf d 249 162 [xr 14 0, xi l1, xr 0 0, xr 0 0, xi x4, xr 0 0, xr 0 0] [] V3)
      else
        if l4 = 0 then
          some (xi (-5), V1)
        else
          Xf d 249 194 [xr 14 0, xi l1, xr 0 0, xr 0 0, xr 0 0, xi 0, xr 0 0] [] V1) := Xx_es [10, 95, 162, 194] P_X12_settle 3 _ _ _ V
set_option maxRecDepth 100000 in
theorem s_X12_settle_194 (d : Nat) (V : XM) (l1 : Int) (l5 : Int) : Xf d 249 194 [xr 14 0, xi l1, xr 0 0, xr 0 0, xr 0 0, xi l5, xr 0 0] [] V =
    if l5 < (V 14 0 9) then
    ci (Yf d 243 [xr 14 0, xi l5] V) (fun x2 V1 =>
      if x2 = 0 then
        Xf d 249 194 [xr 14 0, xi l1, xr 0 0, xr 0 0, xr 0 0, xi (w32 (l5 + 1)), xr 0 0] [] V1
      else
        if 0 ≤ l5 ∧ l5 < 64 then
          ci (Yf d 220 [xr 14 0, xi l5, xi (V1 89 0 (l5.toNat))] V1) (fun x4 V3 =>
            Xf d 249 194 [xr 14 0, xi l1, xr 0 0, xr 0 0, xr 0 0, xi (w32 (l5 + 1)), xr 0 0] [] V3)
        else
          none)
  else
    some (xi l1, V) := Xx_es [10, 95, 162, 194] P_X12_settle 2 _ _ _ V
set_option maxRecDepth 100000 in
theorem s_X12_set (d : Nat) (V : XM) (a : Int) : Yf (d + 1) 250 [xr 14 0, xi a] V =
    ci (Yf d 203 [xr 14 0, xl a] V) (fun x2 V1 =>
    if x2 = 0 then
      some (xl 0, V1)
    else
      if 0 ≤ a ∧ a < 64 then
        some (xl (V1 81 0 (a.toNat)), V1)
      else
        none) := Xc_es [] P_X12_set 3 _ V
set_option maxRecDepth 100000 in
theorem s_X12_isRelation (d : Nat) (V : XM) (a : Int) : Yf (d + 1) 251 [xr 14 0, xi a] V =
    ci (Yf d 189 [xl a, xl 0, xl (w32 ((V 14 0 29) - 1))] V) (fun x2 V1 =>
    if x2 = 0 ∨ x2 = 1 then
      some (xi x2, V1)
    else
      none) := Xc_es [] P_X12_isRelation 1 _ V
set_option maxRecDepth 100000 in
theorem s_X12_groupUp (d : Nat) (V : XM) (a : Int) (b : Int) : Yf (d + 1) 252 [xr 14 0, xi a, xi b] V =
    Xf d 252 2 [xr 14 0, xi a, xi b, xi 0, xr 0 0, xr 0 0, xr 0 0] [] V := Xc_es [2, 25, 105] P_X12_groupUp 1 _ V
set_option maxRecDepth 100000 in
theorem s_X12_groupUp_2 (d : Nat) (V : XM) (l1 : Int) (l2 : Int) (l3 : Int) : Xf d 252 2 [xr 14 0, xi l1, xi l2, xi l3, xr 0 0, xr 0 0, xr 0 0] [] V =
    if l3 < (V 14 0 9) then
    if 0 ≤ l3 ∧ l3 < 64 then
      Xf d 252 2 [xr 14 0, xi l1, xi l2, xi (w32 (l3 + 1)), xr 0 0, xr 0 0, xr 0 0] [] (xu V 91 0 (l3.toNat) l3)
    else
      none
  else
    Xf d 252 25 [xr 14 0, xi l1, xi l2, xi 0, xr 0 0, xr 0 0, xr 0 0] [] V := Xx_es [2, 25, 105] P_X12_groupUp 2 _ _ _ V
set_option maxRecDepth 100000 in
theorem s_X12_groupUp_25 (d : Nat) (V : XM) (l1 : Int) (l2 : Int) (l3 : Int) : Xf d 252 25 [xr 14 0, xi l1, xi l2, xi l3, xr 0 0, xr 0 0, xr 0 0] [] V =
    if l3 < l2 then
    if 0 ≤ l3 ∧ l3 < 300 then
      if (V 85 0 (l3.toNat)) = 6 then
        if 0 ≤ l3 ∧ l3 < 300 then
          if (V 86 0 (l3.toNat)) = l1 then
            if 0 ≤ l3 ∧ l3 < 300 then
              if 0 ≤ V 87 0 (l3.toNat) ∧ V 87 0 (l3.toNat) < 64 then
                if 0 ≤ l3 ∧ l3 < 300 then
                  if 0 ≤ V 88 0 (l3.toNat) ∧ V 88 0 (l3.toNat) < 64 then
                    if (V 91 0 ((V 87 0 (l3.toNat)).toNat)) = (V 91 0 ((V 88 0 (l3.toNat)).toNat)) then
                      Xf d 252 25 [xr 14 0, xi l1, xi l2, xi (w32 (l3 + 1)), xr 0 0, xr 0 0, xr 0 0] [] V
                    else
                      if 0 ≤ l3 ∧ l3 < 300 then
                        if 0 ≤ V 88 0 (l3.toNat) ∧ V 88 0 (l3.toNat) < 64 then
                          if 0 ≤ l3 ∧ l3 < 300 then
                            if 0 ≤ V 87 0 (l3.toNat) ∧ V 87 0 (l3.toNat) < 64 then
                              Xf d 252 105 [xr 14 0, xi l1, xi l2, xi l3, xi (V 91 0 ((V 88 0 (l3.toNat)).toNat)), xi (V 91 0 ((V 87 0 (l3.toNat)).toNat)), xi 0] [] V
                            else
                              none
                          else
                            none
                        else
                          none
                      else
                        none
                  else
                    none
                else
                  none
              else
                none
            else
              none
          else
            Xf d 252 25 [xr 14 0, xi l1, xi l2, xi (w32 (l3 + 1)), xr 0 0, xr 0 0, xr 0 0] [] V
        else
          none
      else
        Xf d 252 25 [xr 14 0, xi l1, xi l2, xi (w32 (l3 + 1)), xr 0 0, xr 0 0, xr 0 0] [] V
    else
      none
  else
    some (xi 0, V) := Xx_es [2, 25, 105] P_X12_groupUp 2 _ _ _ V
set_option maxRecDepth 100000 in
theorem s_X12_groupUp_105 (d : Nat) (V : XM) (l1 : Int) (l2 : Int) (l3 : Int) (l4 : Int) (l5 : Int) (l6 : Int) : Xf d 252 105 [xr 14 0, xi l1, xi l2, xi l3, xi l4, xi l5, xi l6] [] V =
    if l6 < (V 14 0 9) then
    if 0 ≤ l6 ∧ l6 < 64 then
      if (V 91 0 (l6.toNat)) = l4 then
        if 0 ≤ l6 ∧ l6 < 64 then
          Xf d 252 105 [xr 14 0, xi l1, xi l2, xi l3, xi l4, xi l5, xi (w32 (l6 + 1))] [] (xu V 91 0 (l6.toNat) l5)
        else
          none
      else
        if 0 ≤ l6 ∧ l6 < 64 then
          if 0 ≤ l6 ∧ l6 < 64 then
            Xf d 252 105 [xr 14 0, xi l1, xi l2, xi l3, xi l4, xi l5, xi (w32 (l6 + 1))] [] (xu V 91 0 (l6.toNat) (V 91 0 (l6.toNat)))
          else
            none
        else
          none
    else
      none
  else
    Xf d 252 25 [xr 14 0, xi l1, xi l2, xi (w32 (l3 + 1)), xr 0 0, xr 0 0, xr 0 0] [] V := Xx_es [2, 25, 105] P_X12_groupUp 3 _ _ _ V
set_option maxRecDepth 100000 in
theorem s_X12_told (d : Nat) (V : XM) (a : Int) (b : Int) (c : Int) (e : Int) : Yf (d + 1) 253 [xr 14 0, xi a, xi b, xi c, xi e] V =
    Xf d 253 3 [xr 14 0, xi a, xi b, xi c, xi e, xi 0] [] V := Xc_es [3] P_X12_told 1 _ V
set_option maxRecDepth 100000 in
theorem s_X12_told_3 (d : Nat) (V : XM) (l1 : Int) (l2 : Int) (l3 : Int) (l4 : Int) (l5 : Int) : Xf d 253 3 [xr 14 0, xi l1, xi l2, xi l3, xi l4, xi l5] [] V =
    if l5 < (V 14 0 22) then
    if 0 ≤ l5 ∧ l5 < 300 then
      if (V 85 0 (l5.toNat)) = l1 then
        if 0 ≤ l5 ∧ l5 < 300 then
          if (V 86 0 (l5.toNat)) = l2 then
            if 0 ≤ l5 ∧ l5 < 300 then
              if (V 87 0 (l5.toNat)) = l3 then
                if 0 ≤ l5 ∧ l5 < 300 then
                  if (V 88 0 (l5.toNat)) = l4 then
                    some (xi l5, V)
                  else
                    Xf d 253 3 [xr 14 0, xi l1, xi l2, xi l3, xi l4, xi (w32 (l5 + 1))] [] V
                else
                  none
              else
                Xf d 253 3 [xr 14 0, xi l1, xi l2, xi l3, xi l4, xi (w32 (l5 + 1))] [] V
            else
              none
          else
            Xf d 253 3 [xr 14 0, xi l1, xi l2, xi l3, xi l4, xi (w32 (l5 + 1))] [] V
        else
          none
      else
        Xf d 253 3 [xr 14 0, xi l1, xi l2, xi l3, xi l4, xi (w32 (l5 + 1))] [] V
    else
      none
  else
    some (xi (-9), V) := Xx_es [3] P_X12_told 2 _ _ _ V
set_option maxRecDepth 100000 in
theorem s_X12_earlier (d : Nat) (V : XM) (a : Int) (b : Int) : Yf (d + 1) 254 [xi a, xi b] V =
    if a = (-9) then
    some (xi b, V)
  else
    if b = (-9) then
      some (xi a, V)
    else
      if a < b then
        some (xi a, V)
      else
        some (xi b, V) := Xc_es [] P_X12_earlier 4 _ V
set_option maxRecDepth 100000 in
theorem s_X12_hasBy (d : Nat) (V : XM) (a : Int) (b : Int) (c : Int) : Yf (d + 1) 255 [xr 14 0, xi a, xi b, xi c] V =
    if 0 ≤ a ∧ a < 8 then
    if (V 90 0 (a.toNat)) = 5 then
      cv (Yf d 252 [xr 14 0, xi a, xi (V 14 0 22)] V) (fun V1 =>
        if 0 ≤ b ∧ b < 64 then
          if 0 ≤ c ∧ c < 64 then
            if (V1 91 0 (b.toNat)) = (V1 91 0 (c.toNat)) then
              Xf d 255 40 [xr 14 0, xi a, xi b, xi c, xi 0] [] V1
            else
              some (xi (-9), V1)
          else
            none
        else
          none)
    else
      ci (Yf d 253 [xr 14 0, xi 6, xi a, xi b, xi c] V) (fun x3 V2 =>
        if 0 ≤ a ∧ a < 8 then
          if (V2 90 0 (a.toNat)) = 4 then
            ci (Yf d 253 [xr 14 0, xi 6, xi a, xi c, xi b] V2) (fun x5 V4 =>
              ci (Yf d 254 [xi x3, xi x5] V4) (fun x7 V6 =>
                some (xi x7, V6)))
          else
            some (xi x3, V2)
        else
          none)
  else
    none := Xc_es [40] P_X12_hasBy 4 _ V
set_option maxRecDepth 100000 in
theorem s_X12_hasBy_40 (d : Nat) (V : XM) (l1 : Int) (l2 : Int) (l3 : Int) (l4 : Int) : Xf d 255 40 [xr 14 0, xi l1, xi l2, xi l3, xi l4] [] V =
    cv (Yf d 252 [xr 14 0, xi l1, xi (w32 (l4 + 1))] V) (fun V1 =>
    if 0 ≤ l2 ∧ l2 < 64 then
      if 0 ≤ l3 ∧ l3 < 64 then
        if (V1 91 0 (l2.toNat)) = (V1 91 0 (l3.toNat)) then
          some (xi (w32 ((w32 (l4 + 1)) - 1)), V1)
        else
          Xf d 255 40 [xr 14 0, xi l1, xi l2, xi l3, xi (w32 (l4 + 1))] [] V1
      else
        none
    else
      none) := Xx_es [40] P_X12_hasBy 1 _ _ _ V
set_option maxRecDepth 100000 in
theorem s_X12_has (d : Nat) (V : XM) (a : Int) (b : Int) (c : Int) : Yf (d + 1) 256 [xr 14 0, xi a, xi b, xi c] V =
    if b = c then
    if 0 ≤ a ∧ a < 8 then
      if (V 90 0 (a.toNat)) = 5 then
        some (xi 1, V)
      else
        some (xi 0, V)
    else
      none
  else
    ci (Yf d 255 [xr 14 0, xi a, xi b, xi c] V) (fun x2 V1 =>
      if x2 = (-9) then
        some (xi 0, V1)
      else
        some (xi 1, V1)) := Xc_es [] P_X12_has 4 _ V
set_option maxRecDepth 100000 in
theorem s_X12_deniedBy (d : Nat) (V : XM) (a : Int) (b : Int) (c : Int) : Yf (d + 1) 257 [xr 14 0, xi a, xi b, xi c] V =
    if 0 ≤ a ∧ a < 8 then
    if (V 90 0 (a.toNat)) = 5 then
      cv (Yf d 252 [xr 14 0, xi a, xi (V 14 0 22)] V) (fun V1 =>
        Xf d 257 22 [xr 14 0, xi a, xi b, xi c, xi 0] [] V1)
    else
      ci (Yf d 253 [xr 14 0, xi 7, xi a, xi b, xi c] V) (fun x3 V2 =>
        if 0 ≤ a ∧ a < 8 then
          if (V2 90 0 (a.toNat)) = 4 then
            ci (Yf d 253 [xr 14 0, xi 7, xi a, xi c, xi b] V2) (fun x5 V4 =>
              ci (Yf d 254 [xi x3, xi x5] V4) (fun x7 V6 =>
                some (xi x7, V6)))
          else
            some (xi x3, V2)
        else
          none)
  else
    none := Xc_es [22] P_X12_deniedBy 4 _ V
set_option maxRecDepth 100000 in
theorem s_X12_deniedBy_22 (d : Nat) (V : XM) (l1 : Int) (l2 : Int) (l3 : Int) (l4 : Int) : Xf d 257 22 [xr 14 0, xi l1, xi l2, xi l3, xi l4] [] V =
    if l4 < (V 14 0 22) then
    if 0 ≤ l4 ∧ l4 < 300 then
      if (V 85 0 (l4.toNat)) = 7 then
        if 0 ≤ l4 ∧ l4 < 300 then
          if (V 86 0 (l4.toNat)) = l1 then
            if 0 ≤ l4 ∧ l4 < 300 then
              if 0 ≤ V 87 0 (l4.toNat) ∧ V 87 0 (l4.toNat) < 64 then
                if 0 ≤ l2 ∧ l2 < 64 then
                  if (V 91 0 ((V 87 0 (l4.toNat)).toNat)) = (V 91 0 (l2.toNat)) then
                    if 0 ≤ l4 ∧ l4 < 300 then
                      if 0 ≤ V 88 0 (l4.toNat) ∧ V 88 0 (l4.toNat) < 64 then
                        if 0 ≤ l3 ∧ l3 < 64 then
                          if (V 91 0 ((V 88 0 (l4.toNat)).toNat)) = (V 91 0 (l3.toNat)) then
                            some (xi l4, V)
                          else
                            if 0 ≤ l4 ∧ l4 < 300 then
                              if 0 ≤ V 87 0 (l4.toNat) ∧ V 87 0 (l4.toNat) < 64 then
                                if 0 ≤ l3 ∧ l3 < 64 then
                                  if (V 91 0 ((V 87 0 (l4.toNat)).toNat)) = (V 91 0 (l3.toNat)) then
                                    if 0 ≤ l4 ∧ l4 < 300 then
                                      if 0 ≤ V 88 0 (l4.toNat) ∧ V 88 0 (l4.toNat) < 64 then
                                        if 0 ≤ l2 ∧ l2 < 64 then
                                          if (V 91 0 ((V 88 0 (l4.toNat)).toNat)) = (V 91 0 (l2.toNat)) then
                                            some (xi l4, V)
                                          else
                                            Xf d 257 22 [xr 14 0, xi l1, xi l2, xi l3, xi (w32 (l4 + 1))] [] V
                                        else
                                          none
                                      else
                                        none
                                    else
                                      none
                                  else
                                    Xf d 257 22 [xr 14 0, xi l1, xi l2, xi l3, xi (w32 (l4 + 1))] [] V
                                else
                                  none
                              else
                                none
                            else
                              none
                        else
                          none
                      else
                        none
                    else
                      none
                  else
                    if 0 ≤ l4 ∧ l4 < 300 then
                      if 0 ≤ V 87 0 (l4.toNat) ∧ V 87 0 (l4.toNat) < 64 then
                        if 0 ≤ l3 ∧ l3 < 64 then
                          if (V 91 0 ((V 87 0 (l4.toNat)).toNat)) = (V 91 0 (l3.toNat)) then
                            if 0 ≤ l4 ∧ l4 < 300 then
                              if 0 ≤ V 88 0 (l4.toNat) ∧ V 88 0 (l4.toNat) < 64 then
                                if 0 ≤ l2 ∧ l2 < 64 then
                                  if (V 91 0 ((V 88 0 (l4.toNat)).toNat)) = (V 91 0 (l2.toNat)) then
                                    some (xi l4, V)
                                  else
                                    Xf d 257 22 [xr 14 0, xi l1, xi l2, xi l3, xi (w32 (l4 + 1))] [] V
                                else
                                  none
                              else
                                none
                            else
                              none
                          else
                            Xf d 257 22 [xr 14 0, xi l1, xi l2, xi l3, xi (w32 (l4 + 1))] [] V
                        else
                          none
                      else
                        none
                    else
                      none
                else
                  none
              else
                none
            else
              none
          else
            Xf d 257 22 [xr 14 0, xi l1, xi l2, xi l3, xi (w32 (l4 + 1))] [] V
        else
          none
      else
        Xf d 257 22 [xr 14 0, xi l1, xi l2, xi l3, xi (w32 (l4 + 1))] [] V
    else
      none
  else
    some (xi (-9), V) := Xx_es [22] P_X12_deniedBy 3 _ _ _ V
set_option maxRecDepth 100000 in
theorem s_X12_oneOnly (d : Nat) (V : XM) (a : Int) (b : Int) (c : Int) : Yf (d + 1) 258 [xr 14 0, xi a, xi b, xi c] V =
    if 0 ≤ a ∧ a < 8 then
    Xf d 258 11 [xr 14 0, xi a, xi b, xi c, xi (V 90 0 (a.toNat)), xi 0] [] V
  else
    none := Xc_es [11, 77] P_X12_oneOnly 1 _ V
set_option maxRecDepth 100000 in
theorem s_X12_oneOnly_11 (d : Nat) (V : XM) (l1 : Int) (l2 : Int) (l3 : Int) (l4 : Int) (l5 : Int) : Xf d 258 11 [xr 14 0, xi l1, xi l2, xi l3, xi l4, xi l5] [] V =
    if l5 < (V 14 0 22) then
    if l4 = 0 then
      if 0 ≤ l5 ∧ l5 < 300 then
        if (V 85 0 (l5.toNat)) = 6 then
          if 0 ≤ l5 ∧ l5 < 300 then
            if (V 86 0 (l5.toNat)) = l1 then
              if 0 ≤ l5 ∧ l5 < 300 then
                if (V 87 0 (l5.toNat)) = l2 then
                  some (xi l5, V)
                else
                  Xf d 258 11 [xr 14 0, xi l1, xi l2, xi l3, xi l4, xi (w32 (l5 + 1))] [] V
              else
                none
            else
              Xf d 258 11 [xr 14 0, xi l1, xi l2, xi l3, xi l4, xi (w32 (l5 + 1))] [] V
          else
            none
        else
          Xf d 258 11 [xr 14 0, xi l1, xi l2, xi l3, xi l4, xi (w32 (l5 + 1))] [] V
      else
        none
    else
      if l4 = 2 then
        if 0 ≤ l5 ∧ l5 < 300 then
          if (V 85 0 (l5.toNat)) = 6 then
            if 0 ≤ l5 ∧ l5 < 300 then
              if (V 86 0 (l5.toNat)) = l1 then
                if 0 ≤ l5 ∧ l5 < 300 then
                  if (V 87 0 (l5.toNat)) = l2 then
                    some (xi l5, V)
                  else
                    Xf d 258 11 [xr 14 0, xi l1, xi l2, xi l3, xi l4, xi (w32 (l5 + 1))] [] V
                else
                  none
              else
                Xf d 258 11 [xr 14 0, xi l1, xi l2, xi l3, xi l4, xi (w32 (l5 + 1))] [] V
            else
              none
          else
            Xf d 258 11 [xr 14 0, xi l1, xi l2, xi l3, xi l4, xi (w32 (l5 + 1))] [] V
        else
          none
      else
        Xf d 258 77 [xr 14 0, xi l1, xr 0 0, xi l3, xi l4, xi 0] [] V
  else
    Xf d 258 77 [xr 14 0, xi l1, xr 0 0, xi l3, xi l4, xi 0] [] V := Xx_es [11, 77] P_X12_oneOnly 3 _ _ _ V
set_option maxRecDepth 100000 in
theorem s_X12_oneOnly_77 (d : Nat) (V : XM) (l1 : Int) (l3 : Int) (l4 : Int) (l5 : Int) : Xf d 258 77 [xr 14 0, xi l1, xr 0 0, xi l3, xi l4, xi l5] [] V =
    if l5 < (V 14 0 22) then
    if l4 < 2 then
      if 0 ≤ l5 ∧ l5 < 300 then
        if (V 85 0 (l5.toNat)) = 6 then
          if 0 ≤ l5 ∧ l5 < 300 then
            if (V 86 0 (l5.toNat)) = l1 then
              if 0 ≤ l5 ∧ l5 < 300 then
                if (V 88 0 (l5.toNat)) = l3 then
                  some (xi l5, V)
                else
                  Xf d 258 77 [xr 14 0, xi l1, xr 0 0, xi l3, xi l4, xi (w32 (l5 + 1))] [] V
              else
                none
            else
              Xf d 258 77 [xr 14 0, xi l1, xr 0 0, xi l3, xi l4, xi (w32 (l5 + 1))] [] V
          else
            none
        else
          Xf d 258 77 [xr 14 0, xi l1, xr 0 0, xi l3, xi l4, xi (w32 (l5 + 1))] [] V
      else
        none
    else
      some (xi (-9), V)
  else
    some (xi (-9), V) := Xx_es [11, 77] P_X12_oneOnly 2 _ _ _ V
set_option maxRecDepth 100000 in
theorem s_X12_relation (d : Nat) (V : XM) (a : Int) : Yf (d + 1) 259 [xr 14 0, xi a] V =
    ci (Yf d 189 [xl a, xl 0, xl 5] V) (fun x2 V1 =>
    if x2 = 0 then
      some (xi (-2), V1)
    else
      if (V1 14 0 29) = 8 then
        some (xi (-4), V1)
      else
        if 0 ≤ V1 14 0 29 ∧ V1 14 0 29 < 8 then
          some (xi (w32 ((w32 ((V1 14 0 29) + 1)) - 1)), (xu (xu V1 90 0 ((V1 14 0 29).toNat) a) 14 0 29 (w32 ((V1 14 0 29) + 1))))
        else
          none) := Xc_es [] P_X12_relation 3 _ V
set_option maxRecDepth 100000 in
theorem s_X12_isCouple (d : Nat) (V : XM) (a : Int) (b : Int) (c : Int) : Yf (d + 1) 260 [xr 14 0, xi a, xi b, xi c] V =
    ci (Yf d 251 [xr 14 0, xi a] V) (fun x2 V1 =>
    if x2 = 0 then
      some (xi 0, V1)
    else
      ci (Yf d 203 [xr 14 0, xl b] V1) (fun x4 V3 =>
        if x4 = 0 then
          some (xi 0, V3)
        else
          ci (Yf d 203 [xr 14 0, xl c] V3) (fun x6 V5 =>
            if x6 = 0 then
              some (xi 0, V5)
            else
              some (xi 1, V5)))) := Xc_es [] P_X12_isCouple 3 _ V
set_option maxRecDepth 100000 in
theorem s_X12_relate (d : Nat) (V : XM) (a : Int) (b : Int) (c : Int) : Yf (d + 1) 261 [xr 14 0, xi a, xi b, xi c] V =
    ci (Yf d 260 [xr 14 0, xi a, xi b, xi c] V) (fun x2 V1 =>
    if x2 = 0 then
      some (xi (-1), V1)
    else
      if b = c then
        some (xi (-3), V1)
      else
        ci (Yf d 256 [xr 14 0, xi a, xi b, xi c] V1) (fun x4 V3 =>
          if x4 = 0 then
            if (V3 14 0 22) = 300 then
              some (xi (-4), V3)
            else
              ci (Yf d 257 [xr 14 0, xi a, xi b, xi c] V3) (fun x6 V5 =>
                if x6 = (-9) then
                  ci (Yf d 258 [xr 14 0, xi a, xi b, xi c] V5) (fun x8 V7 =>
                    if x8 = (-9) then
                      ci (Yf d 210 [xr 14 0, xi 6, xi a, xi b, xi c] V7) (fun x10 V9 =>
                        some (xi x10, V9))
                    else
                      ci (Yf d 211 [xi x8] V7) (fun x12 V11 =>
                        some (xi x12, V11)))
                else
                  if x6 = (-9) then
                    ci (Yf d 210 [xr 14 0, xi 6, xi a, xi b, xi c] V5) (fun x14 V13 =>
                      some (xi x14, V13))
                  else
                    ci (Yf d 211 [xi x6] V5) (fun x16 V15 =>
                      some (xi x16, V15)))
          else
            some (xi (-3), V3))) := Xc_es [] P_X12_relate 8 _ V
set_option maxRecDepth 100000 in
theorem s_X12_deny (d : Nat) (V : XM) (a : Int) (b : Int) (c : Int) : Yf (d + 1) 262 [xr 14 0, xi a, xi b, xi c] V =
    ci (Yf d 260 [xr 14 0, xi a, xi b, xi c] V) (fun x2 V1 =>
    if x2 = 0 then
      some (xi (-1), V1)
    else
      if b = c then
        some (xi (-3), V1)
      else
        ci (Yf d 253 [xr 14 0, xi 7, xi a, xi b, xi c] V1) (fun x4 V3 =>
          if x4 = (-9) then
            if (V3 14 0 22) = 300 then
              some (xi (-4), V3)
            else
              ci (Yf d 255 [xr 14 0, xi a, xi b, xi c] V3) (fun x6 V5 =>
                if x6 = (-9) then
                  ci (Yf d 210 [xr 14 0, xi 7, xi a, xi b, xi c] V5) (fun x8 V7 =>
                    some (xi x8, V7))
                else
                  ci (Yf d 211 [xi x6] V5) (fun x10 V9 =>
                    some (xi x10, V9)))
          else
            some (xi (-3), V3))) := Xc_es [] P_X12_deny 6 _ V
set_option maxRecDepth 100000 in
theorem s_X12_related (d : Nat) (V : XM) (a : Int) (b : Int) (c : Int) : Yf (d + 1) 263 [xr 14 0, xi a, xi b, xi c] V =
    ci (Yf d 260 [xr 14 0, xi a, xi b, xi c] V) (fun x2 V1 =>
    if x2 = 0 then
      some (xi (-1), V1)
    else
      ci (Yf d 256 [xr 14 0, xi a, xi b, xi c] V1) (fun x4 V3 =>
        if x4 = 0 then
          some (xi 0, V3)
        else
          some (xi 1, V3))) := Xc_es [] P_X12_related 4 _ V
set_option maxRecDepth 100000 in
theorem s_X12_couples (d : Nat) (V : XM) (a : Int) : Yf (d + 1) 264 [xr 14 0, xi a] V =
    if 0 ≤ a ∧ a < 8 then
    if (V 90 0 (a.toNat)) = 5 then
      cv (Yf d 252 [xr 14 0, xi a, xi (V 14 0 22)] V) (fun V1 =>
        Xf d 264 21 [xr 14 0, xi a, xi 0, xr 0 0] [] V1)
    else
      Xf d 264 21 [xr 14 0, xi a, xi 0, xr 0 0] [] V
  else
    none := Xc_es [21, 31, 99] P_X12_couples 2 _ V
set_option maxRecDepth 100000 in
theorem s_X12_couples_21 (d : Nat) (V : XM) (l1 : Int) (l2 : Int) : Xf d 264 21 [xr 14 0, xi l1, xi l2, xr 0 0] [] V =
    if l2 < (V 14 0 9) then
    Xf d 264 31 [xr 14 0, xi l1, xi l2, xi 0] [] V
  else
    Xf d 264 99 [xr 14 0, xi l1, xi 0, xr 0 0] [] V := Xx_es [21, 31, 99] P_X12_couples 2 _ _ _ V
set_option maxRecDepth 100000 in
theorem s_X12_couples_99 (d : Nat) (V : XM) (l1 : Int) (l2 : Int) : Xf d 264 99 [xr 14 0, xi l1, xi l2, xr 0 0] [] V =
    if l2 < (V 14 0 22) then
    if 0 ≤ l1 ∧ l1 < 8 then
      if (V 90 0 (l1.toNat)) = 5 then
        some (xi 0, V)
      else
        if 0 ≤ l2 ∧ l2 < 300 then
          if (V 85 0 (l2.toNat)) = 6 then
            if 0 ≤ l2 ∧ l2 < 300 then
              if (V 86 0 (l2.toNat)) = l1 then
                if 0 ≤ l2 ∧ l2 < 300 then
                  if 0 ≤ l2 ∧ l2 < 300 then
                    if 0 ≤ w32 ((w32 (64 * (V 87 0 (l2.toNat)))) + (V 88 0 (l2.toNat))) ∧ w32 ((w32 (64 * (V 87 0 (l2.toNat)))) + (V 88 0 (l2.toNat))) < 4096 then
                      if 0 ≤ l2 ∧ l2 < 300 then
                        if 0 ≤ l2 ∧ l2 < 300 then
                          if 0 ≤ w32 ((w32 (64 * (V 88 0 (l2.toNat)))) + (V 87 0 (l2.toNat))) ∧ w32 ((w32 (64 * (V 88 0 (l2.toNat)))) + (V 87 0 (l2.toNat))) < 4096 then
                            if 0 ≤ l1 ∧ l1 < 8 then
                              if (V 90 0 (l1.toNat)) = 4 then
                                if 0 ≤ w32 ((w32 (64 * (V 88 0 (l2.toNat)))) + (V 87 0 (l2.toNat))) ∧ w32 ((w32 (64 * (V 88 0 (l2.toNat)))) + (V 87 0 (l2.toNat))) < 4096 then
                                  Xf d 264 99 [xr 14 0, xi l1, xi (w32 (l2 + 1)), xr 0 0] [] (xu (xu V 94 0 ((w32 ((w32 (64 * (V 87 0 (l2.toNat)))) + (V 88 0 (l2.toNat)))).toNat) 1) 94 0 ((w32 ((w32 (64 * (V 88 0 (l2.toNat)))) + (V 87 0 (l2.toNat)))).toNat) ((iOr ((xu V 94 0 ((w32 ((w32 (64 * (V 87 0 (l2.toNat)))) + (V 88 0 (l2.toNat)))).toNat) 1) 94 0 ((w32 ((w32 (64 * (V 88 0 (l2.toNat)))) + (V 87 0 (l2.toNat)))).toNat)) 1) % 2))
                                else
                                  none
                              else
                                if 0 ≤ w32 ((w32 (64 * (V 88 0 (l2.toNat)))) + (V 87 0 (l2.toNat))) ∧ w32 ((w32 (64 * (V 88 0 (l2.toNat)))) + (V 87 0 (l2.toNat))) < 4096 then
                                  Xf d 264 99 [xr 14 0, xi l1, xi (w32 (l2 + 1)), xr 0 0] [] (xu (xu V 94 0 ((w32 ((w32 (64 * (V 87 0 (l2.toNat)))) + (V 88 0 (l2.toNat)))).toNat) 1) 94 0 ((w32 ((w32 (64 * (V 88 0 (l2.toNat)))) + (V 87 0 (l2.toNat)))).toNat) ((iOr ((xu V 94 0 ((w32 ((w32 (64 * (V 87 0 (l2.toNat)))) + (V 88 0 (l2.toNat)))).toNat) 1) 94 0 ((w32 ((w32 (64 * (V 88 0 (l2.toNat)))) + (V 87 0 (l2.toNat)))).toNat)) 0) % 2))
                                else
                                  none
                            else
                              none
                          else
                            none
                        else
                          none
                      else
                        none
                    else
                      none
                  else
                    none
                else
                  none
              else
                Xf d 264 99 [xr 14 0, xi l1, xi (w32 (l2 + 1)), xr 0 0] [] V
            else
              none
          else
            Xf d 264 99 [xr 14 0, xi l1, xi (w32 (l2 + 1)), xr 0 0] [] V
        else
          none
    else
      none
  else
    some (xi 0, V) := Xx_es [21, 31, 99] P_X12_couples 4 _ _ _ V
set_option maxRecDepth 100000 in
theorem s_X12_couples_31 (d : Nat) (V : XM) (l1 : Int) (l2 : Int) (l3 : Int) : Xf d 264 31 [xr 14 0, xi l1, xi l2, xi l3] [] V =
    if l3 < (V 14 0 9) then
    if 0 ≤ l1 ∧ l1 < 8 then
      if (V 90 0 (l1.toNat)) = 5 then
        if l2 = l3 then
          if 0 ≤ w32 ((w32 (64 * l2)) + l3) ∧ w32 ((w32 (64 * l2)) + l3) < 4096 then
            Xf d 264 31 [xr 14 0, xi l1, xi l2, xi (w32 (l3 + 1))] [] (xu V 94 0 ((w32 ((w32 (64 * l2)) + l3)).toNat) 0)
          else
            none
        else
          if 0 ≤ l2 ∧ l2 < 64 then
            if 0 ≤ l3 ∧ l3 < 64 then
              if (V 91 0 (l2.toNat)) = (V 91 0 (l3.toNat)) then
                if 0 ≤ w32 ((w32 (64 * l2)) + l3) ∧ w32 ((w32 (64 * l2)) + l3) < 4096 then
                  Xf d 264 31 [xr 14 0, xi l1, xi l2, xi (w32 (l3 + 1))] [] (xu V 94 0 ((w32 ((w32 (64 * l2)) + l3)).toNat) 1)
                else
                  none
              else
                if 0 ≤ w32 ((w32 (64 * l2)) + l3) ∧ w32 ((w32 (64 * l2)) + l3) < 4096 then
                  Xf d 264 31 [xr 14 0, xi l1, xi l2, xi (w32 (l3 + 1))] [] (xu V 94 0 ((w32 ((w32 (64 * l2)) + l3)).toNat) 0)
                else
                  none
            else
              none
          else
            none
      else
        if 0 ≤ w32 ((w32 (64 * l2)) + l3) ∧ w32 ((w32 (64 * l2)) + l3) < 4096 then
          Xf d 264 31 [xr 14 0, xi l1, xi l2, xi (w32 (l3 + 1))] [] (xu V 94 0 ((w32 ((w32 (64 * l2)) + l3)).toNat) 0)
        else
          none
    else
      none
  else
    Xf d 264 21 [xr 14 0, xi l1, xi (w32 (l2 + 1)), xr 0 0] [] V := Xx_es [21, 31, 99] P_X12_couples 3 _ _ _ V
