set_option maxRecDepth 100000 in
theorem s_X12_bar (d : Nat) (V : XM) (a : Int) (b : Int) : Yf (d + 1) 222 [xr 14 0, xi a, xi b] V =
    ci (Yf d 203 [xr 14 0, xl a] V) (fun x2 V1 =>
    if x2 = 0 then
      some (xi (-1), V1)
    else
      ci (Yf d 203 [xr 14 0, xl b] V1) (fun x4 V3 =>
        if x4 = 0 then
          some (xi (-1), V3)
        else
          ci (Yf d 207 [xr 14 0, xi a] V3) (fun x6 V5 =>
            if x6 = 0 then
              ci (Yf d 206 [xr 14 0, xi b] V5) (fun x8 V7 =>
                if x8 = 0 then
                  some (xi (-3), V7)
                else
                  if (V7 14 0 22) = 300 then
                    some (xi (-4), V7)
                  else
                    ci (Yf d 216 [xr 14 0, xi a, xi b] V7) (fun x10 V9 =>
                      if x10 = (-9) then
                        if 0 ≤ a ∧ a < 64 then
                          if 0 ≤ a ∧ a < 64 then
                            if (cmp3 (V9 81 0 (a.toNat)) 0) = 0 then
                              if 0 ≤ a ∧ a < 64 then
                                ci (Yf d 210 [xr 14 0, xi 1, xi a, xi b, xi 0] (xu V9 81 0 (a.toNat) (lAnd (V9 81 0 (a.toNat)) (lXor (lShl 1 b) (-1))))) (fun x12 V11 =>
                                  some (xi x12, V11))
                              else
                                none
                            else
                              if (cmp3 (lAnd (V9 81 0 (a.toNat)) (lXor (lShl 1 b) (-1))) 0) = 0 then
                                ci (Yf d 213 [xr 14 0, xi a] V9) (fun x14 V13 =>
                                  ci (Yf d 211 [xi x14] V13) (fun x16 V15 =>
                                    some (xi x16, V15)))
                              else
                                if 0 ≤ a ∧ a < 64 then
                                  ci (Yf d 210 [xr 14 0, xi 1, xi a, xi b, xi 0] (xu V9 81 0 (a.toNat) (lAnd (V9 81 0 (a.toNat)) (lXor (lShl 1 b) (-1))))) (fun x18 V17 =>
                                    some (xi x18, V17))
                                else
                                  none
                          else
                            none
                        else
                          none
                      else
                        if 0 ≤ w32 ((w32 (6 * a)) + x10) ∧ w32 ((w32 (6 * a)) + x10) < 384 then
                          ci (Yf d 211 [xi (V9 79 0 ((w32 ((w32 (6 * a)) + x10)).toNat))] V9) (fun x20 V19 =>
                            some (xi x20, V19))
                        else
                          none))
            else
              some (xi (-3), V5)))) := Xc_es [] P_X12_bar 6 _ V
set_option maxRecDepth 100000 in
theorem s_X12_give (d : Nat) (V : XM) (a : Int) (b : Int) (c : Int) : Yf (d + 1) 223 [xr 14 0, xi a, xi b, xl c] V =
    ci (Yf d 203 [xr 14 0, xl a] V) (fun x2 V1 =>
    if x2 = 0 then
      some (xi (-1), V1)
    else
      ci (Yf d 193 [xr 14 0, xi b] V1) (fun x4 V3 =>
        if x4 = 0 then
          some (xi (-1), V3)
        else
          ci (Yf d 200 [xr 14 0, xi b, xl c] V3) (fun x6 V5 =>
            if x6 = 0 then
              if 0 ≤ a ∧ a < 64 then
                if 0 ≤ b ∧ b < 12 then
                  ci (Yf d 194 [xr 14 0, xi (V5 73 0 (a.toNat)), xi (V5 68 0 (b.toNat))] V5) (fun x8 V7 =>
                    if x8 = 0 then
                      some (xi (-3), V7)
                    else
                      if (V7 14 0 22) = 300 then
                        some (xi (-4), V7)
                      else
                        ci (Yf d 201 [xr 14 0, xi b, xl c] V7) (fun x10 V9 =>
                          if x10 = 0 then
                            ci (Yf d 190 [xr 14 0, xi (-14)] V9) (fun x12 V11 =>
                              some (xi x12, V11))
                          else
                            if 0 ≤ b ∧ b < 12 then
                              cl (Yf d 199 [xi (V9 69 0 (b.toNat)), xl c] V9) (fun x14 V13 =>
                                if 0 ≤ w32 ((w32 (64 * b)) + a) ∧ w32 ((w32 (64 * b)) + a) < 768 then
                                  if (V13 83 0 ((w32 ((w32 (64 * b)) + a)).toNat)) = (-9) then
                                    if 0 ≤ w32 ((w32 (64 * b)) + a) ∧ w32 ((w32 (64 * b)) + a) < 768 then
                                      ci (Yf d 210 [xr 14 0, xi 2, xi a, xi b, xi 0] (xu V13 84 0 ((w32 ((w32 (64 * b)) + a)).toNat) x14)) (fun x16 V15 =>
                                        if 0 ≤ w32 ((w32 (64 * b)) + a) ∧ w32 ((w32 (64 * b)) + a) < 768 then
                                          if 0 ≤ w32 ((w32 (64 * b)) + a) ∧ w32 ((w32 (64 * b)) + a) < 768 then
                                            some (xi ((xu V15 83 0 ((w32 ((w32 (64 * b)) + a)).toNat) x16) 83 0 ((w32 ((w32 (64 * b)) + a)).toNat)), (xu V15 83 0 ((w32 ((w32 (64 * b)) + a)).toNat) x16))
                                          else
                                            none
                                        else
                                          none)
                                    else
                                      none
                                  else
                                    if 0 ≤ w32 ((w32 (64 * b)) + a) ∧ w32 ((w32 (64 * b)) + a) < 768 then
                                      if (cmp3 (V13 84 0 ((w32 ((w32 (64 * b)) + a)).toNat)) x14) = 0 then
                                        if 0 ≤ w32 ((w32 (64 * b)) + a) ∧ w32 ((w32 (64 * b)) + a) < 768 then
                                          ci (Yf d 210 [xr 14 0, xi 2, xi a, xi b, xi 0] (xu V13 84 0 ((w32 ((w32 (64 * b)) + a)).toNat) x14)) (fun x18 V17 =>
                                            if 0 ≤ w32 ((w32 (64 * b)) + a) ∧ w32 ((w32 (64 * b)) + a) < 768 then
                                              if 0 ≤ w32 ((w32 (64 * b)) + a) ∧ w32 ((w32 (64 * b)) + a) < 768 then
                                                some (xi ((xu V17 83 0 ((w32 ((w32 (64 * b)) + a)).toNat) x18) 83 0 ((w32 ((w32 (64 * b)) + a)).toNat)), (xu V17 83 0 ((w32 ((w32 (64 * b)) + a)).toNat) x18))
                                              else
                                                none
                                            else
                                              none)
                                        else
                                          none
                                      else
                                        if 0 ≤ w32 ((w32 (64 * b)) + a) ∧ w32 ((w32 (64 * b)) + a) < 768 then
                                          ci (Yf d 211 [xi (V13 83 0 ((w32 ((w32 (64 * b)) + a)).toNat))] V13) (fun x20 V19 =>
                                            some (xi x20, V19))
                                        else
                                          none
                                    else
                                      none
                                else
                                  none)
                            else
                              none))
                else
                  none
              else
                none
            else
              some (xi (-1), V5)))) := Xc_es [] P_X12_give 6 _ V
set_option maxRecDepth 100000 in
theorem s_X12_valueOf (d : Nat) (V : XM) (a : Int) (b : Int) : Yf (d + 1) 224 [xr 14 0, xi a, xi b] V =
    if 0 ≤ w32 ((w32 (64 * b)) + a) ∧ w32 ((w32 (64 * b)) + a) < 768 then
    if (V 83 0 ((w32 ((w32 (64 * b)) + a)).toNat)) = (-9) then
      if 0 ≤ a ∧ a < 64 then
        Xf d 224 33 [xr 14 0, xr 0 0, xi b, xr 0 0, xi (V 73 0 (a.toNat))] [] V
      else
        none
    else
      if 0 ≤ w32 ((w32 (64 * b)) + a) ∧ w32 ((w32 (64 * b)) + a) < 768 then
        some (xl (V 84 0 ((w32 ((w32 (64 * b)) + a)).toNat)), V)
      else
        none
  else
    none := Xc_es [33] P_X12_valueOf 2 _ V
set_option maxRecDepth 100000 in
theorem s_X12_valueOf_33 (d : Nat) (V : XM) (l2 : Int) (l4 : Int) : Xf d 224 33 [xr 14 0, xr 0 0, xi l2, xr 0 0, xi l4] [] V =
    if l4 = 0 then
    if 0 ≤ w32 ((w32 (12 * l4)) + l2) ∧ w32 ((w32 (12 * l4)) + l2) < 288 then
      if (V 71 0 ((w32 ((w32 (12 * l4)) + l2)).toNat)) = 0 then
        if 0 ≤ l2 ∧ l2 < 12 then
          if (V 69 0 (l2.toNat)) = 8 then
            some (xl (-9), V)
          else
            some (xl 0, V)
        else
          none
      else
        if 0 ≤ w32 ((w32 (12 * l4)) + l2) ∧ w32 ((w32 (12 * l4)) + l2) < 288 then
          some (xl (V 72 0 ((w32 ((w32 (12 * l4)) + l2)).toNat)), V)
        else
          none
    else
      none
  else
    if 0 ≤ w32 ((w32 (12 * l4)) + l2) ∧ w32 ((w32 (12 * l4)) + l2) < 288 then
      if (V 71 0 ((w32 ((w32 (12 * l4)) + l2)).toNat)) = 0 then
        if 0 ≤ l4 ∧ l4 < 24 then
          Xf d 224 33 [xr 14 0, xr 0 0, xi l2, xr 0 0, xi (V 67 0 (l4.toNat))] [] V
        else
          none
      else
        if 0 ≤ w32 ((w32 (12 * l4)) + l2) ∧ w32 ((w32 (12 * l4)) + l2) < 288 then
          if (V 71 0 ((w32 ((w32 (12 * l4)) + l2)).toNat)) = 0 then
            if 0 ≤ l2 ∧ l2 < 12 then
              if (V 69 0 (l2.toNat)) = 8 then
                some (xl (-9), V)
              else
                some (xl 0, V)
            else
              none
          else
            if 0 ≤ w32 ((w32 (12 * l4)) + l2) ∧ w32 ((w32 (12 * l4)) + l2) < 288 then
              some (xl (V 72 0 ((w32 ((w32 (12 * l4)) + l2)).toNat)), V)
            else
              none
        else
          none
    else
      none := Xx_es [33] P_X12_valueOf 5 _ _ _ V
set_option maxRecDepth 100000 in
theorem s_X12_value (d : Nat) (V : XM) (a : Int) (b : Int) : Yf (d + 1) 225 [xr 14 0, xi a, xi b] V =
    ci (Yf d 203 [xr 14 0, xl a] V) (fun x2 V1 =>
    if x2 = 0 then
      some (xl (-1), V1)
    else
      ci (Yf d 193 [xr 14 0, xi b] V1) (fun x4 V3 =>
        if x4 = 0 then
          some (xl (-1), V3)
        else
          if 0 ≤ a ∧ a < 64 then
            if 0 ≤ b ∧ b < 12 then
              ci (Yf d 194 [xr 14 0, xi (V3 73 0 (a.toNat)), xi (V3 68 0 (b.toNat))] V3) (fun x6 V5 =>
                if x6 = 0 then
                  some (xl (-3), V5)
                else
                  cl (Yf d 224 [xr 14 0, xi a, xi b] V5) (fun x8 V7 =>
                    some (xl x8, V7)))
            else
              none
          else
            none)) := Xc_es [] P_X12_value 4 _ V
set_option maxRecDepth 100000 in
theorem s_X12_given (d : Nat) (V : XM) (a : Int) (b : Int) : Yf (d + 1) 226 [xr 14 0, xi a, xi b] V =
    ci (Yf d 203 [xr 14 0, xl a] V) (fun x2 V1 =>
    if x2 = 0 then
      some (xi (-1), V1)
    else
      ci (Yf d 193 [xr 14 0, xi b] V1) (fun x4 V3 =>
        if x4 = 0 then
          some (xi (-1), V3)
        else
          if 0 ≤ w32 ((w32 (64 * b)) + a) ∧ w32 ((w32 (64 * b)) + a) < 768 then
            some (xi (V3 83 0 ((w32 ((w32 (64 * b)) + a)).toNat)), V3)
          else
            none)) := Xc_es [] P_X12_given 3 _ V
set_option maxRecDepth 100000 in
theorem s_X12_peek (d : Nat) (V : XM) (a : Int) (b : Int) (c : Int) : Yf (d + 1) 227 [xr 14 0, xi a, xi b, xi c] V =
    ci (Yf d 193 [xr 14 0, xi a] V) (fun x2 V1 =>
    if x2 = 0 then
      some (xl (-1), V1)
    else
      ci (Yf d 189 [xl b, xl 0, xl 8] V1) (fun x4 V3 =>
        if x4 = 0 then
          some (xl (-2), V3)
        else
          if 0 ≤ a ∧ a < 12 then
            if (V3 69 0 (a.toNat)) = b then
              ci (Yf d 189 [xl c, xl 0, xl 63] V3) (fun x6 V5 =>
                if x6 = 0 then
                  ci (Yf d 190 [xr 14 0, xi (-12)] V5) (fun x8 V7 =>
                    some (xl x8, V7))
                else
                  if 0 ≤ w32 ((w32 (64 * a)) + c) ∧ w32 ((w32 (64 * a)) + c) < 768 then
                    if (V5 83 0 ((w32 ((w32 (64 * a)) + c)).toNat)) = (-9) then
                      if b = 8 then
                        some (xl (-9), V5)
                      else
                        some (xl 0, V5)
                    else
                      if 0 ≤ w32 ((w32 (64 * a)) + c) ∧ w32 ((w32 (64 * a)) + c) < 768 then
                        some (xl (V5 84 0 ((w32 ((w32 (64 * a)) + c)).toNat)), V5)
                      else
                        none
                  else
                    none)
            else
              ci (Yf d 190 [xr 14 0, xi (-13)] V3) (fun x10 V9 =>
                some (xl x10, V9))
          else
            none)) := Xc_es [] P_X12_peek 8 _ V
set_option maxRecDepth 100000 in
theorem s_X12_place (d : Nat) (V : XM) (a : Int) (b : Int) : Yf (d + 1) 228 [xr 14 0, xi a, xi b] V =
    ci (Yf d 203 [xr 14 0, xl a] V) (fun x2 V1 =>
    if x2 = 0 then
      some (xi (-1), V1)
    else
      if 0 ≤ a ∧ a < 64 then
        ci (Yf d 189 [xl b, xl 0, xl (w32 ((V1 80 0 (a.toNat)) - 1))] V1) (fun x4 V3 =>
          if x4 = 0 then
            some (xi (-9), V3)
          else
            if 0 ≤ w32 ((w32 (6 * a)) + b) ∧ w32 ((w32 (6 * a)) + b) < 384 then
              some (xi (V3 78 0 ((w32 ((w32 (6 * a)) + b)).toNat)), V3)
            else
              none)
      else
        none) := Xc_es [] P_X12_place 4 _ V
set_option maxRecDepth 100000 in
theorem s_X12_loadOf (d : Nat) (V : XM) (a : Int) : Yf (d + 1) 229 [xr 14 0, xi a] V =
    Xf d 229 4 [xr 14 0, xi a, xi 0, xi 0] [] V := Xc_es [4] P_X12_loadOf 1 _ V
set_option maxRecDepth 100000 in
theorem s_X12_loadOf_4 (d : Nat) (V : XM) (l1 : Int) (l2 : Int) (l3 : Int) : Xf d 229 4 [xr 14 0, xi l1, xi l2, xi l3] [] V =
    if l3 < (V 14 0 9) then
    ci (Yf d 208 [xr 14 0, xi l3] V) (fun x2 V1 =>
      if x2 = 0 then
        if 0 ≤ l3 ∧ l3 < 64 then
          if 0 < (V1 80 0 (l3.toNat)) then
            ci (Yf d 215 [xr 14 0, xi l3] V1) (fun x4 V3 =>
              ci (Yf d 214 [xr 14 0, xi x4, xi l1] V3) (fun x6 V5 =>
                if x6 = 0 then
                  Xf d 229 4 [xr 14 0, xi l1, xi l2, xi (w32 (l3 + 1))] [] V5
                else
                  if 0 ≤ l3 ∧ l3 < 64 then
                    ci (Yf d 204 [xr 14 0, xi l3] V5) (fun x8 V7 =>
                      if x8 = 5 then
                        Xf d 229 4 [xr 14 0, xi l1, xi (w32 (l2 + (w32 ((V5 74 0 (l3.toNat)) + 10)))), xi (w32 (l3 + 1))] [] V7
                      else
                        Xf d 229 4 [xr 14 0, xi l1, xi (w32 (l2 + (w32 ((V5 74 0 (l3.toNat)) + 0)))), xi (w32 (l3 + 1))] [] V7)
                  else
                    none))
          else
            Xf d 229 4 [xr 14 0, xi l1, xi l2, xi (w32 (l3 + 1))] [] V1
        else
          none
      else
        Xf d 229 4 [xr 14 0, xi l1, xi l2, xi (w32 (l3 + 1))] [] V1)
  else
    some (xi l2, V) := Xx_es [4] P_X12_loadOf 4 _ _ _ V
set_option maxRecDepth 100000 in
theorem s_X12_bulkOf (d : Nat) (V : XM) (a : Int) : Yf (d + 1) 230 [xr 14 0, xi a] V =
    ci (Yf d 204 [xr 14 0, xi a] V) (fun x2 V1 =>
    if x2 = 1 then
      ci (Yf d 229 [xr 14 0, xi a] V1) (fun x4 V3 =>
        some (xi x4, V3))
    else
      if x2 = 1 + 1 then
        if 0 ≤ a ∧ a < 64 then
          some (xi (w32 (2 * (V1 74 0 (a.toNat)))), V1)
        else
          none
      else
        if x2 = 1 + 1 + 1 then
          some (xi 0, V1)
        else
          if x2 = 1 + 1 + 1 + 1 then
            if 0 ≤ a ∧ a < 64 then
              ci (Yf d 229 [xr 14 0, xi a] V1) (fun x6 V5 =>
                some (xi (w32 ((V1 74 0 (a.toNat)) + x6)), V5))
            else
              none
          else
            if x2 = 1 + 1 + 1 + 1 + 1 then
              if 0 ≤ a ∧ a < 64 then
                ci (Yf d 229 [xr 14 0, xi a] V1) (fun x8 V7 =>
                  some (xi (w32 ((w32 ((V1 74 0 (a.toNat)) + x8)) + 10)), V7))
              else
                none
            else
              if 0 ≤ a ∧ a < 64 then
                some (xi (V1 74 0 (a.toNat)), V1)
              else
                none) := Xc_es [] P_X12_bulkOf 2 _ V
set_option maxRecDepth 100000 in
theorem s_X12_worthOf (d : Nat) (V : XM) (a : Int) : Yf (d + 1) 231 [xr 14 0, xi a] V =
    if 0 ≤ a ∧ a < 64 then
    ci (Yf d 204 [xr 14 0, xi a] V) (fun x2 V1 =>
      if x2 = 1 then
        some (xi (w32 ((w32 ((w32 (3 * (V 74 0 (a.toNat)))) + 1)) + 1000)), V1)
      else
        if x2 = 1 + 1 then
          some (xi (w32 ((w32 ((w32 (3 * (V 74 0 (a.toNat)))) + 1)) + 100)), V1)
        else
          if x2 = 1 + 1 + 1 then
            some (xi (w32 (-(w32 ((w32 (3 * (V 74 0 (a.toNat)))) + 1)))), V1)
          else
            if x2 = 1 + 1 + 1 + 1 then
              some (xi (w32 ((w32 (3 * (V 74 0 (a.toNat)))) + 1)), V1)
            else
              if x2 = 1 + 1 + 1 + 1 + 1 then
                some (xi (w32 (2 * (w32 ((w32 (3 * (V 74 0 (a.toNat)))) + 1)))), V1)
              else
                some (xi (w32 ((w32 (3 * (V 74 0 (a.toNat)))) + 1)), V1))
  else
    none := Xc_es [] P_X12_worthOf 2 _ V
set_option maxRecDepth 100000 in
theorem s_X12_lidOf (d : Nat) (V : XM) (a : Int) : Yf (d + 1) 232 [xr 14 0, xi a] V =
    ci (Yf d 204 [xr 14 0, xi a] V) (fun x2 V1 =>
    if x2 = 2 then
      if 0 ≤ a ∧ a < 64 then
        if 0 ≤ a ∧ a < 64 then
          if (V1 77 0 (a.toNat)) = 0 then
            some (xi (w32 ((w32 (10 * (V1 76 0 (a.toNat)))) + 0)), V1)
          else
            some (xi (w32 ((w32 (10 * (V1 76 0 (a.toNat)))) + 1)), V1)
        else
          none
      else
        none
    else
      if 0 ≤ a ∧ a < 64 then
        if 0 ≤ a ∧ a < 64 then
          if (V1 77 0 (a.toNat)) = 0 then
            some (xi (w32 ((V1 76 0 (a.toNat)) + 0)), V1)
          else
            some (xi (w32 ((V1 76 0 (a.toNat)) + 1000)), V1)
        else
          none
      else
        none) := Xc_es [] P_X12_lidOf 5 _ V
set_option maxRecDepth 100000 in
theorem s_X12_said (d : Nat) (V : XM) (a : Int) (b : Int) : Yf (d + 1) 233 [xr 14 0, xi a, xi b] V =
    if b < 2 then
    if b = 4 then
      ci (Yf d 229 [xr 14 0, xi a] V) (fun x2 V1 =>
        if x2 = 0 then
          ci (Yf d 190 [xr 14 0, xi (-16)] V1) (fun x4 V3 =>
            some (xi x4, V3))
        else
          if x2 = 0 then
            none
          else
            some (xi (w32 (Int.tdiv 1000 x2)), V1))
    else
      if b = 0 then
        ci (Yf d 230 [xr 14 0, xi a] V) (fun x6 V5 =>
          some (xi x6, V5))
      else
        if b = 1 then
          ci (Yf d 231 [xr 14 0, xi a] V) (fun x8 V7 =>
            some (xi x8, V7))
        else
          if b = 2 then
            ci (Yf d 229 [xr 14 0, xi a] V) (fun x10 V9 =>
              some (xi x10, V9))
          else
            ci (Yf d 232 [xr 14 0, xi a] V) (fun x12 V11 =>
              some (xi x12, V11))
  else
    if b = 2 then
      ci (Yf d 206 [xr 14 0, xi a] V) (fun x14 V13 =>
        if x14 = 0 then
          ci (Yf d 190 [xr 14 0, xi (-13)] V13) (fun x16 V15 =>
            some (xi x16, V15))
        else
          if b = 4 then
            ci (Yf d 229 [xr 14 0, xi a] V13) (fun x18 V17 =>
              if x18 = 0 then
                ci (Yf d 190 [xr 14 0, xi (-16)] V17) (fun x20 V19 =>
                  some (xi x20, V19))
              else
                if x18 = 0 then
                  none
                else
                  some (xi (w32 (Int.tdiv 1000 x18)), V17))
          else
            if b = 0 then
              ci (Yf d 230 [xr 14 0, xi a] V13) (fun x22 V21 =>
                some (xi x22, V21))
            else
              if b = 1 then
                ci (Yf d 231 [xr 14 0, xi a] V13) (fun x24 V23 =>
                  some (xi x24, V23))
              else
                if b = 2 then
                  ci (Yf d 229 [xr 14 0, xi a] V13) (fun x26 V25 =>
                    some (xi x26, V25))
                else
                  ci (Yf d 232 [xr 14 0, xi a] V13) (fun x28 V27 =>
                    some (xi x28, V27)))
    else
      if b = 3 then
        ci (Yf d 204 [xr 14 0, xi a] V) (fun x30 V29 =>
          if x30 = 2 then
            if b = 4 then
              ci (Yf d 229 [xr 14 0, xi a] V29) (fun x32 V31 =>
                if x32 = 0 then
                  ci (Yf d 190 [xr 14 0, xi (-16)] V31) (fun x34 V33 =>
                    some (xi x34, V33))
                else
                  if x32 = 0 then
                    none
                  else
                    some (xi (w32 (Int.tdiv 1000 x32)), V31))
            else
              if b = 0 then
                ci (Yf d 230 [xr 14 0, xi a] V29) (fun x36 V35 =>
                  some (xi x36, V35))
              else
                if b = 1 then
                  ci (Yf d 231 [xr 14 0, xi a] V29) (fun x38 V37 =>
                    some (xi x38, V37))
                else
                  if b = 2 then
                    ci (Yf d 229 [xr 14 0, xi a] V29) (fun x40 V39 =>
                      some (xi x40, V39))
                  else
                    ci (Yf d 232 [xr 14 0, xi a] V29) (fun x42 V41 =>
                      some (xi x42, V41))
          else
            ci (Yf d 205 [xr 14 0, xi a] V29) (fun x44 V43 =>
              if x44 = 0 then
                ci (Yf d 190 [xr 14 0, xi (-13)] V43) (fun x46 V45 =>
                  some (xi x46, V45))
              else
                if b = 4 then
                  ci (Yf d 229 [xr 14 0, xi a] V43) (fun x48 V47 =>
                    if x48 = 0 then
                      ci (Yf d 190 [xr 14 0, xi (-16)] V47) (fun x50 V49 =>
                        some (xi x50, V49))
                    else
                      if x48 = 0 then
                        none
                      else
                        some (xi (w32 (Int.tdiv 1000 x48)), V47))
                else
                  if b = 0 then
                    ci (Yf d 230 [xr 14 0, xi a] V43) (fun x52 V51 =>
                      some (xi x52, V51))
                  else
                    if b = 1 then
                      ci (Yf d 231 [xr 14 0, xi a] V43) (fun x54 V53 =>
                        some (xi x54, V53))
                    else
                      if b = 2 then
                        ci (Yf d 229 [xr 14 0, xi a] V43) (fun x56 V55 =>
                          some (xi x56, V55))
                      else
                        ci (Yf d 232 [xr 14 0, xi a] V43) (fun x58 V57 =>
                          some (xi x58, V57))))
      else
        ci (Yf d 204 [xr 14 0, xi a] V) (fun x60 V59 =>
          if x60 = 5 then
            if b = 4 then
              ci (Yf d 229 [xr 14 0, xi a] V59) (fun x62 V61 =>
                if x62 = 0 then
                  ci (Yf d 190 [xr 14 0, xi (-16)] V61) (fun x64 V63 =>
                    some (xi x64, V63))
                else
                  if x62 = 0 then
                    none
                  else
                    some (xi (w32 (Int.tdiv 1000 x62)), V61))
            else
              if b = 0 then
                ci (Yf d 230 [xr 14 0, xi a] V59) (fun x66 V65 =>
                  some (xi x66, V65))
              else
                if b = 1 then
                  ci (Yf d 231 [xr 14 0, xi a] V59) (fun x68 V67 =>
                    some (xi x68, V67))
                else
                  if b = 2 then
                    ci (Yf d 229 [xr 14 0, xi a] V59) (fun x70 V69 =>
                      some (xi x70, V69))
                  else
                    ci (Yf d 232 [xr 14 0, xi a] V59) (fun x72 V71 =>
                      some (xi x72, V71))
          else
            ci (Yf d 190 [xr 14 0, xi (-13)] V59) (fun x74 V73 =>
              some (xi x74, V73))) := Xc_es [] P_X12_said 11 _ V
set_option maxRecDepth 100000 in
theorem s_X12_says (d : Nat) (V : XM) (a : Int) (b : Int) : Yf (d + 1) 234 [xr 14 0, xi a, xi b] V =
    ci (Yf d 203 [xr 14 0, xl a] V) (fun x2 V1 =>
    if x2 = 0 then
      some (xi (-1), V1)
    else
      ci (Yf d 189 [xl b, xl 0, xl 4] V1) (fun x4 V3 =>
        if x4 = 0 then
          some (xi (-2), V3)
        else
          ci (Yf d 233 [xr 14 0, xi a, xi b] V3) (fun x6 V5 =>
            some (xi x6, V5)))) := Xc_es [] P_X12_says 4 _ V
set_option maxRecDepth 100000 in
theorem s_X12_follow (d : Nat) (V : XM) (a : Int) (b : Int) (c : Int) : Yf (d + 1) 235 [xr 14 0, xi a, xi b, xi c] V =
    ci (Yf d 203 [xr 14 0, xl a] V) (fun x2 V1 =>
    if x2 = 0 then
      some (xi (-1), V1)
    else
      ci (Yf d 193 [xr 14 0, xi b] V1) (fun x4 V3 =>
        if x4 = 0 then
          some (xi (-1), V3)
        else
          ci (Yf d 189 [xl c, xl 0, xl 4] V3) (fun x6 V5 =>
            if x6 = 0 then
              some (xi (-2), V5)
            else
              if 0 ≤ a ∧ a < 64 then
                if 0 ≤ b ∧ b < 12 then
                  ci (Yf d 194 [xr 14 0, xi (V5 73 0 (a.toNat)), xi (V5 68 0 (b.toNat))] V5) (fun x8 V7 =>
                    if x8 = 0 then
                      some (xi (-3), V7)
                    else
                      if 0 ≤ b ∧ b < 12 then
                        if (V7 69 0 (b.toNat)) = 8 then
                          cl (Yf d 224 [xr 14 0, xi a, xi b] V7) (fun x10 V9 =>
                            if (cmp3 x10 (-9)) = 0 then
                              ci (Yf d 190 [xr 14 0, xi (-11)] V9) (fun x12 V11 =>
                                some (xi x12, V11))
                            else
                              ci (Yf d 233 [xr 14 0, xi (w32 x10), xi c] V9) (fun x14 V13 =>
                                some (xi x14, V13)))
                        else
                          ci (Yf d 190 [xr 14 0, xi (-13)] V7) (fun x16 V15 =>
                            some (xi x16, V15))
                      else
                        none)
                else
                  none
              else
                none))) := Xc_es [] P_X12_follow 7 _ V
set_option maxRecDepth 100000 in
theorem s_X12_hasOwn (d : Nat) (V : XM) (a : Int) : Yf (d + 1) 236 [xr 14 0, xi a] V =
    ci (Yf d 204 [xr 14 0, xi a] V) (fun x2 V1 =>
    if x2 = 2 then
      some (xi 1, V1)
    else
      ci (Yf d 205 [xr 14 0, xi a] V1) (fun x4 V3 =>
        if x4 = 0 then
          some (xi 0, V3)
        else
          some (xi 1, V3))) := Xc_es [] P_X12_hasOwn 3 _ V
set_option maxRecDepth 100000 in
theorem s_X12_mark (d : Nat) (V : XM) (a : Int) (b : Int) : Yf (d + 1) 237 [xr 14 0, xi a, xi b] V =
    ci (Yf d 203 [xr 14 0, xl a] V) (fun x2 V1 =>
    if x2 = 0 then
      some (xi (-1), V1)
    else
      ci (Yf d 189 [xl b, xl 0, xl 1] V1) (fun x4 V3 =>
        if x4 = 0 then
          some (xi (-2), V3)
        else
          if b = 0 then
            if 0 ≤ a ∧ a < 64 then
              some (xi (V3 75 0 (a.toNat)), V3)
            else
              none
          else
            ci (Yf d 236 [xr 14 0, xi a] V3) (fun x6 V5 =>
              if x6 = 0 then
                ci (Yf d 190 [xr 14 0, xi (-13)] V5) (fun x8 V7 =>
                  some (xi x8, V7))
              else
                if 0 ≤ a ∧ a < 64 then
                  some (xi (V5 76 0 (a.toNat)), V5)
                else
                  none))) := Xc_es [] P_X12_mark 6 _ V
set_option maxRecDepth 100000 in
theorem s_X12_remark (d : Nat) (V : XM) (a : Int) (b : Int) (c : Int) : Yf (d + 1) 238 [xr 14 0, xi a, xi b, xi c] V =
    ci (Yf d 203 [xr 14 0, xl a] V) (fun x2 V1 =>
    if x2 = 0 then
      some (xi (-1), V1)
    else
      ci (Yf d 189 [xl b, xl 0, xl 1] V1) (fun x4 V3 =>
        if x4 = 0 then
          some (xi (-2), V3)
        else
          ci (Yf d 189 [xl c, xl 0, xl 1000] V3) (fun x6 V5 =>
            if x6 = 0 then
              some (xi (-2), V5)
            else
              if b = 1 then
                ci (Yf d 236 [xr 14 0, xi a] V5) (fun x8 V7 =>
                  if x8 = 0 then
                    ci (Yf d 190 [xr 14 0, xi (-13)] V7) (fun x10 V9 =>
                      some (xi x10, V9))
                  else
                    if b = 0 then
                      if 0 ≤ a ∧ a < 64 then
                        if b = 0 then
                          if 0 ≤ a ∧ a < 64 then
                            if b = 1 then
                              if 0 ≤ a ∧ a < 64 then
                                some (xi (V7 75 0 (a.toNat)), (xu (xu V7 75 0 (a.toNat) c) 76 0 (a.toNat) c))
                              else
                                none
                            else
                              if 0 ≤ a ∧ a < 64 then
                                if 0 ≤ a ∧ a < 64 then
                                  some (xi (V7 75 0 (a.toNat)), (xu (xu V7 75 0 (a.toNat) c) 76 0 (a.toNat) (V7 76 0 (a.toNat))))
                                else
                                  none
                              else
                                none
                          else
                            none
                        else
                          if 0 ≤ a ∧ a < 64 then
                            if 0 ≤ a ∧ a < 64 then
                              if b = 1 then
                                if 0 ≤ a ∧ a < 64 then
                                  some (xi (V7 75 0 (a.toNat)), (xu (xu V7 75 0 (a.toNat) (V7 75 0 (a.toNat))) 76 0 (a.toNat) c))
                                else
                                  none
                              else
                                if 0 ≤ a ∧ a < 64 then
                                  if 0 ≤ a ∧ a < 64 then
                                    some (xi (V7 75 0 (a.toNat)), (xu (xu V7 75 0 (a.toNat) (V7 75 0 (a.toNat))) 76 0 (a.toNat) (V7 76 0 (a.toNat))))
                                  else
                                    none
                                else
                                  none
                            else
                              none
                          else
                            none
                      else
                        none
                    else
                      if 0 ≤ a ∧ a < 64 then
                        if b = 0 then
                          if 0 ≤ a ∧ a < 64 then
                            if b = 1 then
                              if 0 ≤ a ∧ a < 64 then
                                some (xi (V7 76 0 (a.toNat)), (xu (xu V7 75 0 (a.toNat) c) 76 0 (a.toNat) c))
                              else
                                none
                            else
                              if 0 ≤ a ∧ a < 64 then
                                if 0 ≤ a ∧ a < 64 then
                                  some (xi (V7 76 0 (a.toNat)), (xu (xu V7 75 0 (a.toNat) c) 76 0 (a.toNat) (V7 76 0 (a.toNat))))
                                else
                                  none
                              else
                                none
                          else
                            none
                        else
                          if 0 ≤ a ∧ a < 64 then
                            if 0 ≤ a ∧ a < 64 then
                              if b = 1 then
                                if 0 ≤ a ∧ a < 64 then
                                  some (xi (V7 76 0 (a.toNat)), (xu (xu V7 75 0 (a.toNat) (V7 75 0 (a.toNat))) 76 0 (a.toNat) c))
                                else
                                  none
                              else
                                if 0 ≤ a ∧ a < 64 then
                                  if 0 ≤ a ∧ a < 64 then
                                    some (xi (V7 76 0 (a.toNat)), (xu (xu V7 75 0 (a.toNat) (V7 75 0 (a.toNat))) 76 0 (a.toNat) (V7 76 0 (a.toNat))))
                                  else
                                    none
                                else
                                  none
                            else
                              none
                          else
                            none
                      else
                        none)
              else
                if b = 0 then
                  if 0 ≤ a ∧ a < 64 then
                    if b = 0 then
                      if 0 ≤ a ∧ a < 64 then
                        if b = 1 then
                          if 0 ≤ a ∧ a < 64 then
                            some (xi (V5 75 0 (a.toNat)), (xu (xu V5 75 0 (a.toNat) c) 76 0 (a.toNat) c))
                          else
                            none
                        else
                          if 0 ≤ a ∧ a < 64 then
                            if 0 ≤ a ∧ a < 64 then
                              some (xi (V5 75 0 (a.toNat)), (xu (xu V5 75 0 (a.toNat) c) 76 0 (a.toNat) (V5 76 0 (a.toNat))))
                            else
                              none
                          else
                            none
                      else
                        none
                    else
                      if 0 ≤ a ∧ a < 64 then
                        if 0 ≤ a ∧ a < 64 then
                          if b = 1 then
                            if 0 ≤ a ∧ a < 64 then
                              some (xi (V5 75 0 (a.toNat)), (xu (xu V5 75 0 (a.toNat) (V5 75 0 (a.toNat))) 76 0 (a.toNat) c))
                            else
                              none
                          else
                            if 0 ≤ a ∧ a < 64 then
                              if 0 ≤ a ∧ a < 64 then
                                some (xi (V5 75 0 (a.toNat)), (xu (xu V5 75 0 (a.toNat) (V5 75 0 (a.toNat))) 76 0 (a.toNat) (V5 76 0 (a.toNat))))
                              else
                                none
                            else
                              none
                        else
                          none
                      else
                        none
                  else
                    none
                else
                  if 0 ≤ a ∧ a < 64 then
                    if b = 0 then
                      if 0 ≤ a ∧ a < 64 then
                        if b = 1 then
                          if 0 ≤ a ∧ a < 64 then
                            some (xi (V5 76 0 (a.toNat)), (xu (xu V5 75 0 (a.toNat) c) 76 0 (a.toNat) c))
                          else
                            none
                        else
                          if 0 ≤ a ∧ a < 64 then
                            if 0 ≤ a ∧ a < 64 then
                              some (xi (V5 76 0 (a.toNat)), (xu (xu V5 75 0 (a.toNat) c) 76 0 (a.toNat) (V5 76 0 (a.toNat))))
                            else
                              none
                          else
                            none
                      else
                        none
                    else
                      if 0 ≤ a ∧ a < 64 then
                        if 0 ≤ a ∧ a < 64 then
                          if b = 1 then
                            if 0 ≤ a ∧ a < 64 then
                              some (xi (V5 76 0 (a.toNat)), (xu (xu V5 75 0 (a.toNat) (V5 75 0 (a.toNat))) 76 0 (a.toNat) c))
                            else
                              none
                          else
                            if 0 ≤ a ∧ a < 64 then
                              if 0 ≤ a ∧ a < 64 then
                                some (xi (V5 76 0 (a.toNat)), (xu (xu V5 75 0 (a.toNat) (V5 75 0 (a.toNat))) 76 0 (a.toNat) (V5 76 0 (a.toNat))))
                              else
                                none
                            else
                              none
                        else
                          none
                      else
                        none
                  else
                    none))) := Xc_es [] P_X12_remark 10 _ V
set_option maxRecDepth 100000 in
theorem s_X12_open (d : Nat) (V : XM) (a : Int) (b : Int) : Yf (d + 1) 239 [xr 14 0, xi a, xi b] V =
    ci (Yf d 203 [xr 14 0, xl a] V) (fun x2 V1 =>
    if x2 = 0 then
      some (xi (-1), V1)
    else
      ci (Yf d 236 [xr 14 0, xi a] V1) (fun x4 V3 =>
        if x4 = 0 then
          ci (Yf d 190 [xr 14 0, xi (-13)] V3) (fun x6 V5 =>
            some (xi x6, V5))
        else
          if 0 ≤ a ∧ a < 64 then
            if (V3 77 0 (a.toNat)) = 0 then
              if 0 ≤ a ∧ a < 64 then
                some (xi 0, (xu V3 77 0 (a.toNat) (b % 2)))
              else
                none
            else
              if 0 ≤ a ∧ a < 64 then
                some (xi 1, (xu V3 77 0 (a.toNat) (b % 2)))
              else
                none
          else
            none)) := Xc_es [] P_X12_open 5 _ V
set_option maxRecDepth 100000 in
theorem s_X12_among (d : Nat) (V : XM) (a : Int) (b : Int) : Yf (d + 1) 240 [xr 14 0, xi a, xl b] V =
    ci (Yf d 203 [xr 14 0, xl a] V) (fun x2 V1 =>
    Xf d 240 15 [xr 14 0, xi a, xl b, xr 0 0, xi x2, xi x2, xi 0, xr 0 0, xr 0 0, xr 0 0] [] V1) := Xc_es [15, 239] P_X12_among 1 _ V
set_option maxRecDepth 100000 in
theorem s_X12_among_15 (d : Nat) (V : XM) (l1 : Int) (l2 : Int) (l4 : Int) (l5 : Int) (l6 : Int) : Xf d 240 15 [xr 14 0, xi l1, xl l2, xr 0 0, xi l4, xi l5, xi l6, xr 0 0, xr 0 0, xr 0 0] [] V =
    if l6 < 64 then
    if (cmp3 (lAnd (lUshr l2 l6) 1) 1) = 0 then
      if l4 = 0 then
        if l5 = 0 then
          Xf d 240 15 [xr 14 0, xi l1, xl l2, xr 0 0, xi 0, xi 0, xi (w32 (l6 + 1)), xr 0 0, xr 0 0, xr 0 0] [] V
        else
          Xf d 240 15 [xr 14 0, xi l1, xl l2, xr 0 0, xi 0, xi 0, xi (w32 (l6 + 1)), xr 0 0, xr 0 0, xr 0 0] [] V
      else
        ci (Yf d 203 [xr 14 0, xl l6] V) (fun x2 V1 =>
          if x2 = 0 then
            if l5 = 0 then
              Xf d 240 15 [xr 14 0, xi l1, xl l2, xr 0 0, xi 0, xi 0, xi (w32 (l6 + 1)), xr 0 0, xr 0 0, xr 0 0] [] V1
            else
              Xf d 240 15 [xr 14 0, xi l1, xl l2, xr 0 0, xi 0, xi 0, xi (w32 (l6 + 1)), xr 0 0, xr 0 0, xr 0 0] [] V1
          else
            if l5 = 0 then
              Xf d 240 15 [xr 14 0, xi l1, xl l2, xr 0 0, xi 1, xi 0, xi (w32 (l6 + 1)), xr 0 0, xr 0 0, xr 0 0] [] V1
            else
              if l6 = l1 then
                Xf d 240 15 [xr 14 0, xi l1, xl l2, xr 0 0, xi 1, xi 0, xi (w32 (l6 + 1)), xr 0 0, xr 0 0, xr 0 0] [] V1
              else
                ci (Yf d 206 [xr 14 0, xi l6] V1) (fun x4 V3 =>
                  if x4 = 0 then
                    Xf d 240 15 [xr 14 0, xi l1, xl l2, xr 0 0, xi 1, xi 0, xi (w32 (l6 + 1)), xr 0 0, xr 0 0, xr 0 0] [] V3
                  else
                    Xf d 240 15 [xr 14 0, xi l1, xl l2, xr 0 0, xi 1, xi 1, xi (w32 (l6 + 1)), xr 0 0, xr 0 0, xr 0 0] [] V3))
    else
      Xf d 240 15 [xr 14 0, xi l1, xl l2, xr 0 0, xi l4, xi l5, xi (w32 (l6 + 1)), xr 0 0, xr 0 0, xr 0 0] [] V
  else
    if l4 = 0 then
      some (xi (-1), V)
    else
      if (cmp3 l2 0) = 0 then
        some (xi (-2), V)
      else
        ci (Yf d 207 [xr 14 0, xi l1] V) (fun x6 V5 =>
          if x6 = 0 then
            ci (Yf d 208 [xr 14 0, xi l1] V5) (fun x8 V7 =>
              if x8 = 0 then
                if l5 = 0 then
                  some (xi (-3), V7)
                else
                  if (V7 14 0 22) = 300 then
                    some (xi (-4), V7)
                  else
                    if 0 ≤ l1 ∧ l1 < 64 then
                      if 0 < (V7 80 0 (l1.toNat)) then
                        if 0 ≤ w32 (6 * l1) ∧ w32 (6 * l1) < 384 then
                          if (cmp3 (lAnd (lUshr l2 (V7 78 0 ((w32 (6 * l1)).toNat))) 1) 0) = 0 then
                            if 0 ≤ w32 (6 * l1) ∧ w32 (6 * l1) < 384 then
                              ci (Yf d 211 [xi (V7 79 0 ((w32 (6 * l1)).toNat))] V7) (fun x10 V9 =>
                                some (xi x10, V9))
                            else
                              none
                          else
                            if 0 ≤ l1 ∧ l1 < 64 then
                              if (cmp3 (V7 81 0 (l1.toNat)) 0) = 0 then
                                if (cmp3 l2 0) = 0 then
                                  ci (Yf d 213 [xr 14 0, xi l1] V7) (fun x12 V11 =>
                                    ci (Yf d 211 [xi x12] V11) (fun x14 V13 =>
                                      some (xi x14, V13)))
                                else
                                  Xf d 240 239 [xr 14 0, xi l1, xl l2, xr 0 0, xr 0 0, xr 0 0, xl l2, xr 0 0, xi (-9), xi (w32 ((V7 14 0 22) - 1))] [] V7
                              else
                                if 0 ≤ l1 ∧ l1 < 64 then
                                  if (cmp3 (lAnd (V7 81 0 (l1.toNat)) l2) 0) = 0 then
                                    ci (Yf d 213 [xr 14 0, xi l1] V7) (fun x16 V15 =>
                                      ci (Yf d 211 [xi x16] V15) (fun x18 V17 =>
                                        some (xi x18, V17)))
                                  else
                                    Xf d 240 239 [xr 14 0, xi l1, xl l2, xr 0 0, xr 0 0, xr 0 0, xl (lAnd (V7 81 0 (l1.toNat)) l2), xr 0 0, xi (-9), xi (w32 ((V7 14 0 22) - 1))] [] V7
                                else
                                  none
                            else
                              none
                        else
                          none
                      else
                        if 0 ≤ l1 ∧ l1 < 64 then
                          if (cmp3 (V7 81 0 (l1.toNat)) 0) = 0 then
                            if (cmp3 l2 0) = 0 then
                              ci (Yf d 213 [xr 14 0, xi l1] V7) (fun x20 V19 =>
                                ci (Yf d 211 [xi x20] V19) (fun x22 V21 =>
                                  some (xi x22, V21)))
                            else
                              Xf d 240 239 [xr 14 0, xi l1, xl l2, xr 0 0, xr 0 0, xr 0 0, xl l2, xr 0 0, xi (-9), xi (w32 ((V7 14 0 22) - 1))] [] V7
                          else
                            if 0 ≤ l1 ∧ l1 < 64 then
                              if (cmp3 (lAnd (V7 81 0 (l1.toNat)) l2) 0) = 0 then
                                ci (Yf d 213 [xr 14 0, xi l1] V7) (fun x24 V23 =>
                                  ci (Yf d 211 [xi x24] V23) (fun x26 V25 =>
                                    some (xi x26, V25)))
                              else
                                Xf d 240 239 [xr 14 0, xi l1, xl l2, xr 0 0, xr 0 0, xr 0 0, xl (lAnd (V7 81 0 (l1.toNat)) l2), xr 0 0, xi (-9), xi (w32 ((V7 14 0 22) - 1))] [] V7
                            else
                              none
                        else
                          none
                    else
                      none
              else
                some (xi (-3), V7))
          else
            some (xi (-3), V5)) := Xx_es [15, 239] P_X12_among 10 _ _ _ V
set_option maxRecDepth 100000 in
theorem s_X12_among_239 (d : Nat) (V : XM) (l1 : Int) (l2 : Int) (l6 : Int) (l8 : Int) (l9 : Int) : Xf d 240 239 [xr 14 0, xi l1, xl l2, xr 0 0, xr 0 0, xr 0 0, xl l6, xr 0 0, xi l8, xi l9] [] V =
    if l9 < 0 then
    if (cmp3 l6 0) = 0 then
      ci (Yf d 211 [xi l8] V) (fun x2 V1 =>
        some (xi x2, V1))
    else
      if 0 ≤ l1 ∧ l1 < 64 then
        ci (Yf d 210 [xr 14 0, xi 3, xi l1, xi (w32 l2), xi 0] (xu V 81 0 (l1.toNat) l6)) (fun x4 V3 =>
          some (xi x4, V3))
      else
        none
  else
    if 0 ≤ l9 ∧ l9 < 300 then
      if (V 85 0 (l9.toNat)) = 1 then
        if 0 ≤ l9 ∧ l9 < 300 then
          if (V 86 0 (l9.toNat)) = l1 then
            if 0 ≤ l9 ∧ l9 < 300 then
              if (cmp3 (lAnd (lUshr l2 (V 87 0 (l9.toNat))) 1) 1) = 0 then
                if 0 ≤ l9 ∧ l9 < 300 then
                  Xf d 240 239 [xr 14 0, xi l1, xl l2, xr 0 0, xr 0 0, xr 0 0, xl (lAnd l6 (lXor (lShl 1 (V 87 0 (l9.toNat))) (-1))), xr 0 0, xi l9, xi (w32 (l9 + (-1)))] [] V
                else
                  none
              else
                if 0 ≤ l9 ∧ l9 < 300 then
                  Xf d 240 239 [xr 14 0, xi l1, xl l2, xr 0 0, xr 0 0, xr 0 0, xl (lAnd l6 (lXor (lShl 1 (V 87 0 (l9.toNat))) (-1))), xr 0 0, xi l8, xi (w32 (l9 + (-1)))] [] V
                else
                  none
            else
              none
          else
            Xf d 240 239 [xr 14 0, xi l1, xl l2, xr 0 0, xr 0 0, xr 0 0, xl l6, xr 0 0, xi l8, xi (w32 (l9 + (-1)))] [] V
        else
          none
      else
        Xf d 240 239 [xr 14 0, xi l1, xl l2, xr 0 0, xr 0 0, xr 0 0, xl l6, xr 0 0, xi l8, xi (w32 (l9 + (-1)))] [] V
    else
      none := Xx_es [15, 239] P_X12_among 4 _ _ _ V
