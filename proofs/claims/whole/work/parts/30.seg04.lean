set_option maxRecDepth 100000 in
theorem s_X11_bit (d : Nat) (V : XM) (a : Int) : Yf (d + 1) 186 [xi a] V =
    some (xl (lShl 1 a), V) := Xc_es [] P_X11_bit 1 _ V
set_option maxRecDepth 100000 in
theorem s_X11_toldBy (d : Nat) (V : XM) (a : Int) (b : Int) : Yf (d + 1) 187 [xi a, xl b] V =
    if a = 0 then
    if (cmp3 b 0) = 0 then
      some (xl 0, V)
    else
      some (xl 1, V)
  else
    if a = 0 + 1 then
      some (xl (w8 (w32 b)), V)
    else
      if a = 0 + 1 + 1 then
        some (xl (w16 (w32 b)), V)
      else
        if a = 0 + 1 + 1 + 1 then
          some (xl (c16 (w32 b)), V)
        else
          if a = 0 + 1 + 1 + 1 + 1 then
            some (xl (w32 b), V)
          else
            if a = 0 + 1 + 1 + 1 + 1 + 1 then
              some (xl b, V)
            else
              if a = 0 + 1 + 1 + 1 + 1 + 1 + 1 then
                some (xl (fF2L (fL2F b)), V)
              else
                if a = 0 + 1 + 1 + 1 + 1 + 1 + 1 + 1 then
                  some (xl (fD2L (fL2D b)), V)
                else
                  some (xl b, V) := Xc_es [] P_X11_toldBy 4 _ V
set_option maxRecDepth 100000 in
theorem s_X12_in (d : Nat) (V : XM) (a : Int) (b : Int) (c : Int) : Yf (d + 1) 189 [xl a, xl b, xl c] V =
    if (cmp3 a b) < 0 then
    some (xi 0, V)
  else
    if 0 < (cmp3 a c) then
      some (xi 0, V)
    else
      some (xi 1, V) := Xc_es [] P_X12_in 3 _ V
set_option maxRecDepth 100000 in
theorem s_X12_faulty (d : Nat) (V : XM) (a : Int) : Yf (d + 1) 190 [xr 14 0, xi a] V =
    some (xi a, (xu V 14 0 0 (w32 ((-10) - a)))) := Xc_es [] P_X12_faulty 1 _ V
set_option maxRecDepth 100000 in
theorem s_X12_begin (d : Nat) (V : XM) : Yf (d + 1) 191 [xr 14 0] V =
    Xf d 191 13 [xr 14 0, xi 0] [] (xu (xu V 14 0 0 0) 14 0 1 6) := Xc_es [13, 88, 110] P_X12_begin 1 _ V
set_option maxRecDepth 100000 in
theorem s_X12_begin_13 (d : Nat) (V : XM) (l1 : Int) : Xf d 191 13 [xr 14 0, xi l1] [] V =
    if l1 < 6 then
    if l1 = 5 then
      if 0 ≤ l1 ∧ l1 < 24 then
        Xf d 191 13 [xr 14 0, xi (w32 (l1 + 1))] [] (xu V 67 0 (l1.toNat) 4)
      else
        none
    else
      if 0 ≤ l1 ∧ l1 < 24 then
        Xf d 191 13 [xr 14 0, xi (w32 (l1 + 1))] [] (xu V 67 0 (l1.toNat) 0)
      else
        none
  else
    Xf d 191 88 [xr 14 0, xi 0] [] (xu (xu (xu (xu (xu (xu (xu (xu (xu V 14 0 3 0) 14 0 9 0) 14 0 22 0) 14 0 29 0) 14 0 39 0) 14 0 45 0) 14 0 56 0) 14 0 27 0) 14 0 44 0) := Xx_es [13, 88, 110] P_X12_begin 3 _ _ _ V
set_option maxRecDepth 100000 in
theorem s_X12_begin_88 (d : Nat) (V : XM) (l1 : Int) : Xf d 191 88 [xr 14 0, xi l1] [] V =
    if l1 < 288 then
    if 0 ≤ l1 ∧ l1 < 288 then
      Xf d 191 88 [xr 14 0, xi (w32 (l1 + 1))] [] (xu V 71 0 (l1.toNat) 0)
    else
      none
  else
    Xf d 191 110 [xr 14 0, xi 0] [] V := Xx_es [13, 88, 110] P_X12_begin 2 _ _ _ V
set_option maxRecDepth 100000 in
theorem s_X12_begin_110 (d : Nat) (V : XM) (l1 : Int) : Xf d 191 110 [xr 14 0, xi l1] [] V =
    if l1 < 512 then
    if 0 ≤ l1 ∧ l1 < 512 then
      if 0 ≤ l1 ∧ l1 < 512 then
        if 0 ≤ l1 ∧ l1 < 512 then
          Xf d 191 110 [xr 14 0, xi (w32 (l1 + 1))] [] (xu (xu (xu V 95 0 (l1.toNat) 0) 96 0 (l1.toNat) (-9)) 97 0 (l1.toNat) (-9))
        else
          none
      else
        none
    else
      none
  else
    some (xi 0, V) := Xx_es [13, 88, 110] P_X12_begin 2 _ _ _ V
set_option maxRecDepth 100000 in
theorem s_X12_isKind (d : Nat) (V : XM) (a : Int) : Yf (d + 1) 192 [xr 14 0, xi a] V =
    ci (Yf d 189 [xl a, xl 0, xl (w32 ((V 14 0 1) - 1))] V) (fun x2 V1 =>
    if x2 = 0 ∨ x2 = 1 then
      some (xi x2, V1)
    else
      none) := Xc_es [] P_X12_isKind 1 _ V
set_option maxRecDepth 100000 in
theorem s_X12_isProperty (d : Nat) (V : XM) (a : Int) : Yf (d + 1) 193 [xr 14 0, xi a] V =
    ci (Yf d 189 [xl a, xl 0, xl (w32 ((V 14 0 3) - 1))] V) (fun x2 V1 =>
    if x2 = 0 ∨ x2 = 1 then
      some (xi x2, V1)
    else
      none) := Xc_es [] P_X12_isProperty 1 _ V
set_option maxRecDepth 100000 in
theorem s_X12_comesTo (d : Nat) (V : XM) (a : Int) (b : Int) : Yf (d + 1) 194 [xr 14 0, xi a, xi b] V =
    Xf d 194 2 [xr 14 0, xr 0 0, xi b, xi a] [] V := Xc_es [2] P_X12_comesTo 1 _ V
set_option maxRecDepth 100000 in
theorem s_X12_comesTo_2 (d : Nat) (V : XM) (l2 : Int) (l3 : Int) : Xf d 194 2 [xr 14 0, xr 0 0, xi l2, xi l3] [] V =
    if l3 = l2 then
    if l3 = l2 then
      some (xi 1, V)
    else
      some (xi 0, V)
  else
    if l3 = 0 then
      if l3 = l2 then
        some (xi 1, V)
      else
        some (xi 0, V)
    else
      if 0 ≤ l3 ∧ l3 < 24 then
        Xf d 194 2 [xr 14 0, xr 0 0, xi l2, xi (V 67 0 (l3.toNat))] [] V
      else
        none := Xx_es [2] P_X12_comesTo 4 _ _ _ V
set_option maxRecDepth 100000 in
theorem s_X12_baseOf (d : Nat) (V : XM) (a : Int) : Yf (d + 1) 195 [xr 14 0, xi a] V =
    Xf d 195 2 [xr 14 0, xr 0 0, xi a] [] V := Xc_es [2] P_X12_baseOf 1 _ V
set_option maxRecDepth 100000 in
theorem s_X12_baseOf_2 (d : Nat) (V : XM) (l2 : Int) : Xf d 195 2 [xr 14 0, xr 0 0, xi l2] [] V =
    if 5 < l2 then
    if 0 ≤ l2 ∧ l2 < 24 then
      Xf d 195 2 [xr 14 0, xr 0 0, xi (V 67 0 (l2.toNat))] [] V
    else
      none
  else
    some (xi l2, V) := Xx_es [2] P_X12_baseOf 2 _ _ _ V
set_option maxRecDepth 100000 in
theorem s_X12_kind (d : Nat) (V : XM) (a : Int) : Yf (d + 1) 196 [xr 14 0, xi a] V =
    ci (Yf d 192 [xr 14 0, xi a] V) (fun x2 V1 =>
    if x2 = 0 then
      some (xi (-1), V1)
    else
      if (V1 14 0 1) = 24 then
        some (xi (-4), V1)
      else
        if 0 ≤ V1 14 0 1 ∧ V1 14 0 1 < 24 then
          some (xi (w32 ((w32 ((V1 14 0 1) + 1)) - 1)), (xu (xu V1 67 0 ((V1 14 0 1).toNat) a) 14 0 1 (w32 ((V1 14 0 1) + 1))))
        else
          none) := Xc_es [] P_X12_kind 3 _ V
set_option maxRecDepth 100000 in
theorem s_X12_is (d : Nat) (V : XM) (a : Int) (b : Int) : Yf (d + 1) 197 [xr 14 0, xi a, xi b] V =
    ci (Yf d 192 [xr 14 0, xi a] V) (fun x2 V1 =>
    if x2 = 0 then
      some (xi (-1), V1)
    else
      ci (Yf d 192 [xr 14 0, xi b] V1) (fun x4 V3 =>
        if x4 = 0 then
          some (xi (-1), V3)
        else
          ci (Yf d 194 [xr 14 0, xi a, xi b] V3) (fun x6 V5 =>
            if x6 = 0 then
              some (xi 0, V5)
            else
              some (xi 1, V5)))) := Xc_es [] P_X12_is 4 _ V
set_option maxRecDepth 100000 in
theorem s_X12_property (d : Nat) (V : XM) (a : Int) (b : Int) (c : Int) : Yf (d + 1) 198 [xr 14 0, xi a, xi b, xi c] V =
    ci (Yf d 192 [xr 14 0, xi a] V) (fun x2 V1 =>
    if x2 = 0 then
      some (xi (-1), V1)
    else
      if b = 8 then
        ci (Yf d 192 [xr 14 0, xi c] V1) (fun x4 V3 =>
          if x4 = 0 then
            some (xi (-1), V3)
          else
            ci (Yf d 189 [xl b, xl 0, xl 8] V3) (fun x6 V5 =>
              if x6 = 0 then
                some (xi (-2), V5)
              else
                if (V5 14 0 3) = 12 then
                  some (xi (-4), V5)
                else
                  if 0 ≤ V5 14 0 3 ∧ V5 14 0 3 < 12 then
                    if 0 ≤ V5 14 0 3 ∧ V5 14 0 3 < 12 then
                      if b = 8 then
                        ci (Yf d 195 [xr 14 0, xi c] (xu (xu V5 68 0 ((V5 14 0 3).toNat) a) 69 0 ((V5 14 0 3).toNat) b)) (fun x8 V7 =>
                          if 0 ≤ V5 14 0 3 ∧ V5 14 0 3 < 12 then
                            Xf d 198 98 [xr 14 0, xr 0 0, xr 0 0, xr 0 0, xi 0] [] (xu V7 70 0 ((V5 14 0 3).toNat) x8)
                          else
                            none)
                      else
                        if 0 ≤ V5 14 0 3 ∧ V5 14 0 3 < 12 then
                          Xf d 198 98 [xr 14 0, xr 0 0, xr 0 0, xr 0 0, xi 0] [] (xu (xu (xu V5 68 0 ((V5 14 0 3).toNat) a) 69 0 ((V5 14 0 3).toNat) b) 70 0 ((V5 14 0 3).toNat) 0)
                        else
                          none
                    else
                      none
                  else
                    none))
      else
        ci (Yf d 189 [xl b, xl 0, xl 8] V1) (fun x10 V9 =>
          if x10 = 0 then
            some (xi (-2), V9)
          else
            if (V9 14 0 3) = 12 then
              some (xi (-4), V9)
            else
              if 0 ≤ V9 14 0 3 ∧ V9 14 0 3 < 12 then
                if 0 ≤ V9 14 0 3 ∧ V9 14 0 3 < 12 then
                  if b = 8 then
                    ci (Yf d 195 [xr 14 0, xi c] (xu (xu V9 68 0 ((V9 14 0 3).toNat) a) 69 0 ((V9 14 0 3).toNat) b)) (fun x12 V11 =>
                      if 0 ≤ V9 14 0 3 ∧ V9 14 0 3 < 12 then
                        Xf d 198 98 [xr 14 0, xr 0 0, xr 0 0, xr 0 0, xi 0] [] (xu V11 70 0 ((V9 14 0 3).toNat) x12)
                      else
                        none)
                  else
                    if 0 ≤ V9 14 0 3 ∧ V9 14 0 3 < 12 then
                      Xf d 198 98 [xr 14 0, xr 0 0, xr 0 0, xr 0 0, xi 0] [] (xu (xu (xu V9 68 0 ((V9 14 0 3).toNat) a) 69 0 ((V9 14 0 3).toNat) b) 70 0 ((V9 14 0 3).toNat) 0)
                    else
                      none
                else
                  none
              else
                none)) := Xc_es [98] P_X12_property 6 _ V
set_option maxRecDepth 100000 in
theorem s_X12_property_98 (d : Nat) (V : XM) (l4 : Int) : Xf d 198 98 [xr 14 0, xr 0 0, xr 0 0, xr 0 0, xi l4] [] V =
    if l4 < 64 then
    if 0 ≤ w32 ((w32 (64 * (V 14 0 3))) + l4) ∧ w32 ((w32 (64 * (V 14 0 3))) + l4) < 768 then
      Xf d 198 98 [xr 14 0, xr 0 0, xr 0 0, xr 0 0, xi (w32 (l4 + 1))] [] (xu V 83 0 ((w32 ((w32 (64 * (V 14 0 3))) + l4)).toNat) (-9))
    else
      none
  else
    some (xi (w32 ((w32 ((V 14 0 3) + 1)) - 1)), (xu V 14 0 3 (w32 ((V 14 0 3) + 1)))) := Xx_es [98] P_X12_property 2 _ _ _ V
set_option maxRecDepth 100000 in
theorem s_X12_cell (d : Nat) (V : XM) (a : Int) (b : Int) : Yf (d + 1) 199 [xi a, xl b] V =
    if a = 0 then
    if (cmp3 b 0) = 0 then
      some (xl 0, V)
    else
      some (xl 1, V)
  else
    if a = 0 + 1 then
      some (xl (w8 (w32 b)), V)
    else
      if a = 0 + 1 + 1 then
        some (xl (w16 (w32 b)), V)
      else
        if a = 0 + 1 + 1 + 1 then
          some (xl (lAnd b 65535), V)
        else
          if a = 0 + 1 + 1 + 1 + 1 then
            some (xl (w32 b), V)
          else
            if a = 0 + 1 + 1 + 1 + 1 + 1 then
              some (xl b, V)
            else
              if a = 0 + 1 + 1 + 1 + 1 + 1 + 1 then
                some (xl (fF2L (fL2F b)), V)
              else
                if a = 0 + 1 + 1 + 1 + 1 + 1 + 1 + 1 then
                  some (xl (fD2L (fL2D b)), V)
                else
                  some (xl b, V) := Xc_es [] P_X12_cell 4 _ V
set_option maxRecDepth 100000 in
theorem s_X12_isUnknown (d : Nat) (V : XM) (a : Int) (b : Int) : Yf (d + 1) 200 [xr 14 0, xi a, xl b] V =
    if 0 ≤ a ∧ a < 12 then
    if (V 69 0 (a.toNat)) = 8 then
      if (cmp3 b (-9)) = 0 then
        some (xi 0, V)
      else
        ci (Yf d 189 [xl b, xl 0, xl (w64 ((V 14 0 9) - 1))] V) (fun x2 V1 =>
          if x2 = 0 then
            some (xi 1, V1)
          else
            some (xi 0, V1))
    else
      some (xi 0, V)
  else
    none := Xc_es [] P_X12_isUnknown 3 _ V
set_option maxRecDepth 100000 in
theorem s_X12_isStored (d : Nat) (V : XM) (a : Int) (b : Int) : Yf (d + 1) 201 [xr 14 0, xi a, xl b] V =
    if 0 ≤ a ∧ a < 12 then
    if (V 69 0 (a.toNat)) = 8 then
      if (cmp3 b (-9)) = 0 then
        some (xi 1, V)
      else
        if 0 ≤ w32 b ∧ w32 b < 64 then
          ci (Yf d 195 [xr 14 0, xi (V 73 0 ((w32 b).toNat))] V) (fun x2 V1 =>
            if 0 ≤ a ∧ a < 12 then
              ci (Yf d 194 [xr 14 0, xi x2, xi (V1 70 0 (a.toNat))] V1) (fun x4 V3 =>
                if x4 = 0 then
                  some (xi 0, V3)
                else
                  some (xi 1, V3))
            else
              none)
        else
          none
    else
      some (xi 1, V)
  else
    none := Xc_es [] P_X12_isStored 3 _ V
set_option maxRecDepth 100000 in
theorem s_X12_usual (d : Nat) (V : XM) (a : Int) (b : Int) (c : Int) : Yf (d + 1) 202 [xr 14 0, xi a, xi b, xl c] V =
    ci (Yf d 192 [xr 14 0, xi a] V) (fun x2 V1 =>
    if x2 = 0 then
      some (xi (-1), V1)
    else
      ci (Yf d 193 [xr 14 0, xi b] V1) (fun x4 V3 =>
        if x4 = 0 then
          some (xi (-1), V3)
        else
          ci (Yf d 200 [xr 14 0, xi b, xl c] V3) (fun x6 V5 =>
            if x6 = 0 then
              if 0 ≤ b ∧ b < 12 then
                ci (Yf d 194 [xr 14 0, xi a, xi (V5 68 0 (b.toNat))] V5) (fun x8 V7 =>
                  if x8 = 0 then
                    some (xi (-3), V7)
                  else
                    ci (Yf d 201 [xr 14 0, xi b, xl c] V7) (fun x10 V9 =>
                      if x10 = 0 then
                        ci (Yf d 190 [xr 14 0, xi (-14)] V9) (fun x12 V11 =>
                          some (xi x12, V11))
                      else
                        if 0 ≤ w32 ((w32 (12 * a)) + b) ∧ w32 ((w32 (12 * a)) + b) < 288 then
                          if 0 ≤ b ∧ b < 12 then
                            cl (Yf d 199 [xi (V9 69 0 (b.toNat)), xl c] (xu V9 71 0 ((w32 ((w32 (12 * a)) + b)).toNat) 1)) (fun x14 V13 =>
                              if 0 ≤ w32 ((w32 (12 * a)) + b) ∧ w32 ((w32 (12 * a)) + b) < 288 then
                                some (xi 1, (xu V13 72 0 ((w32 ((w32 (12 * a)) + b)).toNat) x14))
                              else
                                none)
                          else
                            none
                        else
                          none))
              else
                none
            else
              some (xi (-1), V5)))) := Xc_es [] P_X12_usual 4 _ V
set_option maxRecDepth 100000 in
theorem s_X12_isThing (d : Nat) (V : XM) (a : Int) : Yf (d + 1) 203 [xr 14 0, xl a] V =
    ci (Yf d 189 [xl a, xl 0, xl (w64 ((V 14 0 9) - 1))] V) (fun x2 V1 =>
    if x2 = 0 ∨ x2 = 1 then
      some (xi x2, V1)
    else
      none) := Xc_es [] P_X12_isThing 1 _ V
set_option maxRecDepth 100000 in
theorem s_X12_base (d : Nat) (V : XM) (a : Int) : Yf (d + 1) 204 [xr 14 0, xi a] V =
    if 0 ≤ a ∧ a < 64 then
    ci (Yf d 195 [xr 14 0, xi (V 73 0 (a.toNat))] V) (fun x2 V1 =>
      some (xi x2, V1))
  else
    none := Xc_es [] P_X12_base 1 _ V
set_option maxRecDepth 100000 in
theorem s_X12_isCarrier (d : Nat) (V : XM) (a : Int) : Yf (d + 1) 205 [xr 14 0, xi a] V =
    ci (Yf d 204 [xr 14 0, xi a] V) (fun x2 V1 =>
    if x2 = 4 then
      some (xi 1, V1)
    else
      ci (Yf d 204 [xr 14 0, xi a] V1) (fun x4 V3 =>
        if x4 = 5 then
          some (xi 1, V3)
        else
          some (xi 0, V3))) := Xc_es [] P_X12_isCarrier 3 _ V
set_option maxRecDepth 100000 in
theorem s_X12_isHolder (d : Nat) (V : XM) (a : Int) : Yf (d + 1) 206 [xr 14 0, xi a] V =
    ci (Yf d 204 [xr 14 0, xi a] V) (fun x2 V1 =>
    if x2 = 1 then
      some (xi 1, V1)
    else
      ci (Yf d 205 [xr 14 0, xi a] V1) (fun x4 V3 =>
        if x4 = 0 then
          some (xi 0, V3)
        else
          some (xi 1, V3))) := Xc_es [] P_X12_isHolder 3 _ V
set_option maxRecDepth 100000 in
theorem s_X12_isFixed (d : Nat) (V : XM) (a : Int) : Yf (d + 1) 207 [xr 14 0, xi a] V =
    ci (Yf d 204 [xr 14 0, xi a] V) (fun x2 V1 =>
    if x2 = 1 then
      some (xi 1, V1)
    else
      ci (Yf d 204 [xr 14 0, xi a] V1) (fun x4 V3 =>
        if x4 = 2 then
          some (xi 1, V3)
        else
          some (xi 0, V3))) := Xc_es [] P_X12_isFixed 3 _ V
set_option maxRecDepth 100000 in
theorem s_X12_isBackdrop (d : Nat) (V : XM) (a : Int) : Yf (d + 1) 208 [xr 14 0, xi a] V =
    ci (Yf d 204 [xr 14 0, xi a] V) (fun x2 V1 =>
    if x2 = 3 then
      some (xi 1, V1)
    else
      some (xi 0, V1)) := Xc_es [] P_X12_isBackdrop 3 _ V
set_option maxRecDepth 100000 in
theorem s_X12_thing (d : Nat) (V : XM) (a : Int) (b : Int) : Yf (d + 1) 209 [xr 14 0, xi a, xi b] V =
    ci (Yf d 192 [xr 14 0, xi a] V) (fun x2 V1 =>
    if x2 = 0 then
      some (xi (-1), V1)
    else
      ci (Yf d 189 [xl b, xl 0, xl 1000] V1) (fun x4 V3 =>
        if x4 = 0 then
          some (xi (-2), V3)
        else
          if (V3 14 0 9) = 64 then
            some (xi (-4), V3)
          else
            if 0 ≤ V3 14 0 9 ∧ V3 14 0 9 < 64 then
              if 0 ≤ V3 14 0 9 ∧ V3 14 0 9 < 64 then
                if 0 ≤ V3 14 0 9 ∧ V3 14 0 9 < 64 then
                  if 0 ≤ V3 14 0 9 ∧ V3 14 0 9 < 64 then
                    if 0 ≤ V3 14 0 9 ∧ V3 14 0 9 < 64 then
                      if 0 ≤ V3 14 0 9 ∧ V3 14 0 9 < 64 then
                        if 0 ≤ V3 14 0 9 ∧ V3 14 0 9 < 64 then
                          if 0 ≤ V3 14 0 9 ∧ V3 14 0 9 < 64 then
                            some (xi (V3 14 0 9), (xu (xu (xu (xu (xu (xu (xu (xu (xu V3 14 0 9 (w32 ((V3 14 0 9) + 1))) 73 0 ((V3 14 0 9).toNat) a) 74 0 ((V3 14 0 9).toNat) b) 75 0 ((V3 14 0 9).toNat) b) 76 0 ((V3 14 0 9).toNat) b) 77 0 ((V3 14 0 9).toNat) 0) 80 0 ((V3 14 0 9).toNat) 0) 81 0 ((V3 14 0 9).toNat) 0) 82 0 ((V3 14 0 9).toNat) (-9)))
                          else
                            none
                        else
                          none
                      else
                        none
                    else
                      none
                  else
                    none
                else
                  none
              else
                none
            else
              none)) := Xc_es [] P_X12_thing 4 _ V
set_option maxRecDepth 100000 in
theorem s_X12_tell (d : Nat) (V : XM) (a : Int) (b : Int) (c : Int) (e : Int) : Yf (d + 1) 210 [xr 14 0, xi a, xi b, xi c, xi e] V =
    if 0 ≤ V 14 0 22 ∧ V 14 0 22 < 300 then
    if 0 ≤ V 14 0 22 ∧ V 14 0 22 < 300 then
      if 0 ≤ V 14 0 22 ∧ V 14 0 22 < 300 then
        if 0 ≤ V 14 0 22 ∧ V 14 0 22 < 300 then
          some (xi (w32 ((w32 ((V 14 0 22) + 1)) - 1)), (xu (xu (xu (xu (xu V 85 0 ((V 14 0 22).toNat) a) 86 0 ((V 14 0 22).toNat) b) 87 0 ((V 14 0 22).toNat) c) 88 0 ((V 14 0 22).toNat) e) 14 0 22 (w32 ((V 14 0 22) + 1))))
        else
          none
      else
        none
    else
      none
  else
    none := Xc_es [] P_X12_tell 1 _ V
set_option maxRecDepth 100000 in
theorem s_X12_against (d : Nat) (V : XM) (a : Int) : Yf (d + 1) 211 [xi a] V =
    some (xi (w32 ((-100) - a)), V) := Xc_es [] P_X12_against 1 _ V
set_option maxRecDepth 100000 in
theorem s_X12_first (d : Nat) (V : XM) (a : Int) (b : Int) (c : Int) : Yf (d + 1) 212 [xr 14 0, xi a, xi b, xi c] V =
    Xf d 212 3 [xr 14 0, xi a, xi b, xi c, xi 0] [] V := Xc_es [3] P_X12_first 1 _ V
set_option maxRecDepth 100000 in
theorem s_X12_first_3 (d : Nat) (V : XM) (l1 : Int) (l2 : Int) (l3 : Int) (l4 : Int) : Xf d 212 3 [xr 14 0, xi l1, xi l2, xi l3, xi l4] [] V =
    if l4 < (V 14 0 22) then
    if 0 ≤ l4 ∧ l4 < 300 then
      if (V 85 0 (l4.toNat)) = l1 then
        if 0 ≤ l4 ∧ l4 < 300 then
          if (V 86 0 (l4.toNat)) = l2 then
            if 0 ≤ l4 ∧ l4 < 300 then
              if (V 87 0 (l4.toNat)) = l3 then
                some (xi l4, V)
              else
                Xf d 212 3 [xr 14 0, xi l1, xi l2, xi l3, xi (w32 (l4 + 1))] [] V
            else
              none
          else
            Xf d 212 3 [xr 14 0, xi l1, xi l2, xi l3, xi (w32 (l4 + 1))] [] V
        else
          none
      else
        Xf d 212 3 [xr 14 0, xi l1, xi l2, xi l3, xi (w32 (l4 + 1))] [] V
    else
      none
  else
    some (xi (-9), V) := Xx_es [3] P_X12_first 2 _ _ _ V
set_option maxRecDepth 100000 in
theorem s_X12_latestAmong (d : Nat) (V : XM) (a : Int) : Yf (d + 1) 213 [xr 14 0, xi a] V =
    Xf d 213 5 [xr 14 0, xi a, xi (-9), xi 0] [] V := Xc_es [5] P_X12_latestAmong 1 _ V
set_option maxRecDepth 100000 in
theorem s_X12_latestAmong_5 (d : Nat) (V : XM) (l1 : Int) (l2 : Int) (l3 : Int) : Xf d 213 5 [xr 14 0, xi l1, xi l2, xi l3] [] V =
    if l3 < (V 14 0 22) then
    if 0 ≤ l3 ∧ l3 < 300 then
      if (V 85 0 (l3.toNat)) = 3 then
        if 0 ≤ l3 ∧ l3 < 300 then
          if (V 86 0 (l3.toNat)) = l1 then
            Xf d 213 5 [xr 14 0, xi l1, xi l3, xi (w32 (l3 + 1))] [] V
          else
            Xf d 213 5 [xr 14 0, xi l1, xi l2, xi (w32 (l3 + 1))] [] V
        else
          none
      else
        Xf d 213 5 [xr 14 0, xi l1, xi l2, xi (w32 (l3 + 1))] [] V
    else
      none
  else
    some (xi l2, V) := Xx_es [5] P_X12_latestAmong 3 _ _ _ V
set_option maxRecDepth 100000 in
theorem s_X12_isWithin (d : Nat) (V : XM) (a : Int) (b : Int) : Yf (d + 1) 214 [xr 14 0, xi a, xi b] V =
    Xf d 214 2 [xr 14 0, xr 0 0, xi b, xi a] [] V := Xc_es [2] P_X12_isWithin 1 _ V
set_option maxRecDepth 100000 in
theorem s_X12_isWithin_2 (d : Nat) (V : XM) (l2 : Int) (l3 : Int) : Xf d 214 2 [xr 14 0, xr 0 0, xi l2, xi l3] [] V =
    if l3 = l2 then
    if l3 = l2 then
      some (xi 1, V)
    else
      some (xi 0, V)
  else
    if 0 ≤ l3 ∧ l3 < 64 then
      if 0 < (V 80 0 (l3.toNat)) then
        if 0 ≤ w32 (6 * l3) ∧ w32 (6 * l3) < 384 then
          Xf d 214 2 [xr 14 0, xr 0 0, xi l2, xi (V 78 0 ((w32 (6 * l3)).toNat))] [] V
        else
          none
      else
        if l3 = l2 then
          some (xi 1, V)
        else
          some (xi 0, V)
    else
      none := Xx_es [2] P_X12_isWithin 4 _ _ _ V
set_option maxRecDepth 100000 in
theorem s_X12_placeOf (d : Nat) (V : XM) (a : Int) : Yf (d + 1) 215 [xr 14 0, xi a] V =
    if 0 ≤ a ∧ a < 64 then
    if (V 80 0 (a.toNat)) = 0 then
      some (xi (-9), V)
    else
      if 0 ≤ w32 (6 * a) ∧ w32 (6 * a) < 384 then
        some (xi (V 78 0 ((w32 (6 * a)).toNat)), V)
      else
        none
  else
    none := Xc_es [] P_X12_placeOf 3 _ V
set_option maxRecDepth 100000 in
theorem s_X12_nth (d : Nat) (V : XM) (a : Int) (b : Int) : Yf (d + 1) 216 [xr 14 0, xi a, xi b] V =
    Xf d 216 2 [xr 14 0, xi a, xi b, xi 0] [] V := Xc_es [2] P_X12_nth 1 _ V
set_option maxRecDepth 100000 in
theorem s_X12_nth_2 (d : Nat) (V : XM) (l1 : Int) (l2 : Int) (l3 : Int) : Xf d 216 2 [xr 14 0, xi l1, xi l2, xi l3] [] V =
    if 0 ≤ l1 ∧ l1 < 64 then
    if l3 < (V 80 0 (l1.toNat)) then
      if 0 ≤ w32 ((w32 (6 * l1)) + l3) ∧ w32 ((w32 (6 * l1)) + l3) < 384 then
        if (V 78 0 ((w32 ((w32 (6 * l1)) + l3)).toNat)) = l2 then
          some (xi l3, V)
        else
          Xf d 216 2 [xr 14 0, xi l1, xi l2, xi (w32 (l3 + 1))] [] V
      else
        none
    else
      some (xi (-9), V)
  else
    none := Xx_es [2] P_X12_nth 2 _ _ _ V
set_option maxRecDepth 100000 in
theorem s_X12_held (d : Nat) (V : XM) (a : Int) : Yf (d + 1) 217 [xr 14 0, xi a] V =
    Xf d 217 4 [xr 14 0, xi a, xi 0, xi 0] [] V := Xc_es [4] P_X12_held 1 _ V
set_option maxRecDepth 100000 in
theorem s_X12_held_4 (d : Nat) (V : XM) (l1 : Int) (l2 : Int) (l3 : Int) : Xf d 217 4 [xr 14 0, xi l1, xi l2, xi l3] [] V =
    if l3 < (V 14 0 9) then
    ci (Yf d 208 [xr 14 0, xi l3] V) (fun x2 V1 =>
      if x2 = 0 then
        ci (Yf d 215 [xr 14 0, xi l3] V1) (fun x4 V3 =>
          if x4 = l1 then
            Xf d 217 4 [xr 14 0, xi l1, xi (w32 (l2 + 1)), xi (w32 (l3 + 1))] [] V3
          else
            Xf d 217 4 [xr 14 0, xi l1, xi (w32 (l2 + 0)), xi (w32 (l3 + 1))] [] V3)
      else
        Xf d 217 4 [xr 14 0, xi l1, xi (w32 (l2 + 0)), xi (w32 (l3 + 1))] [] V1)
  else
    some (xi l2, V) := Xx_es [4] P_X12_held 3 _ _ _ V
set_option maxRecDepth 100000 in
theorem s_X12_pairAgainst (d : Nat) (V : XM) (a : Int) (b : Int) : Yf (d + 1) 218 [xr 14 0, xi a, xi b] V =
    Xf d 218 2 [xr 14 0, xi a, xi b, xi 0, xr 0 0, xr 0 0] [] V := Xc_es [2] P_X12_pairAgainst 1 _ V
set_option maxRecDepth 100000 in
theorem s_X12_pairAgainst_2 (d : Nat) (V : XM) (l1 : Int) (l2 : Int) (l3 : Int) : Xf d 218 2 [xr 14 0, xi l1, xi l2, xi l3, xr 0 0, xr 0 0] [] V =
    if l3 < (V 14 0 22) then
    if 0 ≤ l3 ∧ l3 < 300 then
      if (V 85 0 (l3.toNat)) = 4 then
        if 0 ≤ l3 ∧ l3 < 300 then
          if (V 86 0 (l3.toNat)) = l1 then
            if 0 ≤ l3 ∧ l3 < 300 then
              if (V 86 0 (l3.toNat)) = l1 then
                if 0 ≤ l3 ∧ l3 < 300 then
                  ci (Yf d 215 [xr 14 0, xi (V 87 0 (l3.toNat))] V) (fun x2 V1 =>
                    if x2 = (-9) then
                      Xf d 218 2 [xr 14 0, xi l1, xi l2, xi (w32 (l3 + 1)), xr 0 0, xr 0 0] [] V1
                    else
                      if x2 = l2 then
                        if 0 ≤ l3 ∧ l3 < 300 then
                          if (V1 88 0 (l3.toNat)) = 1 then
                            Xf d 218 2 [xr 14 0, xi l1, xi l2, xi (w32 (l3 + 1)), xr 0 0, xr 0 0] [] V1
                          else
                            some (xi l3, V1)
                        else
                          none
                      else
                        if 0 ≤ l3 ∧ l3 < 300 then
                          if (V1 88 0 (l3.toNat)) = 1 then
                            some (xi l3, V1)
                          else
                            Xf d 218 2 [xr 14 0, xi l1, xi l2, xi (w32 (l3 + 1)), xr 0 0, xr 0 0] [] V1
                        else
                          none)
                else
                  none
              else
                if 0 ≤ l3 ∧ l3 < 300 then
                  ci (Yf d 215 [xr 14 0, xi (V 86 0 (l3.toNat))] V) (fun x4 V3 =>
                    if x4 = (-9) then
                      Xf d 218 2 [xr 14 0, xi l1, xi l2, xi (w32 (l3 + 1)), xr 0 0, xr 0 0] [] V3
                    else
                      if x4 = l2 then
                        if 0 ≤ l3 ∧ l3 < 300 then
                          if (V3 88 0 (l3.toNat)) = 1 then
                            Xf d 218 2 [xr 14 0, xi l1, xi l2, xi (w32 (l3 + 1)), xr 0 0, xr 0 0] [] V3
                          else
                            some (xi l3, V3)
                        else
                          none
                      else
                        if 0 ≤ l3 ∧ l3 < 300 then
                          if (V3 88 0 (l3.toNat)) = 1 then
                            some (xi l3, V3)
                          else
                            Xf d 218 2 [xr 14 0, xi l1, xi l2, xi (w32 (l3 + 1)), xr 0 0, xr 0 0] [] V3
                        else
                          none)
                else
                  none
            else
              none
          else
            if 0 ≤ l3 ∧ l3 < 300 then
              if (V 87 0 (l3.toNat)) = l1 then
                if 0 ≤ l3 ∧ l3 < 300 then
                  if (V 86 0 (l3.toNat)) = l1 then
                    if 0 ≤ l3 ∧ l3 < 300 then
                      ci (Yf d 215 [xr 14 0, xi (V 87 0 (l3.toNat))] V) (fun x6 V5 =>
                        if x6 = (-9) then
                          Xf d 218 2 [xr 14 0, xi l1, xi l2, xi (w32 (l3 + 1)), xr 0 0, xr 0 0] [] V5
                        else
                          if x6 = l2 then
                            if 0 ≤ l3 ∧ l3 < 300 then
                              if (V5 88 0 (l3.toNat)) = 1 then
                                Xf d 218 2 [xr 14 0, xi l1, xi l2, xi (w32 (l3 + 1)), xr 0 0, xr 0 0] [] V5
                              else
                                some (xi l3, V5)
                            else
                              none
                          else
                            if 0 ≤ l3 ∧ l3 < 300 then
                              if (V5 88 0 (l3.toNat)) = 1 then
                                some (xi l3, V5)
                              else
                                Xf d 218 2 [xr 14 0, xi l1, xi l2, xi (w32 (l3 + 1)), xr 0 0, xr 0 0] [] V5
                            else
                              none)
                    else
                      none
                  else
                    if 0 ≤ l3 ∧ l3 < 300 then
                      ci (Yf d 215 [xr 14 0, xi (V 86 0 (l3.toNat))] V) (fun x8 V7 =>
                        if x8 = (-9) then
                          Xf d 218 2 [xr 14 0, xi l1, xi l2, xi (w32 (l3 + 1)), xr 0 0, xr 0 0] [] V7
                        else
                          if x8 = l2 then
                            if 0 ≤ l3 ∧ l3 < 300 then
                              if (V7 88 0 (l3.toNat)) = 1 then
                                Xf d 218 2 [xr 14 0, xi l1, xi l2, xi (w32 (l3 + 1)), xr 0 0, xr 0 0] [] V7
                              else
                                some (xi l3, V7)
                            else
                              none
                          else
                            if 0 ≤ l3 ∧ l3 < 300 then
                              if (V7 88 0 (l3.toNat)) = 1 then
                                some (xi l3, V7)
                              else
                                Xf d 218 2 [xr 14 0, xi l1, xi l2, xi (w32 (l3 + 1)), xr 0 0, xr 0 0] [] V7
                            else
                              none)
                    else
                      none
                else
                  none
              else
                Xf d 218 2 [xr 14 0, xi l1, xi l2, xi (w32 (l3 + 1)), xr 0 0, xr 0 0] [] V
            else
              none
        else
          none
      else
        Xf d 218 2 [xr 14 0, xi l1, xi l2, xi (w32 (l3 + 1)), xr 0 0, xr 0 0] [] V
    else
      none
  else
    some (xi (-9), V) := Xx_es [2] P_X12_pairAgainst 9 _ _ _ V
set_option maxRecDepth 100000 in
theorem s_X12_putAgainst (d : Nat) (V : XM) (a : Int) (b : Int) : Yf (d + 1) 219 [xr 14 0, xi a, xi b] V =
    ci (Yf d 208 [xr 14 0, xi a] V) (fun x2 V1 =>
    if x2 = 0 then
      if 0 ≤ a ∧ a < 64 then
        if 0 < (V1 80 0 (a.toNat)) then
          if 0 ≤ w32 (6 * a) ∧ w32 (6 * a) < 384 then
            some (xi (V1 79 0 ((w32 (6 * a)).toNat)), V1)
          else
            none
        else
          ci (Yf d 212 [xr 14 0, xi 1, xi a, xi b] V1) (fun x4 V3 =>
            if x4 = (-9) then
              if 0 ≤ a ∧ a < 64 then
                if (cmp3 (V3 81 0 (a.toNat)) 0) = 0 then
                  if x2 = 0 then
                    if 0 ≤ b ∧ b < 64 then
                      if (V3 82 0 (b.toNat)) = (-9) then
                        ci (Yf d 218 [xr 14 0, xi a, xi b] V3) (fun x6 V5 =>
                          some (xi x6, V5))
                      else
                        ci (Yf d 217 [xr 14 0, xi b] V3) (fun x8 V7 =>
                          if 0 ≤ b ∧ b < 64 then
                            if 0 ≤ V7 82 0 (b.toNat) ∧ V7 82 0 (b.toNat) < 300 then
                              if x8 < (V7 87 0 ((V7 82 0 (b.toNat)).toNat)) then
                                ci (Yf d 218 [xr 14 0, xi a, xi b] V7) (fun x10 V9 =>
                                  some (xi x10, V9))
                              else
                                if 0 ≤ b ∧ b < 64 then
                                  some (xi (V7 82 0 (b.toNat)), V7)
                                else
                                  none
                            else
                              none
                          else
                            none)
                    else
                      none
                  else
                    ci (Yf d 218 [xr 14 0, xi a, xi b] V3) (fun x12 V11 =>
                      some (xi x12, V11))
                else
                  if 0 ≤ a ∧ a < 64 then
                    if (cmp3 (lAnd (lUshr (V3 81 0 (a.toNat)) b) 1) 0) = 0 then
                      ci (Yf d 213 [xr 14 0, xi a] V3) (fun x14 V13 =>
                        some (xi x14, V13))
                    else
                      if x2 = 0 then
                        if 0 ≤ b ∧ b < 64 then
                          if (V3 82 0 (b.toNat)) = (-9) then
                            ci (Yf d 218 [xr 14 0, xi a, xi b] V3) (fun x16 V15 =>
                              some (xi x16, V15))
                          else
                            ci (Yf d 217 [xr 14 0, xi b] V3) (fun x18 V17 =>
                              if 0 ≤ b ∧ b < 64 then
                                if 0 ≤ V17 82 0 (b.toNat) ∧ V17 82 0 (b.toNat) < 300 then
                                  if x18 < (V17 87 0 ((V17 82 0 (b.toNat)).toNat)) then
                                    ci (Yf d 218 [xr 14 0, xi a, xi b] V17) (fun x20 V19 =>
                                      some (xi x20, V19))
                                  else
                                    if 0 ≤ b ∧ b < 64 then
                                      some (xi (V17 82 0 (b.toNat)), V17)
                                    else
                                      none
                                else
                                  none
                              else
                                none)
                        else
                          none
                      else
                        ci (Yf d 218 [xr 14 0, xi a, xi b] V3) (fun x22 V21 =>
                          some (xi x22, V21))
                  else
                    none
              else
                none
            else
              some (xi x4, V3))
      else
        none
    else
      ci (Yf d 212 [xr 14 0, xi 1, xi a, xi b] V1) (fun x24 V23 =>
        if x24 = (-9) then
          if 0 ≤ a ∧ a < 64 then
            if (cmp3 (V23 81 0 (a.toNat)) 0) = 0 then
              if x2 = 0 then
                if 0 ≤ b ∧ b < 64 then
                  if (V23 82 0 (b.toNat)) = (-9) then
                    ci (Yf d 218 [xr 14 0, xi a, xi b] V23) (fun x26 V25 =>
                      some (xi x26, V25))
                  else
                    ci (Yf d 217 [xr 14 0, xi b] V23) (fun x28 V27 =>
                      if 0 ≤ b ∧ b < 64 then
                        if 0 ≤ V27 82 0 (b.toNat) ∧ V27 82 0 (b.toNat) < 300 then
                          if x28 < (V27 87 0 ((V27 82 0 (b.toNat)).toNat)) then
                            ci (Yf d 218 [xr 14 0, xi a, xi b] V27) (fun x30 V29 =>
                              some (xi x30, V29))
                          else
                            if 0 ≤ b ∧ b < 64 then
                              some (xi (V27 82 0 (b.toNat)), V27)
                            else
                              none
                        else
                          none
                      else
                        none)
                else
                  none
              else
                ci (Yf d 218 [xr 14 0, xi a, xi b] V23) (fun x32 V31 =>
                  some (xi x32, V31))
            else
              if 0 ≤ a ∧ a < 64 then
                if (cmp3 (lAnd (lUshr (V23 81 0 (a.toNat)) b) 1) 0) = 0 then
                  ci (Yf d 213 [xr 14 0, xi a] V23) (fun x34 V33 =>
                    some (xi x34, V33))
                else
                  if x2 = 0 then
                    if 0 ≤ b ∧ b < 64 then
                      if (V23 82 0 (b.toNat)) = (-9) then
                        ci (Yf d 218 [xr 14 0, xi a, xi b] V23) (fun x36 V35 =>
                          some (xi x36, V35))
                      else
                        ci (Yf d 217 [xr 14 0, xi b] V23) (fun x38 V37 =>
                          if 0 ≤ b ∧ b < 64 then
                            if 0 ≤ V37 82 0 (b.toNat) ∧ V37 82 0 (b.toNat) < 300 then
                              if x38 < (V37 87 0 ((V37 82 0 (b.toNat)).toNat)) then
                                ci (Yf d 218 [xr 14 0, xi a, xi b] V37) (fun x40 V39 =>
                                  some (xi x40, V39))
                              else
                                if 0 ≤ b ∧ b < 64 then
                                  some (xi (V37 82 0 (b.toNat)), V37)
                                else
                                  none
                            else
                              none
                          else
                            none)
                    else
                      none
                  else
                    ci (Yf d 218 [xr 14 0, xi a, xi b] V23) (fun x42 V41 =>
                      some (xi x42, V41))
              else
                none
          else
            none
        else
          some (xi x24, V23))) := Xc_es [] P_X12_putAgainst 5 _ V
set_option maxRecDepth 100000 in
theorem s_X12_lies (d : Nat) (V : XM) (a : Int) (b : Int) : Yf (d + 1) 220 [xr 14 0, xi a, xi b] V =
    ci (Yf d 210 [xr 14 0, xi 0, xi a, xi b, xi 0] V) (fun x2 V1 =>
    if 0 ≤ a ∧ a < 64 then
      if 0 ≤ w32 ((w32 (6 * a)) + (V1 80 0 (a.toNat))) ∧ w32 ((w32 (6 * a)) + (V1 80 0 (a.toNat))) < 384 then
        if 0 ≤ a ∧ a < 64 then
          if 0 ≤ w32 ((w32 (6 * a)) + (V1 80 0 (a.toNat))) ∧ w32 ((w32 (6 * a)) + (V1 80 0 (a.toNat))) < 384 then
            if 0 ≤ a ∧ a < 64 then
              if 0 ≤ a ∧ a < 64 then
                some (xi x2, (xu (xu (xu V1 78 0 ((w32 ((w32 (6 * a)) + (V1 80 0 (a.toNat)))).toNat) b) 79 0 ((w32 ((w32 (6 * a)) + (V1 80 0 (a.toNat)))).toNat) x2) 80 0 (a.toNat) (w32 ((V1 80 0 (a.toNat)) + 1))))
              else
                none
            else
              none
          else
            none
        else
          none
      else
        none
    else
      none) := Xc_es [] P_X12_lies 1 _ V
set_option maxRecDepth 100000 in
theorem s_X12_put (d : Nat) (V : XM) (a : Int) (b : Int) : Yf (d + 1) 221 [xr 14 0, xi a, xi b] V =
    ci (Yf d 203 [xr 14 0, xl a] V) (fun x2 V1 =>
    if x2 = 0 then
      some (xi (-1), V1)
    else
      ci (Yf d 203 [xr 14 0, xl b] V1) (fun x4 V3 =>
        if x4 = 0 then
          some (xi (-1), V3)
        else
          ci (Yf d 208 [xr 14 0, xi a] V3) (fun x6 V5 =>
            if x6 = 0 then
              ci (Yf d 206 [xr 14 0, xi b] V5) (fun x8 V7 =>
                ci (Yf d 207 [xr 14 0, xi a] V7) (fun x10 V9 =>
                  if x10 = 0 then
                    if x8 = 0 then
                      some (xi (-3), V9)
                    else
                      ci (Yf d 214 [xr 14 0, xi b, xi a] V9) (fun x12 V11 =>
                        if x12 = 0 then
                          ci (Yf d 216 [xr 14 0, xi a, xi b] V11) (fun x14 V13 =>
                            if x14 = (-9) then
                              if (V13 14 0 22) = 300 then
                                some (xi (-4), V13)
                              else
                                ci (Yf d 208 [xr 14 0, xi a] V13) (fun x16 V15 =>
                                  if x16 = 0 then
                                    ci (Yf d 219 [xr 14 0, xi a, xi b] V15) (fun x18 V17 =>
                                      if x18 = (-9) then
                                        ci (Yf d 220 [xr 14 0, xi a, xi b] V17) (fun x20 V19 =>
                                          some (xi x20, V19))
                                      else
                                        ci (Yf d 211 [xi x18] V17) (fun x22 V21 =>
                                          some (xi x22, V21)))
                                  else
                                    if 0 ≤ a ∧ a < 64 then
                                      if (V15 80 0 (a.toNat)) = 6 then
                                        some (xi (-4), V15)
                                      else
                                        ci (Yf d 219 [xr 14 0, xi a, xi b] V15) (fun x24 V23 =>
                                          if x24 = (-9) then
                                            ci (Yf d 220 [xr 14 0, xi a, xi b] V23) (fun x26 V25 =>
                                              some (xi x26, V25))
                                          else
                                            ci (Yf d 211 [xi x24] V23) (fun x28 V27 =>
                                              some (xi x28, V27)))
                                    else
                                      none)
                            else
                              some (xi (-3), V13))
                        else
                          some (xi (-3), V11))
                  else
                    some (xi (-3), V9)))
            else
              ci (Yf d 204 [xr 14 0, xi b] V5) (fun x30 V29 =>
                if x30 = 1 then
                  ci (Yf d 207 [xr 14 0, xi a] V29) (fun x32 V31 =>
                    if x32 = 0 then
                      ci (Yf d 214 [xr 14 0, xi b, xi a] V31) (fun x34 V33 =>
                        if x34 = 0 then
                          ci (Yf d 216 [xr 14 0, xi a, xi b] V33) (fun x36 V35 =>
                            if x36 = (-9) then
                              if (V35 14 0 22) = 300 then
                                some (xi (-4), V35)
                              else
                                ci (Yf d 208 [xr 14 0, xi a] V35) (fun x38 V37 =>
                                  if x38 = 0 then
                                    ci (Yf d 219 [xr 14 0, xi a, xi b] V37) (fun x40 V39 =>
                                      if x40 = (-9) then
                                        ci (Yf d 220 [xr 14 0, xi a, xi b] V39) (fun x42 V41 =>
                                          some (xi x42, V41))
                                      else
                                        ci (Yf d 211 [xi x40] V39) (fun x44 V43 =>
                                          some (xi x44, V43)))
                                  else
                                    if 0 ≤ a ∧ a < 64 then
                                      if (V37 80 0 (a.toNat)) = 6 then
                                        some (xi (-4), V37)
                                      else
                                        ci (Yf d 219 [xr 14 0, xi a, xi b] V37) (fun x46 V45 =>
                                          if x46 = (-9) then
                                            ci (Yf d 220 [xr 14 0, xi a, xi b] V45) (fun x48 V47 =>
                                              some (xi x48, V47))
                                          else
                                            ci (Yf d 211 [xi x46] V45) (fun x50 V49 =>
                                              some (xi x50, V49)))
                                    else
                                      none)
                            else
                              some (xi (-3), V35))
                        else
                          some (xi (-3), V33))
                    else
                      some (xi (-3), V31))
                else
                  ci (Yf d 207 [xr 14 0, xi a] V29) (fun x52 V51 =>
                    if x52 = 0 then
                      some (xi (-3), V51)
                    else
                      some (xi (-3), V51)))))) := Xc_es [] P_X12_put 8 _ V
