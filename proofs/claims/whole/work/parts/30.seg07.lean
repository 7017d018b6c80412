set_option maxRecDepth 100000 in
theorem s_X12_goBack (d : Nat) (V : XM) (a : Int) : Yf (d + 1) 265 [xr 14 0, xi a] V =
    Xf d 265 2 [xr 14 0, xi a, xi 0, xr 0 0, xr 0 0] [] V := Xc_es [2, 42, 50] P_X12_goBack 1 _ V
set_option maxRecDepth 100000 in
theorem s_X12_goBack_2 (d : Nat) (V : XM) (l1 : Int) (l2 : Int) : Xf d 265 2 [xr 14 0, xi l1, xi l2, xr 0 0, xr 0 0] [] V =
    if l2 < (V 14 0 9) then
    if 0 ≤ l2 ∧ l2 < 64 then
      Xf d 265 2 [xr 14 0, xi l1, xi (w32 (l2 + 1)), xr 0 0, xr 0 0] [] (xu V 92 0 (l2.toNat) (-9))
    else
      none
  else
    if 0 ≤ l1 ∧ l1 < 64 then
      Xf d 265 42 [xr 14 0, xr 0 0, xi 1, xi 0, xr 0 0] [] (xu (xu V 92 0 (l1.toNat) 0) 93 0 0 l1)
    else
      none := Xx_es [2, 42, 50] P_X12_goBack 2 _ _ _ V
set_option maxRecDepth 100000 in
theorem s_X12_goBack_42 (d : Nat) (V : XM) (l2 : Int) (l3 : Int) : Xf d 265 42 [xr 14 0, xr 0 0, xi l2, xi l3, xr 0 0] [] V =
    if l3 < l2 then
    Xf d 265 50 [xr 14 0, xr 0 0, xi l2, xi l3, xi 0] [] V
  else
    some (xi 0, V) := Xx_es [2, 42, 50] P_X12_goBack 2 _ _ _ V
set_option maxRecDepth 100000 in
theorem s_X12_goBack_50 (d : Nat) (V : XM) (l2 : Int) (l3 : Int) (l4 : Int) : Xf d 265 50 [xr 14 0, xr 0 0, xi l2, xi l3, xi l4] [] V =
    if l4 < (V 14 0 9) then
    if 0 ≤ l4 ∧ l4 < 64 then
      if (V 92 0 (l4.toNat)) = (-9) then
        if 0 ≤ l3 ∧ l3 < 64 then
          if 0 ≤ w32 ((w32 (64 * l4)) + (V 93 0 (l3.toNat))) ∧ w32 ((w32 (64 * l4)) + (V 93 0 (l3.toNat))) < 4096 then
            if (V 94 0 ((w32 ((w32 (64 * l4)) + (V 93 0 (l3.toNat)))).toNat)) = 0 then
              Xf d 265 50 [xr 14 0, xr 0 0, xi l2, xi l3, xi (w32 (l4 + 1))] [] V
            else
              if 0 ≤ l3 ∧ l3 < 64 then
                if 0 ≤ V 93 0 (l3.toNat) ∧ V 93 0 (l3.toNat) < 64 then
                  if 0 ≤ l4 ∧ l4 < 64 then
                    if 0 ≤ l2 ∧ l2 < 64 then
                      Xf d 265 50 [xr 14 0, xr 0 0, xi (w32 (l2 + 1)), xi l3, xi (w32 (l4 + 1))] [] (xu (xu V 92 0 (l4.toNat) (w32 ((V 92 0 ((V 93 0 (l3.toNat)).toNat)) + 1))) 93 0 (l2.toNat) l4)
                    else
                      none
                  else
                    none
                else
                  none
              else
                none
          else
            none
        else
          none
      else
        Xf d 265 50 [xr 14 0, xr 0 0, xi l2, xi l3, xi (w32 (l4 + 1))] [] V
    else
      none
  else
    Xf d 265 42 [xr 14 0, xr 0 0, xi l2, xi (w32 (l3 + 1)), xr 0 0] [] V := Xx_es [2, 42, 50] P_X12_goBack 2 _ _ _ V
set_option maxRecDepth 100000 in
theorem s_X12_along (d : Nat) (V : XM) (a : Int) (b : Int) (c : Int) : Yf (d + 1) 266 [xr 14 0, xi a, xi b, xi c] V =
    ci (Yf d 260 [xr 14 0, xi a, xi b, xi c] V) (fun x2 V1 =>
    if x2 = 0 then
      some (xi (-1), V1)
    else
      cv (Yf d 264 [xr 14 0, xi a] V1) (fun V3 =>
        cv (Yf d 265 [xr 14 0, xi c] V3) (fun V4 =>
          if 0 ≤ b ∧ b < 64 then
            some (xi (V4 92 0 (b.toNat)), V4)
          else
            none))) := Xc_es [] P_X12_along 2 _ V
set_option maxRecDepth 100000 in
theorem s_X12_next (d : Nat) (V : XM) (a : Int) (b : Int) (c : Int) : Yf (d + 1) 267 [xr 14 0, xi a, xi b, xi c] V =
    ci (Yf d 260 [xr 14 0, xi a, xi b, xi c] V) (fun x2 V1 =>
    if x2 = 0 then
      some (xi (-1), V1)
    else
      cv (Yf d 264 [xr 14 0, xi a] V1) (fun V3 =>
        cv (Yf d 265 [xr 14 0, xi c] V3) (fun V4 =>
          if b = c then
            some (xi (-9), V4)
          else
            if 0 ≤ b ∧ b < 64 then
              if (V4 92 0 (b.toNat)) = (-9) then
                some (xi (-9), V4)
              else
                Xf d 267 44 [xr 14 0, xr 0 0, xi b, xr 0 0, xi 0] [] V4
            else
              none))) := Xc_es [44] P_X12_next 3 _ V
set_option maxRecDepth 100000 in
theorem s_X12_next_44 (d : Nat) (V : XM) (l2 : Int) (l4 : Int) : Xf d 267 44 [xr 14 0, xr 0 0, xi l2, xr 0 0, xi l4] [] V =
    if 0 ≤ w32 ((w32 (64 * l2)) + l4) ∧ w32 ((w32 (64 * l2)) + l4) < 4096 then
    if (V 94 0 ((w32 ((w32 (64 * l2)) + l4)).toNat)) = 0 then
      Xf d 267 44 [xr 14 0, xr 0 0, xi l2, xr 0 0, xi (w32 (l4 + 1))] [] V
    else
      if 0 ≤ l4 ∧ l4 < 64 then
        if 0 ≤ l2 ∧ l2 < 64 then
          if (V 92 0 (l4.toNat)) = (w32 ((V 92 0 (l2.toNat)) - 1)) then
            some (xi l4, V)
          else
            Xf d 267 44 [xr 14 0, xr 0 0, xi l2, xr 0 0, xi (w32 (l4 + 1))] [] V
        else
          none
      else
        none
  else
    none := Xx_es [44] P_X12_next 2 _ _ _ V
set_option maxRecDepth 100000 in
theorem s_X12_isRoom (d : Nat) (V : XM) (a : Int) : Yf (d + 1) 268 [xr 14 0, xi a] V =
    ci (Yf d 203 [xr 14 0, xl a] V) (fun x2 V1 =>
    if x2 = 0 then
      some (xi 0, V1)
    else
      ci (Yf d 204 [xr 14 0, xi a] V1) (fun x4 V3 =>
        if x4 = 1 then
          some (xi 1, V3)
        else
          some (xi 0, V3))) := Xc_es [] P_X12_isRoom 3 _ V
set_option maxRecDepth 100000 in
theorem s_X12_lead (d : Nat) (V : XM) (a : Int) (b : Int) (c : Int) (e : Int) (f : Int) : Yf (d + 1) 269 [xr 14 0, xi a, xi b, xi c, xi e, xi f] V =
    if 0 ≤ a ∧ a < 512 then
    if 0 ≤ a ∧ a < 512 then
      if 0 ≤ a ∧ a < 512 then
        if 0 ≤ a ∧ a < 512 then
          some (xi 0, (xu (xu (xu (xu V 95 0 (a.toNat) b) 96 0 (a.toNat) c) 97 0 (a.toNat) e) 98 0 (a.toNat) f))
        else
          none
      else
        none
    else
      none
  else
    none := Xc_es [] P_X12_lead 1 _ V
set_option maxRecDepth 100000 in
theorem s_X12_exit (d : Nat) (V : XM) (a : Int) (b : Int) (c : Int) : Yf (d + 1) 270 [xr 14 0, xi a, xi b, xi c] V =
    ci (Yf d 268 [xr 14 0, xi a] V) (fun x2 V1 =>
    if x2 = 0 then
      some (xi (-1), V1)
    else
      if c = (-9) then
        ci (Yf d 189 [xl b, xl 0, xl 7] V1) (fun x4 V3 =>
          if x4 = 0 then
            some (xi (-2), V3)
          else
            if 0 ≤ w32 ((w32 (8 * a)) + b) ∧ w32 ((w32 (8 * a)) + b) < 512 then
              if (V3 95 0 ((w32 ((w32 (8 * a)) + b)).toNat)) = 2 then
                if 0 ≤ w32 ((w32 (8 * a)) + b) ∧ w32 ((w32 (8 * a)) + b) < 512 then
                  if (V3 96 0 ((w32 ((w32 (8 * a)) + b)).toNat)) = c then
                    some (xi (-3), V3)
                  else
                    Xf d 270 83 [xr 14 0, xi a, xi b, xi c, xi (w32 ((w32 (8 * a)) + b)), xr 0 0, xr 0 0] [] V3
                else
                  none
              else
                if 0 ≤ w32 ((w32 (8 * a)) + b) ∧ w32 ((w32 (8 * a)) + b) < 512 then
                  if (V3 95 0 ((w32 ((w32 (8 * a)) + b)).toNat)) = 4 then
                    if 0 ≤ w32 ((w32 (8 * a)) + b) ∧ w32 ((w32 (8 * a)) + b) < 512 then
                      if (V3 96 0 ((w32 ((w32 (8 * a)) + b)).toNat)) = c then
                        some (xi (-3), V3)
                      else
                        Xf d 270 83 [xr 14 0, xi a, xi b, xi c, xi (w32 ((w32 (8 * a)) + b)), xr 0 0, xr 0 0] [] V3
                    else
                      none
                  else
                    Xf d 270 83 [xr 14 0, xi a, xi b, xi c, xi (w32 ((w32 (8 * a)) + b)), xr 0 0, xr 0 0] [] V3
                else
                  none
            else
              none)
      else
        ci (Yf d 268 [xr 14 0, xi c] V1) (fun x6 V5 =>
          if x6 = 0 then
            some (xi (-1), V5)
          else
            ci (Yf d 189 [xl b, xl 0, xl 7] V5) (fun x8 V7 =>
              if x8 = 0 then
                some (xi (-2), V7)
              else
                if 0 ≤ w32 ((w32 (8 * a)) + b) ∧ w32 ((w32 (8 * a)) + b) < 512 then
                  if (V7 95 0 ((w32 ((w32 (8 * a)) + b)).toNat)) = 2 then
                    if 0 ≤ w32 ((w32 (8 * a)) + b) ∧ w32 ((w32 (8 * a)) + b) < 512 then
                      if (V7 96 0 ((w32 ((w32 (8 * a)) + b)).toNat)) = c then
                        some (xi (-3), V7)
                      else
                        Xf d 270 83 [xr 14 0, xi a, xi b, xi c, xi (w32 ((w32 (8 * a)) + b)), xr 0 0, xr 0 0] [] V7
                    else
                      none
                  else
                    if 0 ≤ w32 ((w32 (8 * a)) + b) ∧ w32 ((w32 (8 * a)) + b) < 512 then
                      if (V7 95 0 ((w32 ((w32 (8 * a)) + b)).toNat)) = 4 then
                        if 0 ≤ w32 ((w32 (8 * a)) + b) ∧ w32 ((w32 (8 * a)) + b) < 512 then
                          if (V7 96 0 ((w32 ((w32 (8 * a)) + b)).toNat)) = c then
                            some (xi (-3), V7)
                          else
                            Xf d 270 83 [xr 14 0, xi a, xi b, xi c, xi (w32 ((w32 (8 * a)) + b)), xr 0 0, xr 0 0] [] V7
                        else
                          none
                      else
                        Xf d 270 83 [xr 14 0, xi a, xi b, xi c, xi (w32 ((w32 (8 * a)) + b)), xr 0 0, xr 0 0] [] V7
                    else
                      none
                else
                  none))) := Xc_es [83, 143] P_X12_exit 4 _ V
set_option maxRecDepth 100000 in
theorem s_X12_exit_83 (d : Nat) (V : XM) (l1 : Int) (l2 : Int) (l3 : Int) (l4 : Int) : Xf d 270 83 [xr 14 0, xi l1, xi l2, xi l3, xi l4, xr 0 0, xr 0 0] [] V =
    if (V 14 0 22) = 300 then
    some (xi (-4), V)
  else
    if 0 ≤ l4 ∧ l4 < 512 then
      if 1 < (V 95 0 (l4.toNat)) then
        if 0 ≤ l4 ∧ l4 < 512 then
          ci (Yf d 211 [xi (V 97 0 (l4.toNat))] V) (fun x2 V1 =>
            some (xi x2, V1))
        else
          none
      else
        ci (Yf d 210 [xr 14 0, xi 8, xi l1, xi l2, xi l3] V) (fun x4 V3 =>
          if l3 = (-9) then
            Xf d 270 143 [xr 14 0, xi l1, xi l2, xi l3, xr 0 0, xi x4, xr 0 0] [xi 4, xi l4, xr 14 0] V3
          else
            Xf d 270 143 [xr 14 0, xi l1, xi l2, xi l3, xr 0 0, xi x4, xr 0 0] [xi 2, xi l4, xr 14 0] V3)
    else
      none := Xx_es [83, 143] P_X12_exit 4 _ _ _ V
set_option maxRecDepth 100000 in
theorem s_X12_exit_143 (d : Nat) (V : XM) (l1 : Int) (l2 : Int) (l3 : Int) (l5 : Int) (y0 : Int) (y1 : Int) : Xf d 270 143 [xr 14 0, xi l1, xi l2, xi l3, xr 0 0, xi l5, xr 0 0] [xi y0, xi y1, xr 14 0] V =
    cv (Yf d 269 [xr 14 0, xi y1, xi y0, xi l3, xi l5, xi (-9)] V) (fun V1 =>
    if l3 = (-9) then
      some (xi l5, V1)
    else
      if 0 ≤ w32 ((w32 (8 * l3)) + (iXor l2 1)) ∧ w32 ((w32 (8 * l3)) + (iXor l2 1)) < 512 then
        if (V1 95 0 ((w32 ((w32 (8 * l3)) + (iXor l2 1))).toNat)) = 0 then
          cv (Yf d 269 [xr 14 0, xi (w32 ((w32 (8 * l3)) + (iXor l2 1))), xi 1, xi l1, xi (-9), xi (-9)] V1) (fun V2 =>
            some (xi l5, V2))
        else
          some (xi l5, V1)
      else
        none) := Xx_es [83, 143] P_X12_exit 2 _ _ _ V
set_option maxRecDepth 100000 in
theorem s_X12_door (d : Nat) (V : XM) (a : Int) (b : Int) (c : Int) (e : Int) : Yf (d + 1) 271 [xr 14 0, xi a, xi b, xi c, xi e] V =
    ci (Yf d 203 [xr 14 0, xl a] V) (fun x2 V1 =>
    if x2 = 0 then
      some (xi (-1), V1)
    else
      ci (Yf d 268 [xr 14 0, xi b] V1) (fun x4 V3 =>
        if x4 = 0 then
          some (xi (-1), V3)
        else
          ci (Yf d 268 [xr 14 0, xi e] V3) (fun x6 V5 =>
            if x6 = 0 then
              some (xi (-1), V5)
            else
              ci (Yf d 189 [xl c, xl 0, xl 7] V5) (fun x8 V7 =>
                if x8 = 0 then
                  some (xi (-2), V7)
                else
                  ci (Yf d 204 [xr 14 0, xi a] V7) (fun x10 V9 =>
                    if x10 = 2 then
                      if b = e then
                        some (xi (-3), V9)
                      else
                        if (V9 14 0 22) = 300 then
                          some (xi (-4), V9)
                        else
                          Xf d 271 77 [xr 14 0, xi a, xi b, xi c, xi e, xi 0, xr 0 0, xr 0 0] [] V9
                    else
                      some (xi (-3), V9)))))) := Xc_es [77] P_X12_door 5 _ V
set_option maxRecDepth 100000 in
theorem s_X12_door_77 (d : Nat) (V : XM) (l1 : Int) (l2 : Int) (l3 : Int) (l4 : Int) (l5 : Int) : Xf d 271 77 [xr 14 0, xi l1, xi l2, xi l3, xi l4, xi l5, xr 0 0, xr 0 0] [] V =
    if l5 < (V 14 0 22) then
    if 0 ≤ l5 ∧ l5 < 300 then
      if (V 85 0 (l5.toNat)) = 9 then
        if 0 ≤ l5 ∧ l5 < 300 then
          if (V 86 0 (l5.toNat)) = l1 then
            ci (Yf d 211 [xi l5] V) (fun x2 V1 =>
              some (xi x2, V1))
          else
            Xf d 271 77 [xr 14 0, xi l1, xi l2, xi l3, xi l4, xi (w32 (l5 + 1)), xr 0 0, xr 0 0] [] V
        else
          none
      else
        Xf d 271 77 [xr 14 0, xi l1, xi l2, xi l3, xi l4, xi (w32 (l5 + 1)), xr 0 0, xr 0 0] [] V
    else
      none
  else
    if 0 ≤ w32 ((w32 (8 * l2)) + l3) ∧ w32 ((w32 (8 * l2)) + l3) < 512 then
      if 1 < (V 95 0 ((w32 ((w32 (8 * l2)) + l3)).toNat)) then
        if 0 ≤ w32 ((w32 (8 * l2)) + l3) ∧ w32 ((w32 (8 * l2)) + l3) < 512 then
          ci (Yf d 211 [xi (V 97 0 ((w32 ((w32 (8 * l2)) + l3)).toNat))] V) (fun x4 V3 =>
            some (xi x4, V3))
        else
          none
      else
        if 0 ≤ w32 ((w32 (8 * l4)) + (iXor l3 1)) ∧ w32 ((w32 (8 * l4)) + (iXor l3 1)) < 512 then
          if 1 < (V 95 0 ((w32 ((w32 (8 * l4)) + (iXor l3 1))).toNat)) then
            if 0 ≤ w32 ((w32 (8 * l4)) + (iXor l3 1)) ∧ w32 ((w32 (8 * l4)) + (iXor l3 1)) < 512 then
              ci (Yf d 211 [xi (V 97 0 ((w32 ((w32 (8 * l4)) + (iXor l3 1))).toNat))] V) (fun x6 V5 =>
                some (xi x6, V5))
            else
              none
          else
            ci (Yf d 210 [xr 14 0, xi 9, xi l1, xi l2, xi l3] V) (fun x8 V7 =>
              cv (Yf d 269 [xr 14 0, xi (w32 ((w32 (8 * l2)) + l3)), xi 3, xi l4, xi x8, xi l1] V7) (fun V9 =>
                cv (Yf d 269 [xr 14 0, xi (w32 ((w32 (8 * l4)) + (iXor l3 1))), xi 3, xi l2, xi x8, xi l1] V9) (fun V10 =>
                  some (xi x8, V10))))
        else
          none
    else
      none := Xx_es [77] P_X12_door 4 _ _ _ V
set_option maxRecDepth 100000 in
theorem s_X12_leads (d : Nat) (V : XM) (a : Int) (b : Int) : Yf (d + 1) 272 [xr 14 0, xi a, xi b] V =
    ci (Yf d 268 [xr 14 0, xi a] V) (fun x2 V1 =>
    if x2 = 0 then
      some (xi (-1), V1)
    else
      ci (Yf d 189 [xl b, xl 0, xl 7] V1) (fun x4 V3 =>
        if x4 = 0 then
          some (xi (-2), V3)
        else
          if 0 ≤ w32 ((w32 (8 * a)) + b) ∧ w32 ((w32 (8 * a)) + b) < 512 then
            if (V3 95 0 ((w32 ((w32 (8 * a)) + b)).toNat)) = 0 then
              some (xi (-9), V3)
            else
              if 0 ≤ w32 ((w32 (8 * a)) + b) ∧ w32 ((w32 (8 * a)) + b) < 512 then
                some (xi (V3 96 0 ((w32 ((w32 (8 * a)) + b)).toNat)), V3)
              else
                none
          else
            none)) := Xc_es [] P_X12_leads 5 _ V
set_option maxRecDepth 100000 in
theorem s_X12_sort (d : Nat) (V : XM) (a : Int) (b : Int) : Yf (d + 1) 273 [xr 14 0, xi a, xi b] V =
    ci (Yf d 268 [xr 14 0, xi a] V) (fun x2 V1 =>
    if x2 = 0 then
      some (xi (-1), V1)
    else
      ci (Yf d 189 [xl b, xl 0, xl 7] V1) (fun x4 V3 =>
        if x4 = 0 then
          some (xi (-2), V3)
        else
          if 0 ≤ w32 ((w32 (8 * a)) + b) ∧ w32 ((w32 (8 * a)) + b) < 512 then
            some (xi (V3 95 0 ((w32 ((w32 (8 * a)) + b)).toNat)), V3)
          else
            none)) := Xc_es [] P_X12_sort 4 _ V
set_option maxRecDepth 100000 in
theorem s_X12_goes (d : Nat) (V : XM) (a : Int) (b : Int) : Yf (d + 1) 274 [xr 14 0, xi a, xi b] V =
    if 0 ≤ a ∧ a < 512 then
    if 0 < (V 95 0 (a.toNat)) then
      if 0 ≤ a ∧ a < 512 then
        if (V 96 0 (a.toNat)) = (-9) then
          some (xi 0, V)
        else
          if b = 0 then
            if 0 ≤ a ∧ a < 512 then
              if (V 95 0 (a.toNat)) = 3 then
                if 0 ≤ a ∧ a < 512 then
                  if 0 ≤ V 98 0 (a.toNat) ∧ V 98 0 (a.toNat) < 64 then
                    if (V 77 0 ((V 98 0 (a.toNat)).toNat)) = 0 then
                      some (xi 0, V)
                    else
                      some (xi 1, V)
                  else
                    none
                else
                  none
              else
                some (xi 1, V)
            else
              none
          else
            some (xi 1, V)
      else
        none
    else
      some (xi 0, V)
  else
    none := Xc_es [] P_X12_goes 3 _ V
set_option maxRecDepth 100000 in
theorem s_X12_routeBack (d : Nat) (V : XM) (a : Int) (b : Int) : Yf (d + 1) 275 [xr 14 0, xi a, xi b] V =
    Xf d 275 2 [xr 14 0, xi a, xi b, xi 0, xr 0 0, xr 0 0, xr 0 0, xr 0 0] [] V := Xc_es [2, 43, 52, 67] P_X12_routeBack 1 _ V
set_option maxRecDepth 100000 in
theorem s_X12_routeBack_2 (d : Nat) (V : XM) (l1 : Int) (l2 : Int) (l3 : Int) : Xf d 275 2 [xr 14 0, xi l1, xi l2, xi l3, xr 0 0, xr 0 0, xr 0 0, xr 0 0] [] V =
    if l3 < (V 14 0 9) then
    if 0 ≤ l3 ∧ l3 < 64 then
      Xf d 275 2 [xr 14 0, xi l1, xi l2, xi (w32 (l3 + 1)), xr 0 0, xr 0 0, xr 0 0, xr 0 0] [] (xu V 92 0 (l3.toNat) (-9))
    else
      none
  else
    if 0 ≤ l1 ∧ l1 < 64 then
      Xf d 275 43 [xr 14 0, xr 0 0, xi l2, xi 1, xi 0, xr 0 0, xr 0 0, xr 0 0] [] (xu (xu V 92 0 (l1.toNat) 0) 93 0 0 l1)
    else
      none := Xx_es [2, 43, 52, 67] P_X12_routeBack 2 _ _ _ V
set_option maxRecDepth 100000 in
theorem s_X12_routeBack_43 (d : Nat) (V : XM) (l2 : Int) (l3 : Int) (l4 : Int) : Xf d 275 43 [xr 14 0, xr 0 0, xi l2, xi l3, xi l4, xr 0 0, xr 0 0, xr 0 0] [] V =
    if l4 < l3 then
    Xf d 275 52 [xr 14 0, xr 0 0, xi l2, xi l3, xi l4, xi 0, xr 0 0, xr 0 0] [] V
  else
    some (xi 0, V) := Xx_es [2, 43, 52, 67] P_X12_routeBack 2 _ _ _ V
set_option maxRecDepth 100000 in
theorem s_X12_routeBack_52 (d : Nat) (V : XM) (l2 : Int) (l3 : Int) (l4 : Int) (l5 : Int) : Xf d 275 52 [xr 14 0, xr 0 0, xi l2, xi l3, xi l4, xi l5, xr 0 0, xr 0 0] [] V =
    if l5 < (V 14 0 9) then
    Xf d 275 67 [xr 14 0, xr 0 0, xi l2, xi l3, xi l4, xi l5, xi 0, xi 0] [] V
  else
    Xf d 275 43 [xr 14 0, xr 0 0, xi l2, xi l3, xi (w32 (l4 + 1)), xr 0 0, xr 0 0, xr 0 0] [] V := Xx_es [2, 43, 52, 67] P_X12_routeBack 2 _ _ _ V
set_option maxRecDepth 100000 in
theorem s_X12_routeBack_67 (d : Nat) (V : XM) (l2 : Int) (l3 : Int) (l4 : Int) (l5 : Int) (l6 : Int) (l7 : Int) : Xf d 275 67 [xr 14 0, xr 0 0, xi l2, xi l3, xi l4, xi l5, xi l6, xi l7] [] V =
    if l7 < 8 then
    ci (Yf d 268 [xr 14 0, xi l5] V) (fun x2 V1 =>
      if x2 = 0 then
        if l6 = 0 then
          Xf d 275 52 [xr 14 0, xr 0 0, xi l2, xi l3, xi l4, xi (w32 (l5 + 1)), xr 0 0, xr 0 0] [] V1
        else
          if 0 ≤ l5 ∧ l5 < 64 then
            if (V1 92 0 (l5.toNat)) = (-9) then
              if 0 ≤ l4 ∧ l4 < 64 then
                if 0 ≤ V1 93 0 (l4.toNat) ∧ V1 93 0 (l4.toNat) < 64 then
                  if 0 ≤ l5 ∧ l5 < 64 then
                    if 0 ≤ l3 ∧ l3 < 64 then
                      Xf d 275 52 [xr 14 0, xr 0 0, xi l2, xi (w32 (l3 + 1)), xi l4, xi (w32 (l5 + 1)), xr 0 0, xr 0 0] [] (xu (xu V1 92 0 (l5.toNat) (w32 ((V1 92 0 ((V1 93 0 (l4.toNat)).toNat)) + 1))) 93 0 (l3.toNat) l5)
                    else
                      none
                  else
                    none
                else
                  none
              else
                none
            else
              Xf d 275 52 [xr 14 0, xr 0 0, xi l2, xi l3, xi l4, xi (w32 (l5 + 1)), xr 0 0, xr 0 0] [] V1
          else
            none
      else
        if l6 = 0 then
          ci (Yf d 274 [xr 14 0, xi (w32 ((w32 (8 * l5)) + l7)), xi l2] V1) (fun x4 V3 =>
            if x4 = 0 then
              Xf d 275 67 [xr 14 0, xr 0 0, xi l2, xi l3, xi l4, xi l5, xi 0, xi (w32 (l7 + 1))] [] V3
            else
              if 0 ≤ w32 ((w32 (8 * l5)) + l7) ∧ w32 ((w32 (8 * l5)) + l7) < 512 then
                if 0 ≤ l4 ∧ l4 < 64 then
                  if (V3 96 0 ((w32 ((w32 (8 * l5)) + l7)).toNat)) = (V3 93 0 (l4.toNat)) then
                    Xf d 275 67 [xr 14 0, xr 0 0, xi l2, xi l3, xi l4, xi l5, xi 1, xi (w32 (l7 + 1))] [] V3
                  else
                    Xf d 275 67 [xr 14 0, xr 0 0, xi l2, xi l3, xi l4, xi l5, xi 0, xi (w32 (l7 + 1))] [] V3
                else
                  none
              else
                none)
        else
          Xf d 275 67 [xr 14 0, xr 0 0, xi l2, xi l3, xi l4, xi l5, xi 1, xi (w32 (l7 + 1))] [] V1)
  else
    if l6 = 0 then
      Xf d 275 52 [xr 14 0, xr 0 0, xi l2, xi l3, xi l4, xi (w32 (l5 + 1)), xr 0 0, xr 0 0] [] V
    else
      if 0 ≤ l5 ∧ l5 < 64 then
        if (V 92 0 (l5.toNat)) = (-9) then
          if 0 ≤ l4 ∧ l4 < 64 then
            if 0 ≤ V 93 0 (l4.toNat) ∧ V 93 0 (l4.toNat) < 64 then
              if 0 ≤ l5 ∧ l5 < 64 then
                if 0 ≤ l3 ∧ l3 < 64 then
                  Xf d 275 52 [xr 14 0, xr 0 0, xi l2, xi (w32 (l3 + 1)), xi l4, xi (w32 (l5 + 1)), xr 0 0, xr 0 0] [] (xu (xu V 92 0 (l5.toNat) (w32 ((V 92 0 ((V 93 0 (l4.toNat)).toNat)) + 1))) 93 0 (l3.toNat) l5)
                else
                  none
              else
                none
            else
              none
          else
            none
        else
          Xf d 275 52 [xr 14 0, xr 0 0, xi l2, xi l3, xi l4, xi (w32 (l5 + 1)), xr 0 0, xr 0 0] [] V
      else
        none := Xx_es [2, 43, 52, 67] P_X12_routeBack 3 _ _ _ V
set_option maxRecDepth 100000 in
theorem s_X12_route (d : Nat) (V : XM) (a : Int) (b : Int) (c : Int) : Yf (d + 1) 276 [xr 14 0, xi a, xi b, xi c] V =
    ci (Yf d 268 [xr 14 0, xi a] V) (fun x2 V1 =>
    if x2 = 0 then
      some (xi (-1), V1)
    else
      ci (Yf d 268 [xr 14 0, xi b] V1) (fun x4 V3 =>
        if x4 = 0 then
          some (xi (-1), V3)
        else
          cv (Yf d 275 [xr 14 0, xi b, xi c] V3) (fun V5 =>
            if 0 ≤ a ∧ a < 64 then
              some (xi (V5 92 0 (a.toNat)), V5)
            else
              none))) := Xc_es [] P_X12_route 2 _ V
set_option maxRecDepth 100000 in
theorem s_X12_first_ (d : Nat) (V : XM) (a : Int) (b : Int) (c : Int) : Yf (d + 1) 277 [xr 14 0, xi a, xi b, xi c] V =
    ci (Yf d 268 [xr 14 0, xi a] V) (fun x2 V1 =>
    if x2 = 0 then
      some (xi (-1), V1)
    else
      ci (Yf d 268 [xr 14 0, xi b] V1) (fun x4 V3 =>
        if x4 = 0 then
          some (xi (-1), V3)
        else
          cv (Yf d 275 [xr 14 0, xi b, xi c] V3) (fun V5 =>
            if a = b then
              some (xi (-9), V5)
            else
              if 0 ≤ a ∧ a < 64 then
                if (V5 92 0 (a.toNat)) = (-9) then
                  some (xi (-9), V5)
                else
                  Xf d 277 46 [xr 14 0, xi a, xr 0 0, xi c, xi 0] [] V5
              else
                none))) := Xc_es [46] P_X12_first_ 3 _ V
set_option maxRecDepth 100000 in
theorem s_X12_first__46 (d : Nat) (V : XM) (l1 : Int) (l3 : Int) (l4 : Int) : Xf d 277 46 [xr 14 0, xi l1, xr 0 0, xi l3, xi l4] [] V =
    ci (Yf d 274 [xr 14 0, xi (w32 ((w32 (8 * l1)) + l4)), xi l3] V) (fun x2 V1 =>
    if x2 = 0 then
      Xf d 277 46 [xr 14 0, xi l1, xr 0 0, xi l3, xi (w32 (l4 + 1))] [] V1
    else
      if 0 ≤ w32 ((w32 (8 * l1)) + l4) ∧ w32 ((w32 (8 * l1)) + l4) < 512 then
        if 0 ≤ V1 96 0 ((w32 ((w32 (8 * l1)) + l4)).toNat) ∧ V1 96 0 ((w32 ((w32 (8 * l1)) + l4)).toNat) < 64 then
          if 0 ≤ l1 ∧ l1 < 64 then
            if (V1 92 0 ((V1 96 0 ((w32 ((w32 (8 * l1)) + l4)).toNat)).toNat)) = (w32 ((V1 92 0 (l1.toNat)) - 1)) then
              some (xi l4, V1)
            else
              Xf d 277 46 [xr 14 0, xi l1, xr 0 0, xi l3, xi (w32 (l4 + 1))] [] V1
          else
            none
        else
          none
      else
        none) := Xx_es [46] P_X12_first_ 2 _ _ _ V
set_option maxRecDepth 100000 in
theorem s_X12_isShelf (d : Nat) (V : XM) (a : Int) : Yf (d + 1) 278 [xr 14 0, xi a] V =
    ci (Yf d 189 [xl a, xl 0, xl (w32 ((V 14 0 39) - 1))] V) (fun x2 V1 =>
    if x2 = 0 ∨ x2 = 1 then
      some (xi x2, V1)
    else
      none) := Xc_es [] P_X12_isShelf 1 _ V
set_option maxRecDepth 100000 in
theorem s_X12_takes (d : Nat) (V : XM) (a : Int) (b : Int) : Yf (d + 1) 279 [xr 14 0, xi a, xi b] V =
    if b = (-9) then
    some (xi 1, V)
  else
    ci (Yf d 204 [xr 14 0, xi b] V) (fun x2 V1 =>
      if 0 ≤ a ∧ a < 10 then
        ci (Yf d 194 [xr 14 0, xi x2, xi (V1 99 0 (a.toNat))] V1) (fun x4 V3 =>
          if x4 = 0 then
            some (xi 0, V3)
          else
            some (xi 1, V3))
      else
        none) := Xc_es [] P_X12_takes 3 _ V
set_option maxRecDepth 100000 in
theorem s_X12_shelf (d : Nat) (V : XM) (a : Int) (b : Int) : Yf (d + 1) 280 [xr 14 0, xi a, xi b] V =
    ci (Yf d 192 [xr 14 0, xi a] V) (fun x2 V1 =>
    if x2 = 0 then
      some (xi (-1), V1)
    else
      if 16 < b then
        some (xi (-2), V1)
      else
        if (V1 14 0 39) = 10 then
          some (xi (-4), V1)
        else
          if b < 0 then
            ci (Yf d 190 [xr 14 0, xi (-15)] V1) (fun x4 V3 =>
              some (xi x4, V3))
          else
            ci (Yf d 195 [xr 14 0, xi a] V1) (fun x6 V5 =>
              if 0 ≤ V1 14 0 39 ∧ V1 14 0 39 < 10 then
                if 0 ≤ V5 14 0 39 ∧ V5 14 0 39 < 10 then
                  Xf d 280 68 [xr 14 0, xr 0 0, xr 0 0, xi 0] [] (xu (xu V5 99 0 ((V1 14 0 39).toNat) x6) 100 0 ((V5 14 0 39).toNat) b)
                else
                  none
              else
                none)) := Xc_es [68] P_X12_shelf 5 _ V
set_option maxRecDepth 100000 in
theorem s_X12_shelf_68 (d : Nat) (V : XM) (l3 : Int) : Xf d 280 68 [xr 14 0, xr 0 0, xr 0 0, xi l3] [] V =
    if l3 < 16 then
    if 0 ≤ w32 ((w32 (16 * (V 14 0 39))) + l3) ∧ w32 ((w32 (16 * (V 14 0 39))) + l3) < 160 then
      Xf d 280 68 [xr 14 0, xr 0 0, xr 0 0, xi (w32 (l3 + 1))] [] (xu V 101 0 ((w32 ((w32 (16 * (V 14 0 39))) + l3)).toNat) (-9))
    else
      none
  else
    some (xi (w32 ((w32 ((V 14 0 39) + 1)) - 1)), (xu V 14 0 39 (w32 ((V 14 0 39) + 1)))) := Xx_es [68] P_X12_shelf 2 _ _ _ V
set_option maxRecDepth 100000 in
theorem s_X12_stand (d : Nat) (V : XM) (a : Int) (b : Int) (c : Int) : Yf (d + 1) 281 [xr 14 0, xi a, xi b, xi c] V =
    ci (Yf d 278 [xr 14 0, xi a] V) (fun x2 V1 =>
    if x2 = 0 then
      some (xi (-1), V1)
    else
      if c = (-9) then
        if 0 ≤ a ∧ a < 10 then
          ci (Yf d 189 [xl b, xl 0, xl (w32 ((V1 100 0 (a.toNat)) - 1))] V1) (fun x4 V3 =>
            if x4 = 0 then
              ci (Yf d 190 [xr 14 0, xi (-12)] V3) (fun x6 V5 =>
                some (xi x6, V5))
            else
              ci (Yf d 279 [xr 14 0, xi a, xi c] V3) (fun x8 V7 =>
                if x8 = 0 then
                  ci (Yf d 190 [xr 14 0, xi (-14)] V7) (fun x10 V9 =>
                    some (xi x10, V9))
                else
                  if 0 ≤ w32 ((w32 (16 * a)) + b) ∧ w32 ((w32 (16 * a)) + b) < 160 then
                    some (xi 1, (xu V7 101 0 ((w32 ((w32 (16 * a)) + b)).toNat) c))
                  else
                    none))
        else
          none
      else
        ci (Yf d 203 [xr 14 0, xl c] V1) (fun x12 V11 =>
          if x12 = 0 then
            some (xi (-1), V11)
          else
            if 0 ≤ a ∧ a < 10 then
              ci (Yf d 189 [xl b, xl 0, xl (w32 ((V11 100 0 (a.toNat)) - 1))] V11) (fun x14 V13 =>
                if x14 = 0 then
                  ci (Yf d 190 [xr 14 0, xi (-12)] V13) (fun x16 V15 =>
                    some (xi x16, V15))
                else
                  ci (Yf d 279 [xr 14 0, xi a, xi c] V13) (fun x18 V17 =>
                    if x18 = 0 then
                      ci (Yf d 190 [xr 14 0, xi (-14)] V17) (fun x20 V19 =>
                        some (xi x20, V19))
                    else
                      if 0 ≤ w32 ((w32 (16 * a)) + b) ∧ w32 ((w32 (16 * a)) + b) < 160 then
                        some (xi 1, (xu V17 101 0 ((w32 ((w32 (16 * a)) + b)).toNat) c))
                      else
                        none))
            else
              none)) := Xc_es [] P_X12_stand 4 _ V
set_option maxRecDepth 100000 in
theorem s_X12_stands (d : Nat) (V : XM) (a : Int) (b : Int) : Yf (d + 1) 282 [xr 14 0, xi a, xi b] V =
    ci (Yf d 278 [xr 14 0, xi a] V) (fun x2 V1 =>
    if x2 = 0 then
      some (xi (-1), V1)
    else
      if 0 ≤ a ∧ a < 10 then
        ci (Yf d 189 [xl b, xl 0, xl (w32 ((V1 100 0 (a.toNat)) - 1))] V1) (fun x4 V3 =>
          if x4 = 0 then
            ci (Yf d 190 [xr 14 0, xi (-12)] V3) (fun x6 V5 =>
              some (xi x6, V5))
          else
            if 0 ≤ w32 ((w32 (16 * a)) + b) ∧ w32 ((w32 (16 * a)) + b) < 160 then
              some (xi (V3 101 0 ((w32 ((w32 (16 * a)) + b)).toNat)), V3)
            else
              none)
      else
        none) := Xc_es [] P_X12_stands 4 _ V
set_option maxRecDepth 100000 in
theorem s_X12_haul (d : Nat) (V : XM) (a : Int) (b : Int) (c : Int) (e : Int) (f : Int) : Yf (d + 1) 283 [xr 14 0, xi a, xi b, xi c, xi e, xi f] V =
    ci (Yf d 278 [xr 14 0, xi a] V) (fun x2 V1 =>
    if x2 = 0 then
      some (xi (-1), V1)
    else
      ci (Yf d 278 [xr 14 0, xi c] V1) (fun x4 V3 =>
        if x4 = 0 then
          some (xi (-1), V3)
        else
          if b < 0 then
            ci (Yf d 190 [xr 14 0, xi (-12)] V3) (fun x6 V5 =>
              some (xi x6, V5))
          else
            if e < 0 then
              ci (Yf d 190 [xr 14 0, xi (-12)] V3) (fun x8 V7 =>
                some (xi x8, V7))
            else
              if f < 0 then
                ci (Yf d 190 [xr 14 0, xi (-12)] V3) (fun x10 V9 =>
                  some (xi x10, V9))
              else
                if 0 ≤ a ∧ a < 10 then
                  if 0 < (cmp3 (w64 (b + f)) (V3 100 0 (a.toNat))) then
                    ci (Yf d 190 [xr 14 0, xi (-12)] V3) (fun x12 V11 =>
                      some (xi x12, V11))
                  else
                    if 0 ≤ c ∧ c < 10 then
                      if 0 < (cmp3 (w64 (e + f)) (V3 100 0 (c.toNat))) then
                        ci (Yf d 190 [xr 14 0, xi (-12)] V3) (fun x14 V13 =>
                          some (xi x14, V13))
                      else
                        Xf d 283 77 [xr 14 0, xi a, xi b, xi c, xi e, xi f, xi 0] [] V3
                    else
                      none
                else
                  none)) := Xc_es [77, 116] P_X12_haul 3 _ V
set_option maxRecDepth 100000 in
theorem s_X12_haul_77 (d : Nat) (V : XM) (l1 : Int) (l2 : Int) (l3 : Int) (l4 : Int) (l5 : Int) (l6 : Int) : Xf d 283 77 [xr 14 0, xi l1, xi l2, xi l3, xi l4, xi l5, xi l6] [] V =
    if l6 < l5 then
    if 0 ≤ w32 ((w32 ((w32 (16 * l1)) + l2)) + l6) ∧ w32 ((w32 ((w32 (16 * l1)) + l2)) + l6) < 160 then
      if 0 ≤ l6 ∧ l6 < 16 then
        Xf d 283 77 [xr 14 0, xi l1, xi l2, xi l3, xi l4, xi l5, xi (w32 (l6 + 1))] [] (xu V 102 0 (l6.toNat) (V 101 0 ((w32 ((w32 ((w32 (16 * l1)) + l2)) + l6)).toNat)))
      else
        none
    else
      none
  else
    Xf d 283 116 [xr 14 0, xr 0 0, xr 0 0, xi l3, xi l4, xi l5, xr 0 0] [] (xu V 14 0 44 0) := Xx_es [77, 116] P_X12_haul 2 _ _ _ V
set_option maxRecDepth 100000 in
theorem s_X12_haul_116 (d : Nat) (V : XM) (l3 : Int) (l4 : Int) (l5 : Int) : Xf d 283 116 [xr 14 0, xr 0 0, xr 0 0, xi l3, xi l4, xi l5, xr 0 0] [] V =
    if (V 14 0 44) < l5 then
    if 0 ≤ V 14 0 44 ∧ V 14 0 44 < 16 then
      ci (Yf d 279 [xr 14 0, xi l3, xi (V 102 0 ((V 14 0 44).toNat))] V) (fun x2 V1 =>
        if x2 = 0 then
          if (V1 14 0 44) = l5 then
            some (xi l5, V1)
          else
            ci (Yf d 190 [xr 14 0, xi (-14)] V1) (fun x4 V3 =>
              some (xi x4, V3))
        else
          if 0 ≤ V1 14 0 44 ∧ V1 14 0 44 < 16 then
            if 0 ≤ w32 ((w32 ((w32 (16 * l3)) + l4)) + (V1 14 0 44)) ∧ w32 ((w32 ((w32 (16 * l3)) + l4)) + (V1 14 0 44)) < 160 then
              Xf d 283 116 [xr 14 0, xr 0 0, xr 0 0, xi l3, xi l4, xi l5, xr 0 0] [] (xu (xu V1 101 0 ((w32 ((w32 ((w32 (16 * l3)) + l4)) + (V1 14 0 44))).toNat) (V1 102 0 ((V1 14 0 44).toNat))) 14 0 44 (w32 ((V1 14 0 44) + 1)))
            else
              none
          else
            none)
    else
      none
  else
    if (V 14 0 44) = l5 then
      some (xi l5, V)
    else
      ci (Yf d 190 [xr 14 0, xi (-14)] V) (fun x6 V5 =>
        some (xi x6, V5)) := Xx_es [77, 116] P_X12_haul 4 _ _ _ V
set_option maxRecDepth 100000 in
theorem s_X12_came (d : Nat) (V : XM) : Yf (d + 1) 284 [xr 14 0] V =
    some (xi (V 14 0 44), V) := Xc_es [] P_X12_came 1 _ V
set_option maxRecDepth 100000 in
theorem s_X12_isTable (d : Nat) (V : XM) (a : Int) : Yf (d + 1) 285 [xr 14 0, xi a] V =
    ci (Yf d 189 [xl a, xl 0, xl (w32 ((V 14 0 45) - 1))] V) (fun x2 V1 =>
    if x2 = 0 ∨ x2 = 1 then
      some (xi x2, V1)
    else
      none) := Xc_es [] P_X12_isTable 1 _ V
set_option maxRecDepth 100000 in
theorem s_X12_table (d : Nat) (V : XM) (a : Int) (b : Int) (c : Int) : Yf (d + 1) 286 [xr 14 0, xi a, xi b, xi c] V =
    ci (Yf d 189 [xl a, xl 1, xl 16] V) (fun x2 V1 =>
    if x2 = 0 then
      Xf d 286 41 [xr 14 0, xi a, xi b, xi c, xi 0, xi c, xi 0] [] V1
    else
      ci (Yf d 189 [xl b, xl 1, xl 5] V1) (fun x4 V3 =>
        if x4 = 0 then
          Xf d 286 41 [xr 14 0, xi a, xi b, xi c, xi 0, xi c, xi 0] [] V3
        else
          if c < 0 then
            Xf d 286 41 [xr 14 0, xi a, xi b, xi c, xi 0, xi c, xi 0] [] V3
          else
            Xf d 286 41 [xr 14 0, xi a, xi b, xi c, xi 1, xi c, xi 0] [] V3)) := Xc_es [41, 133, 174] P_X12_table 3 _ V
set_option maxRecDepth 100000 in
theorem s_X12_table_41 (d : Nat) (V : XM) (l1 : Int) (l2 : Int) (l3 : Int) (l4 : Int) (l5 : Int) (l6 : Int) : Xf d 286 41 [xr 14 0, xi l1, xi l2, xi l3, xi l4, xi l5, xi l6] [] V =
    if l6 < l2 then
    if l4 = 0 then
      if l4 = 0 then
        some (xi (-2), V)
      else
        if 0 < l5 then
          some (xi (-2), V)
        else
          if (V 14 0 45) = 6 then
            some (xi (-4), V)
          else
            if 0 ≤ V 14 0 45 ∧ V 14 0 45 < 6 then
              if 0 ≤ V 14 0 45 ∧ V 14 0 45 < 6 then
                Xf d 286 133 [xr 14 0, xr 0 0, xi l2, xr 0 0, xr 0 0, xi l3, xi 0] [] (xu (xu V 103 0 ((V 14 0 45).toNat) l1) 104 0 ((V 14 0 45).toNat) l2)
              else
                none
            else
              none
    else
      if (Int.tmod l5 10) < 8 then
        Xf d 286 41 [xr 14 0, xi l1, xi l2, xi l3, xi 1, xi (w32 (Int.tdiv l5 10)), xi (w32 (l6 + 1))] [] V
      else
        Xf d 286 41 [xr 14 0, xi l1, xi l2, xi l3, xi 0, xi (w32 (Int.tdiv l5 10)), xi (w32 (l6 + 1))] [] V
  else
    if l4 = 0 then
      some (xi (-2), V)
    else
      if 0 < l5 then
        some (xi (-2), V)
      else
        if (V 14 0 45) = 6 then
          some (xi (-4), V)
        else
          if 0 ≤ V 14 0 45 ∧ V 14 0 45 < 6 then
            if 0 ≤ V 14 0 45 ∧ V 14 0 45 < 6 then
              Xf d 286 133 [xr 14 0, xr 0 0, xi l2, xr 0 0, xr 0 0, xi l3, xi 0] [] (xu (xu V 103 0 ((V 14 0 45).toNat) l1) 104 0 ((V 14 0 45).toNat) l2)
            else
              none
          else
            none := Xx_es [41, 133, 174] P_X12_table 4 _ _ _ V
set_option maxRecDepth 100000 in
theorem s_X12_table_133 (d : Nat) (V : XM) (l2 : Int) (l5 : Int) (l6 : Int) : Xf d 286 133 [xr 14 0, xr 0 0, xi l2, xr 0 0, xr 0 0, xi l5, xi l6] [] V =
    if l6 < l2 then
    if 0 ≤ w32 ((w32 (5 * (V 14 0 45))) + l6) ∧ w32 ((w32 (5 * (V 14 0 45))) + l6) < 30 then
      Xf d 286 133 [xr 14 0, xr 0 0, xi l2, xr 0 0, xr 0 0, xi (w32 (Int.tdiv l5 10)), xi (w32 (l6 + 1))] [] (xu V 105 0 ((w32 ((w32 (5 * (V 14 0 45))) + l6)).toNat) (Int.tmod l5 10))
    else
      none
  else
    Xf d 286 174 [xr 14 0, xr 0 0, xr 0 0, xr 0 0, xr 0 0, xr 0 0, xi 0] [] V := Xx_es [41, 133, 174] P_X12_table 2 _ _ _ V
set_option maxRecDepth 100000 in
theorem s_X12_table_174 (d : Nat) (V : XM) (l6 : Int) : Xf d 286 174 [xr 14 0, xr 0 0, xr 0 0, xr 0 0, xr 0 0, xr 0 0, xi l6] [] V =
    if l6 < 80 then
    if 0 ≤ w32 ((w32 (80 * (V 14 0 45))) + l6) ∧ w32 ((w32 (80 * (V 14 0 45))) + l6) < 480 then
      Xf d 286 174 [xr 14 0, xr 0 0, xr 0 0, xr 0 0, xr 0 0, xr 0 0, xi (w32 (l6 + 1))] [] (xu V 106 0 ((w32 ((w32 (80 * (V 14 0 45))) + l6)).toNat) 1)
    else
      none
  else
    some (xi (w32 ((w32 ((V 14 0 45) + 1)) - 1)), (xu V 14 0 45 (w32 ((V 14 0 45) + 1)))) := Xx_es [41, 133, 174] P_X12_table 2 _ _ _ V
set_option maxRecDepth 100000 in
theorem s_X12_isColumn (d : Nat) (V : XM) (a : Int) (b : Int) : Yf (d + 1) 287 [xr 14 0, xi a, xi b] V =
    if 0 ≤ a ∧ a < 6 then
    ci (Yf d 189 [xl b, xl 0, xl (w32 ((V 104 0 (a.toNat)) - 1))] V) (fun x2 V1 =>
      if x2 = 0 ∨ x2 = 1 then
        some (xi x2, V1)
      else
        none)
  else
    none := Xc_es [] P_X12_isColumn 1 _ V
set_option maxRecDepth 100000 in
theorem s_X12_isCell (d : Nat) (V : XM) (a : Int) (b : Int) (c : Int) : Yf (d + 1) 288 [xr 14 0, xi a, xi b, xi c] V =
    if 0 ≤ a ∧ a < 6 then
    ci (Yf d 189 [xl b, xl 0, xl (w32 ((V 103 0 (a.toNat)) - 1))] V) (fun x2 V1 =>
      if x2 = 0 then
        some (xi 0, V1)
      else
        ci (Yf d 287 [xr 14 0, xi a, xi c] V1) (fun x4 V3 =>
          if x4 = 0 then
            some (xi 0, V3)
          else
            some (xi 1, V3)))
  else
    none := Xc_es [] P_X12_isCell 3 _ V
set_option maxRecDepth 100000 in
theorem s_X12_cellAt (d : Nat) (V : XM) (a : Int) (b : Int) (c : Int) : Yf (d + 1) 289 [xi a, xi b, xi c] V =
    some (xi (w32 ((w32 ((w32 (80 * a)) + (w32 (5 * b)))) + c)), V) := Xc_es [] P_X12_cellAt 1 _ V
set_option maxRecDepth 100000 in
theorem s_X12_fill (d : Nat) (V : XM) (a : Int) (b : Int) (c : Int) (e : Int) : Yf (d + 1) 290 [xr 14 0, xi a, xi b, xi c, xl e] V =
    ci (Yf d 285 [xr 14 0, xi a] V) (fun x2 V1 =>
    if x2 = 0 then
      some (xi (-1), V1)
    else
      ci (Yf d 288 [xr 14 0, xi a, xi b, xi c] V1) (fun x4 V3 =>
        if x4 = 0 then
          ci (Yf d 190 [xr 14 0, xi (-12)] V3) (fun x6 V5 =>
            some (xi x6, V5))
        else
          ci (Yf d 289 [xi a, xi b, xi c] V3) (fun x8 V7 =>
            if 0 ≤ w32 ((w32 (5 * a)) + c) ∧ w32 ((w32 (5 * a)) + c) < 30 then
              if 0 ≤ x8 ∧ x8 < 480 then
                cl (Yf d 199 [xi (V7 105 0 ((w32 ((w32 (5 * a)) + c)).toNat)), xl e] (xu V7 106 0 (x8.toNat) 0)) (fun x10 V9 =>
                  if 0 ≤ x8 ∧ x8 < 480 then
                    if (V7 105 0 ((w32 ((w32 (5 * a)) + c)).toNat)) = 6 then
                      if fNum (fF2D (fL2F e)) = true then
                        if 0 ≤ x8 ∧ x8 < 480 then
                          some (xi 1, (xu (xu V9 107 0 (x8.toNat) x10) 108 0 (x8.toNat) (fF2D (fL2F e))))
                        else
                          none
                      else
                        none
                    else
                      if (V7 105 0 ((w32 ((w32 (5 * a)) + c)).toNat)) = 7 then
                        if 0 ≤ x8 ∧ x8 < 480 then
                          some (xi 1, (xu (xu V9 107 0 (x8.toNat) x10) 108 0 (x8.toNat) (fL2D e)))
                        else
                          none
                      else
                        if 0 ≤ x8 ∧ x8 < 480 then
                          some (xi 1, (xu (xu V9 107 0 (x8.toNat) x10) 108 0 (x8.toNat) 0))
                        else
                          none
                  else
                    none)
              else
                none
            else
              none))) := Xc_es [] P_X12_fill 6 _ V
set_option maxRecDepth 100000 in
theorem s_X12_blank (d : Nat) (V : XM) (a : Int) (b : Int) (c : Int) : Yf (d + 1) 291 [xr 14 0, xi a, xi b, xi c] V =
    ci (Yf d 285 [xr 14 0, xi a] V) (fun x2 V1 =>
    if x2 = 0 then
      some (xi (-1), V1)
    else
      ci (Yf d 288 [xr 14 0, xi a, xi b, xi c] V1) (fun x4 V3 =>
        if x4 = 0 then
          ci (Yf d 190 [xr 14 0, xi (-12)] V3) (fun x6 V5 =>
            some (xi x6, V5))
        else
          ci (Yf d 289 [xi a, xi b, xi c] V3) (fun x8 V7 =>
            if 0 ≤ x8 ∧ x8 < 480 then
              if (V7 106 0 (x8.toNat)) = 0 then
                if 0 ≤ x8 ∧ x8 < 480 then
                  some (xi 1, (xu V7 106 0 (x8.toNat) 1))
                else
                  none
              else
                if 0 ≤ x8 ∧ x8 < 480 then
                  some (xi 0, (xu V7 106 0 (x8.toNat) 1))
                else
                  none
            else
              none))) := Xc_es [] P_X12_blank 5 _ V
set_option maxRecDepth 100000 in
theorem s_X12_read (d : Nat) (V : XM) (a : Int) (b : Int) (c : Int) : Yf (d + 1) 292 [xr 14 0, xi a, xi b, xi c] V =
    ci (Yf d 285 [xr 14 0, xi a] V) (fun x2 V1 =>
    if x2 = 0 then
      some (xl (-1), V1)
    else
      ci (Yf d 288 [xr 14 0, xi a, xi b, xi c] V1) (fun x4 V3 =>
        if x4 = 0 then
          ci (Yf d 190 [xr 14 0, xi (-12)] V3) (fun x6 V5 =>
            some (xl x6, V5))
        else
          ci (Yf d 289 [xi a, xi b, xi c] V3) (fun x8 V7 =>
            if 0 ≤ x8 ∧ x8 < 480 then
              if (V7 106 0 (x8.toNat)) = 0 then
                if 0 ≤ x8 ∧ x8 < 480 then
                  some (xl (V7 107 0 (x8.toNat)), V7)
                else
                  none
              else
                ci (Yf d 190 [xr 14 0, xi (-11)] V7) (fun x10 V9 =>
                  some (xl x10, V9))
            else
              none))) := Xc_es [] P_X12_read 5 _ V
set_option maxRecDepth 100000 in
theorem s_X12_choose (d : Nat) (V : XM) (a : Int) (b : Int) (c : Int) (e : Int) : Yf (d + 1) 293 [xr 14 0, xi a, xi b, xl c, xi e] V =
    ci (Yf d 285 [xr 14 0, xi a] V) (fun x2 V1 =>
    if x2 = 0 then
      some (xi (-1), V1)
    else
      ci (Yf d 189 [xl e, xl 0, xl 15] V1) (fun x4 V3 =>
        if x4 = 0 then
          some (xi (-2), V3)
        else
          ci (Yf d 287 [xr 14 0, xi a, xi b] V3) (fun x6 V5 =>
            if x6 = 0 then
              ci (Yf d 190 [xr 14 0, xi (-12)] V5) (fun x8 V7 =>
                some (xi x8, V7))
            else
              Xf d 293 46 [xr 14 0, xi a, xi b, xl c, xr 0 0, xr 0 0, xi e, xr 0 0] [] V5))) := Xc_es [46] P_X12_choose 4 _ V
set_option maxRecDepth 100000 in
theorem s_X12_choose_46 (d : Nat) (V : XM) (l1 : Int) (l2 : Int) (l3 : Int) (l6 : Int) : Xf d 293 46 [xr 14 0, xi l1, xi l2, xl l3, xr 0 0, xr 0 0, xi l6, xr 0 0] [] V =
    if 0 ≤ l1 ∧ l1 < 6 then
    if l6 < (V 103 0 (l1.toNat)) then
      ci (Yf d 289 [xi l1, xi l6, xi l2] V) (fun x2 V1 =>
        if 0 ≤ x2 ∧ x2 < 480 then
          if (V1 106 0 (x2.toNat)) = 0 then
            if 0 ≤ x2 ∧ x2 < 480 then
              if (cmp3 (V1 107 0 (x2.toNat)) l3) = 0 then
                some (xi l6, V1)
              else
                Xf d 293 46 [xr 14 0, xi l1, xi l2, xl l3, xr 0 0, xr 0 0, xi (w32 (l6 + 1)), xr 0 0] [] V1
            else
              none
          else
            Xf d 293 46 [xr 14 0, xi l1, xi l2, xl l3, xr 0 0, xr 0 0, xi (w32 (l6 + 1)), xr 0 0] [] V1
        else
          none)
    else
      some (xi (-9), V)
  else
    none := Xx_es [46] P_X12_choose 2 _ _ _ V
