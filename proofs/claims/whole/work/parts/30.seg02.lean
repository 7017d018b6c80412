set_option maxRecDepth 100000 in
theorem s_X9_has (d : Nat) (V : XM) (a : Int) : Yf (d + 1) 105 [xr 5 0, xi a] V =
    ci (Yf d 123 [xi a, xi (V 5 0 9)] V) (fun x2 V1 =>
    if x2 = 0 ∨ x2 = 1 then
      some (xi x2, V1)
    else
      none) := Xc_es [] P_X9_has 1 _ V
set_option maxRecDepth 100000 in
theorem s_X9_emptyCell (d : Nat) (V : XM) (a : Int) : Yf (d + 1) 106 [xr 5 0, xi a] V =
    if 0 ≤ a ∧ a < 12 then
    if (V 27 0 (a.toNat)) = 8 then
      some (xl (-9), V)
    else
      some (xl 0, V)
  else
    none := Xc_es [] P_X9_emptyCell 3 _ V
set_option maxRecDepth 100000 in
theorem s_X9_knows (d : Nat) (V : XM) (a : Int) (b : Int) : Yf (d + 1) 107 [xr 5 0, xi a, xl b] V =
    if 0 ≤ a ∧ a < 12 then
    if (V 27 0 (a.toNat)) = 8 then
      if (cmp3 b (-9)) = 0 then
        some (xi 1, V)
      else
        ci (Yf d 90 [xr 4 0, xl b] V) (fun x2 V1 =>
          if x2 = 0 then
            some (xi 0, V1)
          else
            some (xi 1, V1))
    else
      some (xi 1, V)
  else
    none := Xc_es [] P_X9_knows 3 _ V
set_option maxRecDepth 100000 in
theorem s_X9_takes (d : Nat) (V : XM) (a : Int) (b : Int) : Yf (d + 1) 108 [xr 5 0, xi a, xl b] V =
    if 0 ≤ a ∧ a < 12 then
    if (V 27 0 (a.toNat)) = 8 then
      ci (Yf d 90 [xr 4 0, xl b] V) (fun x2 V1 =>
        if x2 = 0 then
          some (xi 1, V1)
        else
          if 0 ≤ w32 b ∧ w32 b < 64 then
            if 0 ≤ a ∧ a < 12 then
              ci (Yf d 4 [xr 3 0, xi (V1 21 0 ((w32 b).toNat)), xi (V1 28 0 (a.toNat))] V1) (fun x4 V3 =>
                if x4 = 0 then
                  some (xi 0, V3)
                else
                  some (xi 1, V3))
            else
              none
          else
            none)
    else
      some (xi 1, V)
  else
    none := Xc_es [] P_X9_takes 3 _ V
set_option maxRecDepth 100000 in
theorem s_X9_isFor (d : Nat) (V : XM) (a : Int) (b : Int) : Yf (d + 1) 109 [xr 5 0, xi a, xi b] V =
    if 0 ≤ a ∧ a < 64 then
    if 0 ≤ b ∧ b < 12 then
      ci (Yf d 4 [xr 3 0, xi (V 20 0 (a.toNat)), xi (V 26 0 (b.toNat))] V) (fun x2 V1 =>
        if x2 = 0 ∨ x2 = 1 then
          some (xi x2, V1)
        else
          none)
    else
      none
  else
    none := Xc_es [] P_X9_isFor 1 _ V
set_option maxRecDepth 100000 in
theorem s_X9_tellUsual (d : Nat) (V : XM) (a : Int) (b : Int) (c : Int) : Yf (d + 1) 110 [xr 5 0, xi a, xi b, xl c] V =
    if 0 ≤ b ∧ b < 12 then
    cl (Yf d 187 [xi (V 27 0 (b.toNat)), xl c] V) (fun x2 V1 =>
      if 0 ≤ w32 ((w32 (b * 24)) + a) ∧ w32 ((w32 (b * 24)) + a) < 288 then
        if 0 ≤ w32 ((w32 (b * 24)) + a) ∧ w32 ((w32 (b * 24)) + a) < 288 then
          some (xi 0, (xu (xu V1 29 0 ((w32 ((w32 (b * 24)) + a)).toNat) x2) 30 0 ((w32 ((w32 (b * 24)) + a)).toNat) 1))
        else
          none
      else
        none)
  else
    none := Xc_es [] P_X9_tellUsual 1 _ V
set_option maxRecDepth 100000 in
theorem s_X9_tellGiven (d : Nat) (V : XM) (a : Int) (b : Int) (c : Int) (e : Int) : Yf (d + 1) 111 [xr 5 0, xi a, xi b, xl c, xi e] V =
    if 0 ≤ b ∧ b < 12 then
    cl (Yf d 187 [xi (V 27 0 (b.toNat)), xl c] V) (fun x2 V1 =>
      if 0 ≤ w32 ((w32 (b * 64)) + a) ∧ w32 ((w32 (b * 64)) + a) < 768 then
        if 0 ≤ w32 ((w32 (b * 64)) + a) ∧ w32 ((w32 (b * 64)) + a) < 768 then
          some (xi 0, (xu (xu V1 31 0 ((w32 ((w32 (b * 64)) + a)).toNat) x2) 32 0 ((w32 ((w32 (b * 64)) + a)).toNat) e))
        else
          none
      else
        none)
  else
    none := Xc_es [] P_X9_tellGiven 1 _ V
set_option maxRecDepth 100000 in
theorem s_X9_givenBy (d : Nat) (V : XM) (a : Int) (b : Int) : Yf (d + 1) 112 [xr 5 0, xi a, xi b] V =
    if 0 ≤ w32 ((w32 (b * 64)) + a) ∧ w32 ((w32 (b * 64)) + a) < 768 then
    some (xi (V 32 0 ((w32 ((w32 (b * 64)) + a)).toNat)), V)
  else
    none := Xc_es [] P_X9_givenBy 1 _ V
set_option maxRecDepth 100000 in
theorem s_X9_givenCell (d : Nat) (V : XM) (a : Int) (b : Int) : Yf (d + 1) 113 [xr 5 0, xi a, xi b] V =
    if 0 ≤ w32 ((w32 (b * 64)) + a) ∧ w32 ((w32 (b * 64)) + a) < 768 then
    some (xl (V 31 0 ((w32 ((w32 (b * 64)) + a)).toNat)), V)
  else
    none := Xc_es [] P_X9_givenCell 1 _ V
set_option maxRecDepth 100000 in
theorem s_X9_isGivenOtherwise (d : Nat) (V : XM) (a : Int) (b : Int) (c : Int) : Yf (d + 1) 114 [xr 5 0, xi a, xi b, xl c] V =
    ci (Yf d 112 [xr 5 0, xi a, xi b] V) (fun x2 V1 =>
    if x2 < 0 then
      some (xi 0, V1)
    else
      cl (Yf d 113 [xr 5 0, xi a, xi b] V1) (fun x4 V3 =>
        if 0 ≤ b ∧ b < 12 then
          cl (Yf d 187 [xi (V3 27 0 (b.toNat)), xl c] V3) (fun x6 V5 =>
            if (cmp3 x4 x6) = 0 then
              some (xi 0, V5)
            else
              some (xi 1, V5))
        else
          none)) := Xc_es [] P_X9_isGivenOtherwise 3 _ V
set_option maxRecDepth 100000 in
theorem s_X9_valueOf (d : Nat) (V : XM) (a : Int) (b : Int) : Yf (d + 1) 115 [xr 5 0, xi a, xi b] V =
    ci (Yf d 112 [xr 5 0, xi a, xi b] V) (fun x2 V1 =>
    if x2 < 0 then
      if 0 ≤ a ∧ a < 64 then
        Xf d 115 29 [xr 5 0, xr 0 0, xi b, xi (V1 20 0 (a.toNat)), xi 0] [] V1
      else
        none
    else
      cl (Yf d 113 [xr 5 0, xi a, xi b] V1) (fun x4 V3 =>
        some (xl x4, V3))) := Xc_es [29] P_X9_valueOf 2 _ V
set_option maxRecDepth 100000 in
theorem s_X9_valueOf_29 (d : Nat) (V : XM) (l2 : Int) (l3 : Int) (l4 : Int) : Xf d 115 29 [xr 5 0, xr 0 0, xi l2, xi l3, xi l4] [] V =
    if l3 < 0 then
    cl (Yf d 106 [xr 5 0, xi l2] V) (fun x2 V1 =>
      some (xl x2, V1))
  else
    if l4 < 24 then
      if 0 ≤ w32 ((w32 (l2 * 24)) + l3) ∧ w32 ((w32 (l2 * 24)) + l3) < 288 then
        if (V 30 0 ((w32 ((w32 (l2 * 24)) + l3)).toNat)) = 0 then
          if 0 ≤ l3 ∧ l3 < 24 then
            Xf d 115 29 [xr 5 0, xr 0 0, xi l2, xi (V 19 0 (l3.toNat)), xi (w32 (l4 + 1))] [] V
          else
            none
        else
          if 0 ≤ w32 ((w32 (l2 * 24)) + l3) ∧ w32 ((w32 (l2 * 24)) + l3) < 288 then
            some (xl (V 29 0 ((w32 ((w32 (l2 * 24)) + l3)).toNat)), V)
          else
            none
      else
        none
    else
      cl (Yf d 106 [xr 5 0, xi l2] V) (fun x4 V3 =>
        some (xl x4, V3)) := Xx_es [29] P_X9_valueOf 2 _ _ _ V
set_option maxRecDepth 100000 in
theorem s_X10_begin (d : Nat) (V : XM) (a : Int) : Yf (d + 1) 117 [xr 9 0, xi a] V =
    Xf d 117 2 [xr 9 0, xi a, xi 0] [] V := Xc_es [2] P_X10_begin 1 _ V
set_option maxRecDepth 100000 in
theorem s_X10_begin_2 (d : Nat) (V : XM) (l1 : Int) (l2 : Int) : Xf d 117 2 [xr 9 0, xi l1, xi l2] [] V =
    if l2 < 64 then
    if 0 ≤ l2 ∧ l2 < 64 then
      if 0 ≤ l2 ∧ l2 < 64 then
        Xf d 117 2 [xr 9 0, xi l1, xi (w32 (l2 + 1))] [] (xu (xu V 51 0 (l2.toNat) (-9)) 52 0 (l2.toNat) (-9))
      else
        none
    else
      none
  else
    if 0 ≤ l1 ∧ l1 < 64 then
      some (xi 0, (xu (xu (xu V 51 0 (l1.toNat) 0) 53 0 0 l1) 9 0 3 1))
    else
      none := Xx_es [2] P_X10_begin 2 _ _ _ V
set_option maxRecDepth 100000 in
theorem s_X10_step (d : Nat) (V : XM) (a : Int) (b : Int) (c : Int) : Yf (d + 1) 118 [xr 9 0, xi a, xi b, xi c] V =
    if 0 ≤ b ∧ b < 64 then
    if (V 51 0 (b.toNat)) = (-9) then
      if (V 9 0 3) < 64 then
        if 0 ≤ a ∧ a < 64 then
          if 0 ≤ b ∧ b < 64 then
            if 0 ≤ a ∧ a < 64 then
              if ((xu V 51 0 (b.toNat) (w32 ((V 51 0 (a.toNat)) + 1))) 51 0 (a.toNat)) = 0 then
                if 0 ≤ b ∧ b < 64 then
                  if 0 ≤ V 9 0 3 ∧ V 9 0 3 < 64 then
                    some (xi 0, (xu (xu (xu (xu V 51 0 (b.toNat) (w32 ((V 51 0 (a.toNat)) + 1))) 52 0 (b.toNat) c) 9 0 3 (w32 ((V 9 0 3) + 1))) 53 0 ((V 9 0 3).toNat) b))
                  else
                    none
                else
                  none
              else
                if 0 ≤ a ∧ a < 64 then
                  if 0 ≤ b ∧ b < 64 then
                    if 0 ≤ V 9 0 3 ∧ V 9 0 3 < 64 then
                      some (xi 0, (xu (xu (xu (xu V 51 0 (b.toNat) (w32 ((V 51 0 (a.toNat)) + 1))) 52 0 (b.toNat) (V 52 0 (a.toNat))) 9 0 3 (w32 ((V 9 0 3) + 1))) 53 0 ((V 9 0 3).toNat) b))
                    else
                      none
                  else
                    none
                else
                  none
            else
              none
          else
            none
        else
          none
      else
        some (xi 0, V)
    else
      some (xi 0, V)
  else
    none := Xc_es [] P_X10_step 4 _ V
set_option maxRecDepth 100000 in
theorem s_X11_beginAnew (d : Nat) (V : XM) : Yf (d + 1) 120 [xr 2 0] V =
    cv (Yf d 1 [xr 3 0] V) (fun V1 =>
    some (xi 0, (xu (xu (xu (xu (xu (xu (xu (xu (xu (xu V1 4 0 7 0) 5 0 9 0) 6 0 4 0) 7 0 15 0) 10 0 6 0) 2 0 12 0) 2 0 13 0) 2 0 14 0) 2 0 15 0) 2 0 16 0))) := Xc_es [] P_X11_beginAnew 1 _ V
set_option maxRecDepth 100000 in
theorem s_X11_faulted (d : Nat) (V : XM) (a : Int) : Yf (d + 1) 121 [xr 2 0, xi a] V =
    some (xi (w32 ((-10) - a)), (xu V 2 0 15 a)) := Xc_es [] P_X11_faulted 1 _ V
set_option maxRecDepth 100000 in
theorem s_X11_against (d : Nat) (V : XM) (a : Int) : Yf (d + 1) 122 [xi a] V =
    some (xi (w32 ((-100) - a)), V) := Xc_es [] P_X11_against 1 _ V
set_option maxRecDepth 100000 in
theorem s_X11_inRange (d : Nat) (V : XM) (a : Int) (b : Int) : Yf (d + 1) 123 [xi a, xi b] V =
    if a < 0 then
    some (xi 0, V)
  else
    if a < b then
      some (xi 1, V)
    else
      some (xi 0, V) := Xc_es [] P_X11_inRange 3 _ V
set_option maxRecDepth 100000 in
theorem s_X11_kind (d : Nat) (V : XM) (a : Int) : Yf (d + 1) 124 [xr 2 0, xi a] V =
    ci (Yf d 3 [xr 3 0, xi a] V) (fun x2 V1 =>
    if x2 = 0 then
      some (xi (-1), V1)
    else
      if (V1 3 0 1) < 24 then
        ci (Yf d 2 [xr 3 0, xi a] V1) (fun x4 V3 =>
          some (xi x4, V3))
      else
        some (xi (-4), V1)) := Xc_es [] P_X11_kind 3 _ V
set_option maxRecDepth 100000 in
theorem s_X11_is (d : Nat) (V : XM) (a : Int) (b : Int) : Yf (d + 1) 125 [xr 2 0, xi a, xi b] V =
    ci (Yf d 3 [xr 3 0, xi a] V) (fun x2 V1 =>
    if x2 = 0 then
      some (xi (-1), V1)
    else
      ci (Yf d 3 [xr 3 0, xi b] V1) (fun x4 V3 =>
        if x4 = 0 then
          some (xi (-1), V3)
        else
          ci (Yf d 4 [xr 3 0, xi a, xi b] V3) (fun x6 V5 =>
            if x6 = 0 then
              some (xi 0, V5)
            else
              some (xi 1, V5)))) := Xc_es [] P_X11_is 4 _ V
set_option maxRecDepth 100000 in
theorem s_X11_property (d : Nat) (V : XM) (a : Int) (b : Int) (c : Int) : Yf (d + 1) 126 [xr 2 0, xi a, xi b, xi c] V =
    ci (Yf d 3 [xr 3 0, xi a] V) (fun x2 V1 =>
    if x2 = 0 then
      some (xi (-1), V1)
    else
      if b = 8 then
        ci (Yf d 3 [xr 3 0, xi c] V1) (fun x4 V3 =>
          if x4 = 0 then
            some (xi (-1), V3)
          else
            ci (Yf d 123 [xi b, xi 9] V3) (fun x6 V5 =>
              if x6 = 0 then
                some (xi (-2), V5)
              else
                if (V5 5 0 9) < 12 then
                  if b = 8 then
                    ci (Yf d 5 [xr 3 0, xi c] V5) (fun x8 V7 =>
                      ci (Yf d 104 [xr 5 0, xi a, xi b, xi x8] V7) (fun x10 V9 =>
                        some (xi x10, V9)))
                  else
                    ci (Yf d 104 [xr 5 0, xi a, xi b, xi (-9)] V5) (fun x12 V11 =>
                      some (xi x12, V11))
                else
                  some (xi (-4), V5)))
      else
        ci (Yf d 123 [xi b, xi 9] V1) (fun x14 V13 =>
          if x14 = 0 then
            some (xi (-2), V13)
          else
            if (V13 5 0 9) < 12 then
              if b = 8 then
                ci (Yf d 5 [xr 3 0, xi c] V13) (fun x16 V15 =>
                  ci (Yf d 104 [xr 5 0, xi a, xi b, xi x16] V15) (fun x18 V17 =>
                    some (xi x18, V17)))
              else
                ci (Yf d 104 [xr 5 0, xi a, xi b, xi (-9)] V13) (fun x20 V19 =>
                  some (xi x20, V19))
            else
              some (xi (-4), V13))) := Xc_es [] P_X11_property 6 _ V
set_option maxRecDepth 100000 in
theorem s_X11_usual (d : Nat) (V : XM) (a : Int) (b : Int) (c : Int) : Yf (d + 1) 127 [xr 2 0, xi a, xi b, xl c] V =
    ci (Yf d 3 [xr 3 0, xi a] V) (fun x2 V1 =>
    if x2 = 0 then
      some (xi (-1), V1)
    else
      ci (Yf d 105 [xr 5 0, xi b] V1) (fun x4 V3 =>
        if x4 = 0 then
          some (xi (-1), V3)
        else
          ci (Yf d 107 [xr 5 0, xi b, xl c] V3) (fun x6 V5 =>
            if x6 = 0 then
              some (xi (-1), V5)
            else
              if 0 ≤ b ∧ b < 12 then
                ci (Yf d 4 [xr 3 0, xi a, xi (V5 26 0 (b.toNat))] V5) (fun x8 V7 =>
                  if x8 = 0 then
                    some (xi (-3), V7)
                  else
                    ci (Yf d 108 [xr 5 0, xi b, xl c] V7) (fun x10 V9 =>
                      if x10 = 0 then
                        ci (Yf d 121 [xr 2 0, xi 4] V9) (fun x12 V11 =>
                          some (xi x12, V11))
                      else
                        cv (Yf d 110 [xr 5 0, xi a, xi b, xl c] V9) (fun V13 =>
                          some (xi 1, V13))))
              else
                none))) := Xc_es [] P_X11_usual 4 _ V
set_option maxRecDepth 100000 in
theorem s_X11_thing (d : Nat) (V : XM) (a : Int) (b : Int) : Yf (d + 1) 128 [xr 2 0, xi a, xi b] V =
    ci (Yf d 3 [xr 3 0, xi a] V) (fun x2 V1 =>
    if x2 = 0 then
      some (xi (-1), V1)
    else
      if b < 0 then
        some (xi (-2), V1)
      else
        if 1000 < b then
          some (xi (-2), V1)
        else
          if (V1 4 0 7) < 64 then
            ci (Yf d 89 [xr 4 0, xi a, xi b] V1) (fun x4 V3 =>
              cv (Yf d 7 [xr 7 0, xi x4] V3) (fun V5 =>
                cv (Yf d 50 [xr 11 0, xi x4] V5) (fun V6 =>
                  some (xi x4, V6))))
          else
            some (xi (-4), V1)) := Xc_es [] P_X11_thing 4 _ V
set_option maxRecDepth 100000 in
theorem s_X11_put (d : Nat) (V : XM) (a : Int) (b : Int) : Yf (d + 1) 129 [xr 2 0, xi a, xi b] V =
    ci (Yf d 90 [xr 4 0, xl a] V) (fun x2 V1 =>
    if x2 = 0 then
      some (xi (-1), V1)
    else
      ci (Yf d 90 [xr 4 0, xl b] V1) (fun x4 V3 =>
        if x4 = 0 then
          some (xi (-1), V3)
        else
          ci (Yf d 100 [xr 4 0, xi a, xi b] V3) (fun x6 V5 =>
            if x6 = 0 then
              some (xi (-3), V5)
            else
              ci (Yf d 12 [xr 7 0, xi b, xi a] V5) (fun x8 V7 =>
                if x8 = 0 then
                  ci (Yf d 10 [xr 7 0, xi a, xi b] V7) (fun x10 V9 =>
                    if x10 = 0 then
                      ci (Yf d 63 [xr 6 0] V9) (fun x12 V11 =>
                        if x12 = 0 then
                          ci (Yf d 11 [xr 7 0, xi a] V11) (fun x14 V13 =>
                            if x14 = 0 then
                              ci (Yf d 15 [xr 7 0, xi a, xi b] V13) (fun x16 V15 =>
                                if x16 < 0 then
                                  ci (Yf d 64 [xr 6 0, xi 0, xi a, xi b, xi (-9)] V15) (fun x18 V17 =>
                                    cv (Yf d 13 [xr 7 0, xi a, xi b, xi x18] V17) (fun V19 =>
                                      some (xi x18, V19)))
                                else
                                  ci (Yf d 122 [xi x16] V15) (fun x21 V20 =>
                                    some (xi x21, V20)))
                            else
                              some (xi (-4), V13))
                        else
                          some (xi (-4), V11))
                    else
                      some (xi (-3), V9))
                else
                  some (xi (-3), V7))))) := Xc_es [] P_X11_put 5 _ V
set_option maxRecDepth 100000 in
theorem s_X11_bar (d : Nat) (V : XM) (a : Int) (b : Int) : Yf (d + 1) 130 [xr 2 0, xi a, xi b] V =
    ci (Yf d 90 [xr 4 0, xl a] V) (fun x2 V1 =>
    if x2 = 0 then
      some (xi (-1), V1)
    else
      ci (Yf d 90 [xr 4 0, xl b] V1) (fun x4 V3 =>
        if x4 = 0 then
          some (xi (-1), V3)
        else
          ci (Yf d 98 [xr 4 0, xi a] V3) (fun x6 V5 =>
            if x6 = 0 then
              ci (Yf d 96 [xr 4 0, xi b] V5) (fun x8 V7 =>
                if x8 = 0 then
                  some (xi (-3), V7)
                else
                  ci (Yf d 63 [xr 6 0] V7) (fun x10 V9 =>
                    if x10 = 0 then
                      ci (Yf d 19 [xr 7 0, xi a, xi b] V9) (fun x12 V11 =>
                        if x12 < 0 then
                          cv (Yf d 20 [xr 7 0, xi a, xi b] V11) (fun V13 =>
                            ci (Yf d 64 [xr 6 0, xi 1, xi a, xi b, xi (-9)] V13) (fun x15 V14 =>
                              some (xi x15, V14)))
                        else
                          ci (Yf d 122 [xi x12] V11) (fun x17 V16 =>
                            some (xi x17, V16)))
                    else
                      some (xi (-4), V9)))
            else
              some (xi (-3), V5)))) := Xc_es [] P_X11_bar 5 _ V
set_option maxRecDepth 100000 in
theorem s_X11_give (d : Nat) (V : XM) (a : Int) (b : Int) (c : Int) : Yf (d + 1) 131 [xr 2 0, xi a, xi b, xl c] V =
    ci (Yf d 90 [xr 4 0, xl a] V) (fun x2 V1 =>
    if x2 = 0 then
      some (xi (-1), V1)
    else
      ci (Yf d 105 [xr 5 0, xi b] V1) (fun x4 V3 =>
        if x4 = 0 then
          some (xi (-1), V3)
        else
          ci (Yf d 107 [xr 5 0, xi b, xl c] V3) (fun x6 V5 =>
            if x6 = 0 then
              some (xi (-1), V5)
            else
              ci (Yf d 109 [xr 5 0, xi a, xi b] V5) (fun x8 V7 =>
                if x8 = 0 then
                  some (xi (-3), V7)
                else
                  ci (Yf d 63 [xr 6 0] V7) (fun x10 V9 =>
                    if x10 = 0 then
                      ci (Yf d 108 [xr 5 0, xi b, xl c] V9) (fun x12 V11 =>
                        if x12 = 0 then
                          ci (Yf d 121 [xr 2 0, xi 4] V11) (fun x14 V13 =>
                            some (xi x14, V13))
                        else
                          ci (Yf d 114 [xr 5 0, xi a, xi b, xl c] V11) (fun x16 V15 =>
                            if x16 = 0 then
                              ci (Yf d 64 [xr 6 0, xi 2, xi a, xi b, xi (-9)] V15) (fun x18 V17 =>
                                cv (Yf d 111 [xr 5 0, xi a, xi b, xl c, xi x18] V17) (fun V19 =>
                                  some (xi x18, V19)))
                            else
                              ci (Yf d 112 [xr 5 0, xi a, xi b] V15) (fun x21 V20 =>
                                ci (Yf d 122 [xi x21] V20) (fun x23 V22 =>
                                  some (xi x23, V22)))))
                    else
                      some (xi (-4), V9)))))) := Xc_es [] P_X11_give 6 _ V
set_option maxRecDepth 100000 in
theorem s_X11_value (d : Nat) (V : XM) (a : Int) (b : Int) : Yf (d + 1) 132 [xr 2 0, xi a, xi b] V =
    ci (Yf d 90 [xr 4 0, xl a] V) (fun x2 V1 =>
    if x2 = 0 then
      some (xl (-1), V1)
    else
      ci (Yf d 105 [xr 5 0, xi b] V1) (fun x4 V3 =>
        if x4 = 0 then
          some (xl (-1), V3)
        else
          ci (Yf d 109 [xr 5 0, xi a, xi b] V3) (fun x6 V5 =>
            if x6 = 0 then
              some (xl (-3), V5)
            else
              cl (Yf d 115 [xr 5 0, xi a, xi b] V5) (fun x8 V7 =>
                some (xl x8, V7))))) := Xc_es [] P_X11_value 3 _ V
set_option maxRecDepth 100000 in
theorem s_X11_given (d : Nat) (V : XM) (a : Int) (b : Int) : Yf (d + 1) 133 [xr 2 0, xi a, xi b] V =
    ci (Yf d 90 [xr 4 0, xl a] V) (fun x2 V1 =>
    if x2 = 0 then
      some (xi (-1), V1)
    else
      ci (Yf d 105 [xr 5 0, xi b] V1) (fun x4 V3 =>
        if x4 = 0 then
          some (xi (-1), V3)
        else
          ci (Yf d 112 [xr 5 0, xi a, xi b] V3) (fun x6 V5 =>
            some (xi x6, V5)))) := Xc_es [] P_X11_given 2 _ V
set_option maxRecDepth 100000 in
theorem s_X11_peek (d : Nat) (V : XM) (a : Int) (b : Int) (c : Int) : Yf (d + 1) 134 [xr 2 0, xi a, xi b, xi c] V =
    ci (Yf d 105 [xr 5 0, xi a] V) (fun x2 V1 =>
    if x2 = 0 then
      some (xl (-1), V1)
    else
      ci (Yf d 123 [xi b, xi 9] V1) (fun x4 V3 =>
        if x4 = 0 then
          some (xl (-2), V3)
        else
          if 0 ≤ a ∧ a < 12 then
            if b = (V3 27 0 (a.toNat)) then
              ci (Yf d 123 [xi c, xi 64] V3) (fun x6 V5 =>
                if x6 = 0 then
                  ci (Yf d 121 [xr 2 0, xi 2] V5) (fun x8 V7 =>
                    some (xl x8, V7))
                else
                  cl (Yf d 113 [xr 5 0, xi c, xi a] V5) (fun x10 V9 =>
                    some (xl x10, V9)))
            else
              ci (Yf d 121 [xr 2 0, xi 3] V3) (fun x12 V11 =>
                some (xl x12, V11))
          else
            none)) := Xc_es [] P_X11_peek 5 _ V
set_option maxRecDepth 100000 in
theorem s_X11_place (d : Nat) (V : XM) (a : Int) (b : Int) : Yf (d + 1) 135 [xr 2 0, xi a, xi b] V =
    ci (Yf d 90 [xr 4 0, xl a] V) (fun x2 V1 =>
    if x2 = 0 then
      some (xi (-1), V1)
    else
      ci (Yf d 8 [xr 7 0, xi a, xi b] V1) (fun x4 V3 =>
        some (xi x4, V3))) := Xc_es [] P_X11_place 2 _ V
set_option maxRecDepth 100000 in
theorem s_X11_says (d : Nat) (V : XM) (a : Int) (b : Int) : Yf (d + 1) 136 [xr 2 0, xi a, xi b] V =
    ci (Yf d 90 [xr 4 0, xl a] V) (fun x2 V1 =>
    if x2 = 0 then
      some (xi (-1), V1)
    else
      if b < 0 then
        some (xi (-2), V1)
      else
        if 4 < b then
          some (xi (-2), V1)
        else
          ci (Yf d 137 [xr 2 0, xi a, xi b] V1) (fun x4 V3 =>
            some (xi x4, V3))) := Xc_es [] P_X11_says 3 _ V
set_option maxRecDepth 100000 in
theorem s_X11_saying (d : Nat) (V : XM) (a : Int) (b : Int) : Yf (d + 1) 137 [xr 2 0, xi a, xi b] V =
    if b = 0 then
    ci (Yf d 32 [xr 7 0, xi a] V) (fun x2 V1 =>
      some (xi x2, V1))
  else
    if b = 0 + 1 then
      ci (Yf d 101 [xr 4 0, xi a] V) (fun x4 V3 =>
        some (xi x4, V3))
    else
      if b = 0 + 1 + 1 then
        ci (Yf d 96 [xr 4 0, xi a] V) (fun x6 V5 =>
          if x6 = 0 then
            ci (Yf d 121 [xr 2 0, xi 3] V5) (fun x8 V7 =>
              some (xi x8, V7))
          else
            ci (Yf d 34 [xr 7 0, xi a] V5) (fun x10 V9 =>
              some (xi x10, V9)))
      else
        if b = 0 + 1 + 1 + 1 then
          ci (Yf d 97 [xr 4 0, xi a] V) (fun x12 V11 =>
            if x12 = 0 then
              ci (Yf d 121 [xr 2 0, xi 3] V11) (fun x14 V13 =>
                some (xi x14, V13))
            else
              ci (Yf d 102 [xr 4 0, xi a] V11) (fun x16 V15 =>
                some (xi x16, V15)))
        else
          if 0 ≤ a ∧ a < 64 then
            if (V 21 0 (a.toNat)) = 5 then
              ci (Yf d 138 [xr 2 0, xi a] V) (fun x18 V17 =>
                some (xi x18, V17))
            else
              ci (Yf d 121 [xr 2 0, xi 3] V) (fun x20 V19 =>
                some (xi x20, V19))
          else
            none := Xc_es [] P_X11_saying 4 _ V
set_option maxRecDepth 100000 in
theorem s_X11_stride (d : Nat) (V : XM) (a : Int) : Yf (d + 1) 138 [xr 2 0, xi a] V =
    ci (Yf d 34 [xr 7 0, xi a] V) (fun x2 V1 =>
    if x2 = 0 then
      ci (Yf d 121 [xr 2 0, xi 6] V1) (fun x4 V3 =>
        some (xi x4, V3))
    else
      if x2 = 0 then
        none
      else
        some (xi (w32 (Int.tdiv 1000 x2)), V1)) := Xc_es [] P_X11_stride 3 _ V
set_option maxRecDepth 100000 in
theorem s_X11_follow (d : Nat) (V : XM) (a : Int) (b : Int) (c : Int) : Yf (d + 1) 139 [xr 2 0, xi a, xi b, xi c] V =
    ci (Yf d 90 [xr 4 0, xl a] V) (fun x2 V1 =>
    if x2 = 0 then
      some (xi (-1), V1)
    else
      ci (Yf d 105 [xr 5 0, xi b] V1) (fun x4 V3 =>
        if x4 = 0 then
          some (xi (-1), V3)
        else
          if c < 0 then
            some (xi (-2), V3)
          else
            if 4 < c then
              some (xi (-2), V3)
            else
              ci (Yf d 109 [xr 5 0, xi a, xi b] V3) (fun x6 V5 =>
                if x6 = 0 then
                  some (xi (-3), V5)
                else
                  if 0 ≤ b ∧ b < 12 then
                    if (V5 27 0 (b.toNat)) = 8 then
                      cl (Yf d 115 [xr 5 0, xi a, xi b] V5) (fun x8 V7 =>
                        ci (Yf d 90 [xr 4 0, xl x8] V7) (fun x10 V9 =>
                          if x10 = 0 then
                            ci (Yf d 121 [xr 2 0, xi 1] V9) (fun x12 V11 =>
                              some (xi x12, V11))
                          else
                            ci (Yf d 137 [xr 2 0, xi (w32 x8), xi c] V9) (fun x14 V13 =>
                              some (xi x14, V13))))
                    else
                      ci (Yf d 121 [xr 2 0, xi 3] V5) (fun x16 V15 =>
                        some (xi x16, V15))
                  else
                    none))) := Xc_es [] P_X11_follow 7 _ V
set_option maxRecDepth 100000 in
theorem s_X11_mark (d : Nat) (V : XM) (a : Int) (b : Int) : Yf (d + 1) 140 [xr 2 0, xi a, xi b] V =
    ci (Yf d 90 [xr 4 0, xl a] V) (fun x2 V1 =>
    if x2 = 0 then
      some (xi (-1), V1)
    else
      if b = 0 then
        if b = 1 then
          ci (Yf d 97 [xr 4 0, xi a] V1) (fun x4 V3 =>
            if x4 = 0 then
              ci (Yf d 121 [xr 2 0, xi 3] V3) (fun x6 V5 =>
                some (xi x6, V5))
            else
              if b = 0 then
                if 0 ≤ a ∧ a < 64 then
                  some (xi (V3 23 0 (a.toNat)), V3)
                else
                  none
              else
                if 0 ≤ a ∧ a < 64 then
                  some (xi (V3 24 0 (a.toNat)), V3)
                else
                  none)
        else
          if b = 0 then
            if 0 ≤ a ∧ a < 64 then
              some (xi (V1 23 0 (a.toNat)), V1)
            else
              none
          else
            if 0 ≤ a ∧ a < 64 then
              some (xi (V1 24 0 (a.toNat)), V1)
            else
              none
      else
        if b = 1 then
          if b = 1 then
            ci (Yf d 97 [xr 4 0, xi a] V1) (fun x8 V7 =>
              if x8 = 0 then
                ci (Yf d 121 [xr 2 0, xi 3] V7) (fun x10 V9 =>
                  some (xi x10, V9))
              else
                if b = 0 then
                  if 0 ≤ a ∧ a < 64 then
                    some (xi (V7 23 0 (a.toNat)), V7)
                  else
                    none
                else
                  if 0 ≤ a ∧ a < 64 then
                    some (xi (V7 24 0 (a.toNat)), V7)
                  else
                    none)
          else
            if b = 0 then
              if 0 ≤ a ∧ a < 64 then
                some (xi (V1 23 0 (a.toNat)), V1)
              else
                none
            else
              if 0 ≤ a ∧ a < 64 then
                some (xi (V1 24 0 (a.toNat)), V1)
              else
                none
        else
          some (xi (-2), V1)) := Xc_es [] P_X11_mark 6 _ V
set_option maxRecDepth 100000 in
theorem s_X11_remark (d : Nat) (V : XM) (a : Int) (b : Int) (c : Int) : Yf (d + 1) 141 [xr 2 0, xi a, xi b, xi c] V =
    ci (Yf d 90 [xr 4 0, xl a] V) (fun x2 V1 =>
    if x2 = 0 then
      some (xi (-1), V1)
    else
      if b = 0 then
        if c < 0 then
          some (xi (-2), V1)
        else
          if 1000 < c then
            some (xi (-2), V1)
          else
            if b = 1 then
              ci (Yf d 97 [xr 4 0, xi a] V1) (fun x4 V3 =>
                if x4 = 0 then
                  ci (Yf d 121 [xr 2 0, xi 3] V3) (fun x6 V5 =>
                    some (xi x6, V5))
                else
                  if b = 0 then
                    if 0 ≤ a ∧ a < 64 then
                      if 0 ≤ a ∧ a < 64 then
                        some (xi (V3 23 0 (a.toNat)), (xu V3 23 0 (a.toNat) c))
                      else
                        none
                    else
                      none
                  else
                    if 0 ≤ a ∧ a < 64 then
                      if 0 ≤ a ∧ a < 64 then
                        some (xi (V3 24 0 (a.toNat)), (xu V3 24 0 (a.toNat) c))
                      else
                        none
                    else
                      none)
            else
              if b = 0 then
                if 0 ≤ a ∧ a < 64 then
                  if 0 ≤ a ∧ a < 64 then
                    some (xi (V1 23 0 (a.toNat)), (xu V1 23 0 (a.toNat) c))
                  else
                    none
                else
                  none
              else
                if 0 ≤ a ∧ a < 64 then
                  if 0 ≤ a ∧ a < 64 then
                    some (xi (V1 24 0 (a.toNat)), (xu V1 24 0 (a.toNat) c))
                  else
                    none
                else
                  none
      else
        if b = 1 then
          if c < 0 then
            some (xi (-2), V1)
          else
            if 1000 < c then
              some (xi (-2), V1)
            else
              if b = 1 then
                ci (Yf d 97 [xr 4 0, xi a] V1) (fun x8 V7 =>
                  if x8 = 0 then
                    ci (Yf d 121 [xr 2 0, xi 3] V7) (fun x10 V9 =>
                      some (xi x10, V9))
                  else
                    if b = 0 then
                      if 0 ≤ a ∧ a < 64 then
                        if 0 ≤ a ∧ a < 64 then
                          some (xi (V7 23 0 (a.toNat)), (xu V7 23 0 (a.toNat) c))
                        else
                          none
                      else
                        none
                    else
                      if 0 ≤ a ∧ a < 64 then
                        if 0 ≤ a ∧ a < 64 then
                          some (xi (V7 24 0 (a.toNat)), (xu V7 24 0 (a.toNat) c))
                        else
                          none
                      else
                        none)
              else
                if b = 0 then
                  if 0 ≤ a ∧ a < 64 then
                    if 0 ≤ a ∧ a < 64 then
                      some (xi (V1 23 0 (a.toNat)), (xu V1 23 0 (a.toNat) c))
                    else
                      none
                  else
                    none
                else
                  if 0 ≤ a ∧ a < 64 then
                    if 0 ≤ a ∧ a < 64 then
                      some (xi (V1 24 0 (a.toNat)), (xu V1 24 0 (a.toNat) c))
                    else
                      none
                  else
                    none
        else
          some (xi (-2), V1)) := Xc_es [] P_X11_remark 7 _ V
set_option maxRecDepth 100000 in
theorem s_X11_open (d : Nat) (V : XM) (a : Int) (b : Int) : Yf (d + 1) 142 [xr 2 0, xi a, xi b] V =
    ci (Yf d 90 [xr 4 0, xl a] V) (fun x2 V1 =>
    if x2 = 0 then
      some (xi (-1), V1)
    else
      ci (Yf d 97 [xr 4 0, xi a] V1) (fun x4 V3 =>
        if x4 = 0 then
          ci (Yf d 121 [xr 2 0, xi 3] V3) (fun x6 V5 =>
            some (xi x6, V5))
        else
          if 0 ≤ a ∧ a < 64 then
            if (V3 25 0 (a.toNat)) = 0 then
              if 0 ≤ a ∧ a < 64 then
                some (xi 0, (xu V3 25 0 (a.toNat) (b % 2)))
              else
                none
            else
              if 0 ≤ a ∧ a < 64 then
                some (xi 1, (xu V3 25 0 (a.toNat) (b % 2)))
              else
                none
          else
            none)) := Xc_es [] P_X11_open 5 _ V
set_option maxRecDepth 100000 in
theorem s_X11_among (d : Nat) (V : XM) (a : Int) (b : Int) : Yf (d + 1) 143 [xr 2 0, xi a, xl b] V =
    ci (Yf d 90 [xr 4 0, xl a] V) (fun x2 V1 =>
    if x2 = 0 then
      some (xi (-1), V1)
    else
      cl (Yf d 91 [xr 4 0] V1) (fun x4 V3 =>
        if (cmp3 (lAnd b (lXor x4 (-1))) 0) = 0 then
          if (cmp3 b 0) = 0 then
            some (xi (-2), V3)
          else
            ci (Yf d 99 [xr 4 0, xi a] V3) (fun x6 V5 =>
              if x6 = 0 then
                some (xi (-3), V5)
              else
                cl (Yf d 186 [xi a] V5) (fun x8 V7 =>
                  if (cmp3 (lAnd b x8) 0) = 0 then
                    cl (Yf d 92 [xr 4 0] V7) (fun x10 V9 =>
                      if (cmp3 (lAnd b (lXor x10 (-1))) 0) = 0 then
                        ci (Yf d 63 [xr 6 0] V9) (fun x12 V11 =>
                          if x12 = 0 then
                            ci (Yf d 21 [xr 7 0, xi a, xl b] V11) (fun x14 V13 =>
                              if x14 < 0 then
                                ci (Yf d 64 [xr 6 0, xi 3, xi a, xi (w32 b), xi (-9)] V13) (fun x16 V15 =>
                                  cv (Yf d 23 [xr 7 0, xi a, xl b, xi x16] V15) (fun V17 =>
                                    some (xi x16, V17)))
                              else
                                ci (Yf d 122 [xi x14] V13) (fun x19 V18 =>
                                  some (xi x19, V18)))
                          else
                            some (xi (-4), V11))
                      else
                        some (xi (-3), V9))
                  else
                    some (xi (-3), V7)))
        else
          some (xi (-1), V3))) := Xc_es [] P_X11_among 6 _ V
set_option maxRecDepth 100000 in
theorem s_X11_pair (d : Nat) (V : XM) (a : Int) (b : Int) (c : Int) : Yf (d + 1) 144 [xr 2 0, xi a, xi b, xi c] V =
    ci (Yf d 90 [xr 4 0, xl a] V) (fun x2 V1 =>
    if x2 = 0 then
      some (xi (-1), V1)
    else
      ci (Yf d 90 [xr 4 0, xl b] V1) (fun x4 V3 =>
        if x4 = 0 then
          some (xi (-1), V3)
        else
          if a = b then
            some (xi (-3), V3)
          else
            ci (Yf d 99 [xr 4 0, xi a] V3) (fun x6 V5 =>
              if x6 = 0 then
                some (xi (-3), V5)
              else
                ci (Yf d 99 [xr 4 0, xi b] V5) (fun x8 V7 =>
                  if x8 = 0 then
                    some (xi (-3), V7)
                  else
                    ci (Yf d 63 [xr 6 0] V7) (fun x10 V9 =>
                      if x10 = 0 then
                        if (V9 7 0 15) < 16 then
                          ci (Yf d 27 [xr 7 0, xi a, xi b, xi c] V9) (fun x12 V11 =>
                            if x12 < 0 then
                              ci (Yf d 64 [xr 6 0, xi 4, xi a, xi b, xi (-9)] V11) (fun x14 V13 =>
                                cv (Yf d 28 [xr 7 0, xi a, xi b, xi c, xi x14] V13) (fun V15 =>
                                  some (xi x14, V15)))
                            else
                              ci (Yf d 122 [xi x12] V11) (fun x17 V16 =>
                                some (xi x17, V16)))
                        else
                          some (xi (-4), V9)
                      else
                        some (xi (-4), V9)))))) := Xc_es [] P_X11_pair 5 _ V
set_option maxRecDepth 100000 in
theorem s_X11_most (d : Nat) (V : XM) (a : Int) (b : Int) : Yf (d + 1) 145 [xr 2 0, xi a, xi b] V =
    ci (Yf d 90 [xr 4 0, xl a] V) (fun x2 V1 =>
    if x2 = 0 then
      some (xi (-1), V1)
    else
      if b < 0 then
        some (xi (-2), V1)
      else
        if 64 < b then
          some (xi (-2), V1)
        else
          ci (Yf d 96 [xr 4 0, xi a] V1) (fun x4 V3 =>
            if x4 = 0 then
              some (xi (-3), V3)
            else
              ci (Yf d 29 [xr 7 0, xi a] V3) (fun x6 V5 =>
                if x6 = 0 then
                  ci (Yf d 63 [xr 6 0] V5) (fun x8 V7 =>
                    if x8 = 0 then
                      ci (Yf d 31 [xr 7 0, xi a, xi b] V7) (fun x10 V9 =>
                        if x10 < 0 then
                          ci (Yf d 64 [xr 6 0, xi 5, xi a, xi b, xi (-9)] V9) (fun x12 V11 =>
                            cv (Yf d 30 [xr 7 0, xi a, xi b, xi x12] V11) (fun V13 =>
                              some (xi x12, V13)))
                        else
                          ci (Yf d 122 [xi x10] V9) (fun x15 V14 =>
                            some (xi x15, V14)))
                    else
                      some (xi (-4), V7))
                else
                  some (xi (-3), V5)))) := Xc_es [] P_X11_most 6 _ V
