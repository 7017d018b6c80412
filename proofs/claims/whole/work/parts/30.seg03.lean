set_option maxRecDepth 100000 in
theorem s_X11_settle (d : Nat) (V : XM) : Yf (d + 1) 146 [xr 2 0] V =
    ci (Yf d 26 [xr 7 0] V) (fun x2 V1 =>
    if 7 < x2 then
      some (xi (-3), V1)
    else
      ci (Yf d 67 [xr 8 0] V1) (fun x4 V3 =>
        if 3000 < x4 then
          some (xi (-3), V3)
        else
          if 300 < (w32 ((V3 6 0 4) + x2)) then
            some (xi (-4), V3)
          else
            ci (Yf d 69 [xr 8 0, xi (V3 6 0 4)] V3) (fun x6 V5 =>
              if x6 = 0 then
                some (xi (-5), V5)
              else
                Xf d 146 70 [xr 2 0, xi x2, xi 0, xr 0 0] [] V5))) := Xc_es [70] P_X11_settle 4 _ V
set_option maxRecDepth 100000 in
theorem s_X11_settle_70 (d : Nat) (V : XM) (l1 : Int) (l2 : Int) : Xf d 146 70 [xr 2 0, xi l1, xi l2, xr 0 0] [] V =
    if l2 < l1 then
    ci (Yf d 68 [xr 8 0, xi l2] V) (fun x2 V1 =>
      ci (Yf d 8 [xr 7 0, xi x2, xi 0] V1) (fun x4 V3 =>
        ci (Yf d 64 [xr 6 0, xi 0, xi x2, xi x4, xi (-9)] V3) (fun x6 V5 =>
          Xf d 146 70 [xr 2 0, xi l1, xi (w32 (l2 + 1)), xr 0 0] [] V5)))
  else
    some (xi l1, V) := Xx_es [70] P_X11_settle 2 _ _ _ V
set_option maxRecDepth 100000 in
theorem s_X11_set (d : Nat) (V : XM) (a : Int) : Yf (d + 1) 147 [xr 2 0, xi a] V =
    ci (Yf d 90 [xr 4 0, xl a] V) (fun x2 V1 =>
    if x2 = 0 then
      some (xl 0, V1)
    else
      cl (Yf d 24 [xr 7 0, xi a] V1) (fun x4 V3 =>
        some (xl x4, V3))) := Xc_es [] P_X11_set 3 _ V
set_option maxRecDepth 100000 in
theorem s_X11_relation (d : Nat) (V : XM) (a : Int) : Yf (d + 1) 148 [xr 2 0, xi a] V =
    if a < 0 then
    some (xi (-2), V)
  else
    if 5 < a then
      some (xi (-2), V)
    else
      if (V 10 0 6) < 8 then
        ci (Yf d 36 [xr 10 0, xi a] V) (fun x2 V1 =>
          some (xi x2, V1))
      else
        some (xi (-4), V) := Xc_es [] P_X11_relation 3 _ V
set_option maxRecDepth 100000 in
theorem s_X11_relate (d : Nat) (V : XM) (a : Int) (b : Int) (c : Int) : Yf (d + 1) 149 [xr 2 0, xi a, xi b, xi c] V =
    ci (Yf d 154 [xr 2 0, xi a, xi b, xi c] V) (fun x2 V1 =>
    if x2 = 0 then
      some (xi (-1), V1)
    else
      if b = c then
        some (xi (-3), V1)
      else
        ci (Yf d 39 [xr 10 0, xi a, xi b, xi c] V1) (fun x4 V3 =>
          if x4 = 0 then
            ci (Yf d 63 [xr 6 0] V3) (fun x6 V5 =>
              if x6 = 0 then
                ci (Yf d 42 [xr 10 0, xi a, xi b, xi c] V5) (fun x8 V7 =>
                  if x8 < 0 then
                    cv (Yf d 40 [xr 10 0, xi a, xi b, xi c] V7) (fun V9 =>
                      ci (Yf d 64 [xr 6 0, xi 6, xi a, xi b, xi c] V9) (fun x11 V10 =>
                        some (xi x11, V10)))
                  else
                    ci (Yf d 122 [xi x8] V7) (fun x13 V12 =>
                      some (xi x13, V12)))
              else
                some (xi (-4), V5))
          else
            some (xi (-3), V3))) := Xc_es [] P_X11_relate 5 _ V
set_option maxRecDepth 100000 in
theorem s_X11_deny (d : Nat) (V : XM) (a : Int) (b : Int) (c : Int) : Yf (d + 1) 150 [xr 2 0, xi a, xi b, xi c] V =
    ci (Yf d 154 [xr 2 0, xi a, xi b, xi c] V) (fun x2 V1 =>
    if x2 = 0 then
      some (xi (-1), V1)
    else
      if b = c then
        some (xi (-3), V1)
      else
        ci (Yf d 65 [xr 6 0, xi 7, xi a, xi b, xi c] V1) (fun x4 V3 =>
          if x4 < 0 then
            ci (Yf d 63 [xr 6 0] V3) (fun x6 V5 =>
              if x6 = 0 then
                ci (Yf d 39 [xr 10 0, xi a, xi b, xi c] V5) (fun x8 V7 =>
                  if x8 = 0 then
                    ci (Yf d 64 [xr 6 0, xi 7, xi a, xi b, xi c] V7) (fun x10 V9 =>
                      some (xi x10, V9))
                  else
                    ci (Yf d 45 [xr 10 0, xi a, xi b, xi c] V7) (fun x12 V11 =>
                      ci (Yf d 122 [xi x12] V11) (fun x14 V13 =>
                        some (xi x14, V13))))
              else
                some (xi (-4), V5))
          else
            some (xi (-3), V3))) := Xc_es [] P_X11_deny 5 _ V
set_option maxRecDepth 100000 in
theorem s_X11_related (d : Nat) (V : XM) (a : Int) (b : Int) (c : Int) : Yf (d + 1) 151 [xr 2 0, xi a, xi b, xi c] V =
    ci (Yf d 154 [xr 2 0, xi a, xi b, xi c] V) (fun x2 V1 =>
    if x2 = 0 then
      some (xi (-1), V1)
    else
      ci (Yf d 39 [xr 10 0, xi a, xi b, xi c] V1) (fun x4 V3 =>
        if x4 = 0 then
          some (xi 0, V3)
        else
          some (xi 1, V3))) := Xc_es [] P_X11_related 4 _ V
set_option maxRecDepth 100000 in
theorem s_X11_along (d : Nat) (V : XM) (a : Int) (b : Int) (c : Int) : Yf (d + 1) 152 [xr 2 0, xi a, xi b, xi c] V =
    ci (Yf d 154 [xr 2 0, xi a, xi b, xi c] V) (fun x2 V1 =>
    if x2 = 0 then
      some (xi (-1), V1)
    else
      cr (Yf d 47 [xr 10 0, xi a, xi b] V1) (fun V3 =>
        if 0 ≤ c ∧ c < 64 then
          some (xi (V3 51 0 (c.toNat)), V3)
        else
          none)) := Xc_es [] P_X11_along 2 _ V
set_option maxRecDepth 100000 in
theorem s_X11_next (d : Nat) (V : XM) (a : Int) (b : Int) (c : Int) : Yf (d + 1) 153 [xr 2 0, xi a, xi b, xi c] V =
    ci (Yf d 154 [xr 2 0, xi a, xi b, xi c] V) (fun x2 V1 =>
    if x2 = 0 then
      some (xi (-1), V1)
    else
      cr (Yf d 47 [xr 10 0, xi a, xi b] V1) (fun V3 =>
        if 0 ≤ c ∧ c < 64 then
          some (xi (V3 52 0 (c.toNat)), V3)
        else
          none)) := Xc_es [] P_X11_next 2 _ V
set_option maxRecDepth 100000 in
theorem s_X11_areRelatable (d : Nat) (V : XM) (a : Int) (b : Int) (c : Int) : Yf (d + 1) 154 [xr 2 0, xi a, xi b, xi c] V =
    ci (Yf d 37 [xr 10 0, xi a] V) (fun x2 V1 =>
    if x2 = 0 then
      some (xi 0, V1)
    else
      ci (Yf d 90 [xr 4 0, xl b] V1) (fun x4 V3 =>
        if x4 = 0 then
          some (xi 0, V3)
        else
          ci (Yf d 90 [xr 4 0, xl c] V3) (fun x6 V5 =>
            if x6 = 0 then
              some (xi 0, V5)
            else
              some (xi 1, V5)))) := Xc_es [] P_X11_areRelatable 3 _ V
set_option maxRecDepth 100000 in
theorem s_X11_exit (d : Nat) (V : XM) (a : Int) (b : Int) (c : Int) : Yf (d + 1) 155 [xr 2 0, xi a, xi b, xi c] V =
    ci (Yf d 93 [xr 4 0, xi a] V) (fun x2 V1 =>
    if x2 = 0 then
      some (xi (-1), V1)
    else
      if c = (-9) then
        ci (Yf d 123 [xi b, xi 8] V1) (fun x4 V3 =>
          if x4 = 0 then
            some (xi (-2), V3)
          else
            ci (Yf d 54 [xr 11 0, xi a, xi b] V3) (fun x6 V5 =>
              if x6 = 0 then
                ci (Yf d 63 [xr 6 0] V5) (fun x8 V7 =>
                  if x8 = 0 then
                    ci (Yf d 54 [xr 11 0, xi a, xi b] V7) (fun x10 V9 =>
                      if x10 = 0 then
                        ci (Yf d 64 [xr 6 0, xi 8, xi a, xi b, xi c] V9) (fun x12 V11 =>
                          cv (Yf d 57 [xr 11 0, xi a, xi b, xi c, xi x12] V11) (fun V13 =>
                            some (xi x12, V13)))
                      else
                        ci (Yf d 55 [xr 11 0, xi a, xi b] V9) (fun x15 V14 =>
                          ci (Yf d 122 [xi x15] V14) (fun x17 V16 =>
                            some (xi x17, V16))))
                  else
                    some (xi (-4), V7))
              else
                ci (Yf d 52 [xr 11 0, xi a, xi b] V5) (fun x19 V18 =>
                  if x19 = 3 then
                    ci (Yf d 63 [xr 6 0] V18) (fun x21 V20 =>
                      if x21 = 0 then
                        ci (Yf d 54 [xr 11 0, xi a, xi b] V20) (fun x23 V22 =>
                          if x23 = 0 then
                            ci (Yf d 64 [xr 6 0, xi 8, xi a, xi b, xi c] V22) (fun x25 V24 =>
                              cv (Yf d 57 [xr 11 0, xi a, xi b, xi c, xi x25] V24) (fun V26 =>
                                some (xi x25, V26)))
                          else
                            ci (Yf d 55 [xr 11 0, xi a, xi b] V22) (fun x28 V27 =>
                              ci (Yf d 122 [xi x28] V27) (fun x30 V29 =>
                                some (xi x30, V29))))
                      else
                        some (xi (-4), V20))
                  else
                    ci (Yf d 53 [xr 11 0, xi a, xi b] V18) (fun x32 V31 =>
                      if x32 = c then
                        some (xi (-3), V31)
                      else
                        ci (Yf d 63 [xr 6 0] V31) (fun x34 V33 =>
                          if x34 = 0 then
                            ci (Yf d 54 [xr 11 0, xi a, xi b] V33) (fun x36 V35 =>
                              if x36 = 0 then
                                ci (Yf d 64 [xr 6 0, xi 8, xi a, xi b, xi c] V35) (fun x38 V37 =>
                                  cv (Yf d 57 [xr 11 0, xi a, xi b, xi c, xi x38] V37) (fun V39 =>
                                    some (xi x38, V39)))
                              else
                                ci (Yf d 55 [xr 11 0, xi a, xi b] V35) (fun x41 V40 =>
                                  ci (Yf d 122 [xi x41] V40) (fun x43 V42 =>
                                    some (xi x43, V42))))
                          else
                            some (xi (-4), V33))))))
      else
        ci (Yf d 93 [xr 4 0, xi c] V1) (fun x45 V44 =>
          if x45 = 0 then
            some (xi (-1), V44)
          else
            ci (Yf d 123 [xi b, xi 8] V44) (fun x47 V46 =>
              if x47 = 0 then
                some (xi (-2), V46)
              else
                ci (Yf d 54 [xr 11 0, xi a, xi b] V46) (fun x49 V48 =>
                  if x49 = 0 then
                    ci (Yf d 63 [xr 6 0] V48) (fun x51 V50 =>
                      if x51 = 0 then
                        ci (Yf d 54 [xr 11 0, xi a, xi b] V50) (fun x53 V52 =>
                          if x53 = 0 then
                            ci (Yf d 64 [xr 6 0, xi 8, xi a, xi b, xi c] V52) (fun x55 V54 =>
                              cv (Yf d 57 [xr 11 0, xi a, xi b, xi c, xi x55] V54) (fun V56 =>
                                some (xi x55, V56)))
                          else
                            ci (Yf d 55 [xr 11 0, xi a, xi b] V52) (fun x58 V57 =>
                              ci (Yf d 122 [xi x58] V57) (fun x60 V59 =>
                                some (xi x60, V59))))
                      else
                        some (xi (-4), V50))
                  else
                    ci (Yf d 52 [xr 11 0, xi a, xi b] V48) (fun x62 V61 =>
                      if x62 = 3 then
                        ci (Yf d 63 [xr 6 0] V61) (fun x64 V63 =>
                          if x64 = 0 then
                            ci (Yf d 54 [xr 11 0, xi a, xi b] V63) (fun x66 V65 =>
                              if x66 = 0 then
                                ci (Yf d 64 [xr 6 0, xi 8, xi a, xi b, xi c] V65) (fun x68 V67 =>
                                  cv (Yf d 57 [xr 11 0, xi a, xi b, xi c, xi x68] V67) (fun V69 =>
                                    some (xi x68, V69)))
                              else
                                ci (Yf d 55 [xr 11 0, xi a, xi b] V65) (fun x71 V70 =>
                                  ci (Yf d 122 [xi x71] V70) (fun x73 V72 =>
                                    some (xi x73, V72))))
                          else
                            some (xi (-4), V63))
                      else
                        ci (Yf d 53 [xr 11 0, xi a, xi b] V61) (fun x75 V74 =>
                          if x75 = c then
                            some (xi (-3), V74)
                          else
                            ci (Yf d 63 [xr 6 0] V74) (fun x77 V76 =>
                              if x77 = 0 then
                                ci (Yf d 54 [xr 11 0, xi a, xi b] V76) (fun x79 V78 =>
                                  if x79 = 0 then
                                    ci (Yf d 64 [xr 6 0, xi 8, xi a, xi b, xi c] V78) (fun x81 V80 =>
                                      cv (Yf d 57 [xr 11 0, xi a, xi b, xi c, xi x81] V80) (fun V82 =>
                                        some (xi x81, V82)))
                                  else
                                    ci (Yf d 55 [xr 11 0, xi a, xi b] V78) (fun x84 V83 =>
                                      ci (Yf d 122 [xi x84] V83) (fun x86 V85 =>
                                        some (xi x86, V85))))
                              else
                                some (xi (-4), V76)))))))) := Xc_es [] P_X11_exit 6 _ V
set_option maxRecDepth 100000 in
theorem s_X11_door (d : Nat) (V : XM) (a : Int) (b : Int) (c : Int) (e : Int) : Yf (d + 1) 156 [xr 2 0, xi a, xi b, xi c, xi e] V =
    ci (Yf d 90 [xr 4 0, xl a] V) (fun x2 V1 =>
    if x2 = 0 then
      some (xi (-1), V1)
    else
      ci (Yf d 93 [xr 4 0, xi b] V1) (fun x4 V3 =>
        if x4 = 0 then
          some (xi (-1), V3)
        else
          ci (Yf d 93 [xr 4 0, xi e] V3) (fun x6 V5 =>
            if x6 = 0 then
              some (xi (-1), V5)
            else
              ci (Yf d 123 [xi c, xi 8] V5) (fun x8 V7 =>
                if x8 = 0 then
                  some (xi (-2), V7)
                else
                  if 0 ≤ a ∧ a < 64 then
                    if (V7 21 0 (a.toNat)) = 2 then
                      if b = e then
                        some (xi (-3), V7)
                      else
                        ci (Yf d 63 [xr 6 0] V7) (fun x10 V9 =>
                          if x10 = 0 then
                            ci (Yf d 58 [xr 11 0, xi a, xi b, xi c, xi e] V9) (fun x12 V11 =>
                              if x12 < 0 then
                                ci (Yf d 64 [xr 6 0, xi 9, xi a, xi b, xi c] V11) (fun x14 V13 =>
                                  cv (Yf d 59 [xr 11 0, xi a, xi b, xi c, xi e, xi x14] V13) (fun V15 =>
                                    some (xi x14, V15)))
                              else
                                ci (Yf d 122 [xi x12] V11) (fun x17 V16 =>
                                  some (xi x17, V16)))
                          else
                            some (xi (-4), V9))
                    else
                      some (xi (-3), V7)
                  else
                    none)))) := Xc_es [] P_X11_door 6 _ V
set_option maxRecDepth 100000 in
theorem s_X11_leads (d : Nat) (V : XM) (a : Int) (b : Int) : Yf (d + 1) 157 [xr 2 0, xi a, xi b] V =
    ci (Yf d 93 [xr 4 0, xi a] V) (fun x2 V1 =>
    if x2 = 0 then
      some (xi (-1), V1)
    else
      ci (Yf d 123 [xi b, xi 8] V1) (fun x4 V3 =>
        if x4 = 0 then
          some (xi (-2), V3)
        else
          ci (Yf d 53 [xr 11 0, xi a, xi b] V3) (fun x6 V5 =>
            some (xi x6, V5)))) := Xc_es [] P_X11_leads 4 _ V
set_option maxRecDepth 100000 in
theorem s_X11_sort (d : Nat) (V : XM) (a : Int) (b : Int) : Yf (d + 1) 158 [xr 2 0, xi a, xi b] V =
    ci (Yf d 93 [xr 4 0, xi a] V) (fun x2 V1 =>
    if x2 = 0 then
      some (xi (-1), V1)
    else
      ci (Yf d 123 [xi b, xi 8] V1) (fun x4 V3 =>
        if x4 = 0 then
          some (xi (-2), V3)
        else
          ci (Yf d 52 [xr 11 0, xi a, xi b] V3) (fun x6 V5 =>
            some (xi x6, V5)))) := Xc_es [] P_X11_sort 4 _ V
set_option maxRecDepth 100000 in
theorem s_X11_route (d : Nat) (V : XM) (a : Int) (b : Int) (c : Int) : Yf (d + 1) 159 [xr 2 0, xi a, xi b, xi c] V =
    ci (Yf d 93 [xr 4 0, xi a] V) (fun x2 V1 =>
    if x2 = 0 then
      some (xi (-1), V1)
    else
      ci (Yf d 93 [xr 4 0, xi b] V1) (fun x4 V3 =>
        if x4 = 0 then
          some (xi (-1), V3)
        else
          cr (Yf d 61 [xr 11 0, xi a, xi c] V3) (fun V5 =>
            if 0 ≤ b ∧ b < 64 then
              some (xi (V5 51 0 (b.toNat)), V5)
            else
              none))) := Xc_es [] P_X11_route 2 _ V
set_option maxRecDepth 100000 in
theorem s_X11_first (d : Nat) (V : XM) (a : Int) (b : Int) (c : Int) : Yf (d + 1) 160 [xr 2 0, xi a, xi b, xi c] V =
    ci (Yf d 93 [xr 4 0, xi a] V) (fun x2 V1 =>
    if x2 = 0 then
      some (xi (-1), V1)
    else
      ci (Yf d 93 [xr 4 0, xi b] V1) (fun x4 V3 =>
        if x4 = 0 then
          some (xi (-1), V3)
        else
          cr (Yf d 61 [xr 11 0, xi a, xi c] V3) (fun V5 =>
            if 0 ≤ b ∧ b < 64 then
              some (xi (V5 52 0 (b.toNat)), V5)
            else
              none))) := Xc_es [] P_X11_first 2 _ V
set_option maxRecDepth 100000 in
theorem s_X11_shelf (d : Nat) (V : XM) (a : Int) (b : Int) : Yf (d + 1) 161 [xr 2 0, xi a, xi b] V =
    ci (Yf d 3 [xr 3 0, xi a] V) (fun x2 V1 =>
    if x2 = 0 then
      some (xi (-1), V1)
    else
      if 16 < b then
        some (xi (-2), V1)
      else
        if (V1 2 0 12) < 10 then
          if b < 0 then
            ci (Yf d 121 [xr 2 0, xi 5] V1) (fun x4 V3 =>
              some (xi x4, V3))
          else
            if 0 ≤ V1 2 0 12 ∧ V1 2 0 12 < 10 then
              ci (Yf d 5 [xr 3 0, xi a] V1) (fun x6 V5 =>
                cv (Yf d 73 [xr 12 ((V1 2 0 12).toNat), xi x6, xi b] V5) (fun V7 =>
                  some (xi (V7 2 0 12), (xu V7 2 0 12 (w32 ((V7 2 0 12) + 1))))))
            else
              none
        else
          some (xi (-4), V1)) := Xc_es [] P_X11_shelf 5 _ V
set_option maxRecDepth 100000 in
theorem s_X11_stand (d : Nat) (V : XM) (a : Int) (b : Int) (c : Int) : Yf (d + 1) 162 [xr 2 0, xi a, xi b, xi c] V =
    ci (Yf d 123 [xi a, xi (V 2 0 12)] V) (fun x2 V1 =>
    if x2 = 0 then
      some (xi (-1), V1)
    else
      if c = (-9) then
        if 0 ≤ a ∧ a < 10 then
          ci (Yf d 123 [xi b, xi (V1 12 (a.toNat) 2)] V1) (fun x4 V3 =>
            if x4 = 0 then
              ci (Yf d 121 [xr 2 0, xi 2] V3) (fun x6 V5 =>
                some (xi x6, V5))
            else
              ci (Yf d 163 [xr 2 0, xr 12 (a.toNat), xi c] V3) (fun x8 V7 =>
                if x8 = 0 then
                  ci (Yf d 121 [xr 2 0, xi 4] V7) (fun x10 V9 =>
                    some (xi x10, V9))
                else
                  if 0 ≤ b ∧ b < 16 then
                    some (xi 1, (xu V7 62 (a.toNat) (b.toNat) c))
                  else
                    none))
        else
          none
      else
        ci (Yf d 90 [xr 4 0, xl c] V1) (fun x12 V11 =>
          if x12 = 0 then
            some (xi (-1), V11)
          else
            if 0 ≤ a ∧ a < 10 then
              ci (Yf d 123 [xi b, xi (V11 12 (a.toNat) 2)] V11) (fun x14 V13 =>
                if x14 = 0 then
                  ci (Yf d 121 [xr 2 0, xi 2] V13) (fun x16 V15 =>
                    some (xi x16, V15))
                else
                  ci (Yf d 163 [xr 2 0, xr 12 (a.toNat), xi c] V13) (fun x18 V17 =>
                    if x18 = 0 then
                      ci (Yf d 121 [xr 2 0, xi 4] V17) (fun x20 V19 =>
                        some (xi x20, V19))
                    else
                      if 0 ≤ b ∧ b < 16 then
                        some (xi 1, (xu V17 62 (a.toNat) (b.toNat) c))
                      else
                        none))
            else
              none)) := Xc_es [] P_X11_stand 4 _ V
set_option maxRecDepth 100000 in
theorem s_X11_shelfTakes (d : Nat) (V : XM) (a : Nat) (b : Int) : Yf (d + 1) 163 [xr 2 0, xr 12 a, xi b] V =
    if b = (-9) then
    some (xi 1, V)
  else
    if 0 ≤ b ∧ b < 64 then
      ci (Yf d 4 [xr 3 0, xi (V 21 0 (b.toNat)), xi (V 12 a 1)] V) (fun x2 V1 =>
        if x2 = 0 then
          some (xi 0, V1)
        else
          some (xi 1, V1))
    else
      none := Xc_es [] P_X11_shelfTakes 3 _ V
set_option maxRecDepth 100000 in
theorem s_X11_stands (d : Nat) (V : XM) (a : Int) (b : Int) : Yf (d + 1) 164 [xr 2 0, xi a, xi b] V =
    ci (Yf d 123 [xi a, xi (V 2 0 12)] V) (fun x2 V1 =>
    if x2 = 0 then
      some (xi (-1), V1)
    else
      if 0 ≤ a ∧ a < 10 then
        ci (Yf d 123 [xi b, xi (V1 12 (a.toNat) 2)] V1) (fun x4 V3 =>
          if x4 = 0 then
            ci (Yf d 121 [xr 2 0, xi 2] V3) (fun x6 V5 =>
              some (xi x6, V5))
          else
            if 0 ≤ a ∧ a < 10 then
              if 0 ≤ b ∧ b < 16 then
                some (xi (V3 62 (a.toNat) (b.toNat)), V3)
              else
                none
            else
              none)
      else
        none) := Xc_es [] P_X11_stands 4 _ V
set_option maxRecDepth 100000 in
theorem s_X11_haul (d : Nat) (V : XM) (a : Int) (b : Int) (c : Int) (e : Int) (f : Int) : Yf (d + 1) 165 [xr 2 0, xi a, xi b, xi c, xi e, xi f] V =
    ci (Yf d 123 [xi a, xi (V 2 0 12)] V) (fun x2 V1 =>
    if x2 = 0 then
      some (xi (-1), V1)
    else
      ci (Yf d 123 [xi c, xi (V1 2 0 12)] V1) (fun x4 V3 =>
        if x4 = 0 then
          some (xi (-1), V3)
        else
          if 0 ≤ a ∧ a < 10 then
            if 0 ≤ c ∧ c < 10 then
              ci (Yf d 74 [xr 12 (a.toNat), xi b, xi f] V3) (fun x6 V5 =>
                if x6 = 0 then
                  ci (Yf d 121 [xr 2 0, xi 2] V5) (fun x8 V7 =>
                    some (xi x8, V7))
                else
                  ci (Yf d 74 [xr 12 (c.toNat), xi e, xi f] V5) (fun x10 V9 =>
                    if x10 = 0 then
                      ci (Yf d 121 [xr 2 0, xi 2] V9) (fun x12 V11 =>
                        some (xi x12, V11))
                    else
                      Xf d 165 72 [xr 2 0, xr 0 0, xi b, xr 0 0, xi e, xi f, xr 12 (a.toNat), xr 12 (c.toNat), xi 0] [] V9))
            else
              none
          else
            none)) := Xc_es [72, 110] P_X11_haul 3 _ V
set_option maxRecDepth 100000 in
theorem s_X11_haul_72 (d : Nat) (V : XM) (l2 : Int) (l4 : Int) (l5 : Int) (p6 : Nat) (p7 : Nat) (l8 : Int) : Xf d 165 72 [xr 2 0, xr 0 0, xi l2, xr 0 0, xi l4, xi l5, xr 12 p6, xr 12 p7, xi l8] [] V =
    if l8 < l5 then
    if 0 ≤ w32 (l2 + l8) ∧ w32 (l2 + l8) < 16 then
      if 0 ≤ l8 ∧ l8 < 16 then
        Xf d 165 72 [xr 2 0, xr 0 0, xi l2, xr 0 0, xi l4, xi l5, xr 12 p6, xr 12 p7, xi (w32 (l8 + 1))] [] (xu V 17 0 (l8.toNat) (V 62 p6 ((w32 (l2 + l8)).toNat)))
      else
        none
    else
      none
  else
    Xf d 165 110 [xr 2 0, xr 0 0, xr 0 0, xr 0 0, xi l4, xi l5, xr 0 0, xr 12 p7, xi 0] [] (xu V 2 0 16 0) := Xx_es [72, 110] P_X11_haul 2 _ _ _ V
set_option maxRecDepth 100000 in
theorem s_X11_haul_110 (d : Nat) (V : XM) (l4 : Int) (l5 : Int) (p7 : Nat) (l8 : Int) : Xf d 165 110 [xr 2 0, xr 0 0, xr 0 0, xr 0 0, xi l4, xi l5, xr 0 0, xr 12 p7, xi l8] [] V =
    if l8 < l5 then
    if 0 ≤ l8 ∧ l8 < 16 then
      ci (Yf d 163 [xr 2 0, xr 12 p7, xi (V 17 0 (l8.toNat))] V) (fun x2 V1 =>
        if x2 = 0 then
          ci (Yf d 121 [xr 2 0, xi 4] V1) (fun x4 V3 =>
            some (xi x4, V3))
        else
          if 0 ≤ l8 ∧ l8 < 16 then
            if 0 ≤ w32 (l4 + l8) ∧ w32 (l4 + l8) < 16 then
              Xf d 165 110 [xr 2 0, xr 0 0, xr 0 0, xr 0 0, xi l4, xi l5, xr 0 0, xr 12 p7, xi (w32 (l8 + 1))] [] (xu (xu V1 62 p7 ((w32 (l4 + l8)).toNat) (V1 17 0 (l8.toNat))) 2 0 16 (w32 ((V1 2 0 16) + 1)))
            else
              none
          else
            none)
    else
      none
  else
    some (xi l5, V) := Xx_es [72, 110] P_X11_haul 2 _ _ _ V
set_option maxRecDepth 100000 in
theorem s_X11_came (d : Nat) (V : XM) : Yf (d + 1) 166 [xr 2 0] V =
    some (xi (V 2 0 16), V) := Xc_es [] P_X11_came 1 _ V
set_option maxRecDepth 100000 in
theorem s_X11_table (d : Nat) (V : XM) (a : Int) (b : Int) (c : Int) : Yf (d + 1) 167 [xr 2 0, xi a, xi b, xi c] V =
    if a < 1 then
    some (xi (-2), V)
  else
    if 16 < a then
      some (xi (-2), V)
    else
      if b < 1 then
        some (xi (-2), V)
      else
        if 5 < b then
          some (xi (-2), V)
        else
          ci (Yf d 168 [xi c, xi b] V) (fun x2 V1 =>
            if x2 = 0 then
              some (xi (-2), V1)
            else
              if (V1 2 0 13) < 6 then
                if 0 ≤ V1 2 0 13 ∧ V1 2 0 13 < 6 then
                  cv (Yf d 76 [xr 13 ((V1 2 0 13).toNat), xi a, xi b, xi c] V1) (fun V3 =>
                    some (xi (V3 2 0 13), (xu V3 2 0 13 (w32 ((V3 2 0 13) + 1)))))
                else
                  none
              else
                some (xi (-4), V1)) := Xc_es [] P_X11_table 3 _ V
set_option maxRecDepth 100000 in
theorem s_X11_areLanes (d : Nat) (V : XM) (a : Int) (b : Int) : Yf (d + 1) 168 [xi a, xi b] V =
    Xf d 168 4 [xr 0 0, xi b, xi a, xi 0] [] V := Xc_es [4] P_X11_areLanes 1 _ V
set_option maxRecDepth 100000 in
theorem s_X11_areLanes_4 (d : Nat) (V : XM) (l1 : Int) (l2 : Int) (l3 : Int) : Xf d 168 4 [xr 0 0, xi l1, xi l2, xi l3] [] V =
    if l3 < l1 then
    if l2 < 0 then
      some (xi 0, V)
    else
      if (Int.tmod l2 10) < 8 then
        Xf d 168 4 [xr 0 0, xi l1, xi (w32 (Int.tdiv l2 10)), xi (w32 (l3 + 1))] [] V
      else
        some (xi 0, V)
  else
    if l2 = 0 then
      some (xi 1, V)
    else
      some (xi 0, V) := Xx_es [4] P_X11_areLanes 4 _ _ _ V
set_option maxRecDepth 100000 in
theorem s_X11_fill (d : Nat) (V : XM) (a : Int) (b : Int) (c : Int) (e : Int) : Yf (d + 1) 169 [xr 2 0, xi a, xi b, xi c, xl e] V =
    ci (Yf d 123 [xi a, xi (V 2 0 13)] V) (fun x2 V1 =>
    if x2 = 0 then
      some (xi (-1), V1)
    else
      if 0 ≤ a ∧ a < 6 then
        ci (Yf d 77 [xr 13 (a.toNat), xi b, xi c] V1) (fun x4 V3 =>
          if x4 = 0 then
            ci (Yf d 121 [xr 2 0, xi 2] V3) (fun x6 V5 =>
              some (xi x6, V5))
          else
            if 0 ≤ a ∧ a < 6 then
              cv (Yf d 80 [xr 13 (a.toNat), xi b, xi c, xl e] V3) (fun V7 =>
                some (xi 1, V7))
            else
              none)
      else
        none) := Xc_es [] P_X11_fill 3 _ V
set_option maxRecDepth 100000 in
theorem s_X11_blank (d : Nat) (V : XM) (a : Int) (b : Int) (c : Int) : Yf (d + 1) 170 [xr 2 0, xi a, xi b, xi c] V =
    ci (Yf d 123 [xi a, xi (V 2 0 13)] V) (fun x2 V1 =>
    if x2 = 0 then
      some (xi (-1), V1)
    else
      if 0 ≤ a ∧ a < 6 then
        ci (Yf d 77 [xr 13 (a.toNat), xi b, xi c] V1) (fun x4 V3 =>
          if x4 = 0 then
            ci (Yf d 121 [xr 2 0, xi 2] V3) (fun x6 V5 =>
              some (xi x6, V5))
          else
            if 0 ≤ a ∧ a < 6 then
              ci (Yf d 81 [xr 13 (a.toNat), xi b, xi c] V3) (fun x8 V7 =>
                if x8 = 0 then
                  some (xi 0, V7)
                else
                  some (xi 1, V7))
            else
              none)
      else
        none) := Xc_es [] P_X11_blank 5 _ V
set_option maxRecDepth 100000 in
theorem s_X11_read (d : Nat) (V : XM) (a : Int) (b : Int) (c : Int) : Yf (d + 1) 171 [xr 2 0, xi a, xi b, xi c] V =
    ci (Yf d 123 [xi a, xi (V 2 0 13)] V) (fun x2 V1 =>
    if x2 = 0 then
      some (xl (-1), V1)
    else
      if 0 ≤ a ∧ a < 6 then
        ci (Yf d 77 [xr 13 (a.toNat), xi b, xi c] V1) (fun x4 V3 =>
          if x4 = 0 then
            ci (Yf d 121 [xr 2 0, xi 2] V3) (fun x6 V5 =>
              some (xl x6, V5))
          else
            if 0 ≤ a ∧ a < 6 then
              ci (Yf d 78 [xr 13 (a.toNat), xi b, xi c] V3) (fun x8 V7 =>
                if x8 = 0 then
                  if 0 ≤ a ∧ a < 6 then
                    cl (Yf d 79 [xr 13 (a.toNat), xi b, xi c] V7) (fun x10 V9 =>
                      some (xl x10, V9))
                  else
                    none
                else
                  ci (Yf d 121 [xr 2 0, xi 1] V7) (fun x12 V11 =>
                    some (xl x12, V11)))
            else
              none)
      else
        none) := Xc_es [] P_X11_read 5 _ V
set_option maxRecDepth 100000 in
theorem s_X11_choose (d : Nat) (V : XM) (a : Int) (b : Int) (c : Int) (e : Int) : Yf (d + 1) 172 [xr 2 0, xi a, xi b, xl c, xi e] V =
    ci (Yf d 123 [xi a, xi (V 2 0 13)] V) (fun x2 V1 =>
    if x2 = 0 then
      some (xi (-1), V1)
    else
      ci (Yf d 123 [xi e, xi 16] V1) (fun x4 V3 =>
        if x4 = 0 then
          some (xi (-2), V3)
        else
          if 0 ≤ a ∧ a < 6 then
            ci (Yf d 123 [xi b, xi (V3 13 (a.toNat) 5)] V3) (fun x6 V5 =>
              if x6 = 0 then
                ci (Yf d 121 [xr 2 0, xi 2] V5) (fun x8 V7 =>
                  some (xi x8, V7))
              else
                if 0 ≤ a ∧ a < 6 then
                  ci (Yf d 82 [xr 13 (a.toNat), xi b, xl c, xi e] V5) (fun x10 V9 =>
                    some (xi x10, V9))
                else
                  none)
          else
            none)) := Xc_es [] P_X11_choose 4 _ V
set_option maxRecDepth 100000 in
theorem s_X11_rank (d : Nat) (V : XM) (a : Int) (b : Int) (c : Int) : Yf (d + 1) 173 [xr 2 0, xi a, xi b, xi c] V =
    ci (Yf d 123 [xi a, xi (V 2 0 13)] V) (fun x2 V1 =>
    if x2 = 0 then
      some (xi (-1), V1)
    else
      if 0 ≤ a ∧ a < 6 then
        ci (Yf d 123 [xi b, xi (V1 13 (a.toNat) 5)] V1) (fun x4 V3 =>
          if x4 = 0 then
            ci (Yf d 121 [xr 2 0, xi 2] V3) (fun x6 V5 =>
              some (xi x6, V5))
          else
            if 0 ≤ a ∧ a < 6 then
              ci (Yf d 83 [xr 13 (a.toNat), xi b, xi c] V3) (fun x8 V7 =>
                some (xi x8, V7))
            else
              none)
      else
        none) := Xc_es [] P_X11_rank 4 _ V
set_option maxRecDepth 100000 in
theorem s_X11_total (d : Nat) (V : XM) (a : Int) (b : Int) : Yf (d + 1) 174 [xr 2 0, xi a, xi b] V =
    ci (Yf d 123 [xi a, xi (V 2 0 13)] V) (fun x2 V1 =>
    if x2 = 0 then
      some (xl (-1), V1)
    else
      if 0 ≤ a ∧ a < 6 then
        ci (Yf d 123 [xi b, xi (V1 13 (a.toNat) 5)] V1) (fun x4 V3 =>
          if x4 = 0 then
            ci (Yf d 121 [xr 2 0, xi 2] V3) (fun x6 V5 =>
              some (xl x6, V5))
          else
            if 0 ≤ a ∧ a < 6 then
              cl (Yf d 86 [xr 13 (a.toNat), xi b] V3) (fun x8 V7 =>
                some (xl x8, V7))
            else
              none)
      else
        none) := Xc_es [] P_X11_total 4 _ V
set_option maxRecDepth 100000 in
theorem s_X11_mean (d : Nat) (V : XM) (a : Int) (b : Int) : Yf (d + 1) 175 [xr 2 0, xi a, xi b] V =
    ci (Yf d 123 [xi a, xi (V 2 0 13)] V) (fun x2 V1 =>
    if x2 = 0 then
      some (xl (-1), V1)
    else
      if 0 ≤ a ∧ a < 6 then
        ci (Yf d 123 [xi b, xi (V1 13 (a.toNat) 5)] V1) (fun x4 V3 =>
          if x4 = 0 then
            ci (Yf d 121 [xr 2 0, xi 2] V3) (fun x6 V5 =>
              some (xl x6, V5))
          else
            if 0 ≤ a ∧ a < 6 then
              ci (Yf d 87 [xr 13 (a.toNat), xi b] V3) (fun x8 V7 =>
                if x8 = 0 then
                  ci (Yf d 121 [xr 2 0, xi 6] V7) (fun x10 V9 =>
                    some (xl x10, V9))
                else
                  if 0 ≤ a ∧ a < 6 then
                    cl (Yf d 86 [xr 13 (a.toNat), xi b] V7) (fun x12 V11 =>
                      if x8 = 0 then
                        none
                      else
                        some (xl (w64 (Int.tdiv x12 x8)), V11))
                  else
                    none)
            else
              none)
      else
        none) := Xc_es [] P_X11_mean 5 _ V
set_option maxRecDepth 100000 in
theorem s_X11_make (d : Nat) (V : XM) : Yf (d + 1) 176 [xr 2 0] V =
    ci (Yf d 94 [xr 4 0] V) (fun x2 V1 =>
    if x2 = 0 then
      some (xi (-3), V1)
    else
      ci (Yf d 26 [xr 7 0] V1) (fun x4 V3 =>
        if 0 < x4 then
          some (xi (-3), V3)
        else
          cv (Yf d 177 [xr 2 0, xi (V3 3 0 1)] (xu V3 2 0 14 0)) (fun V5 =>
            cv (Yf d 177 [xr 2 0, xi (V5 4 0 7)] V5) (fun V6 =>
              Xf d 176 52 [xr 2 0, xi 0] [] V6)))) := Xc_es [52, 76, 111] P_X11_make 2 _ V
set_option maxRecDepth 100000 in
theorem s_X11_make_52 (d : Nat) (V : XM) (l1 : Int) : Xf d 176 52 [xr 2 0, xi l1] [] V =
    if l1 < (V 4 0 7) then
    cv (Yf d 178 [xr 2 0, xi l1] V) (fun V1 =>
      Xf d 176 52 [xr 2 0, xi (w32 (l1 + 1))] [] V1)
  else
    Xf d 176 76 [xr 2 0, xi 0] [] V := Xx_es [52, 76, 111] P_X11_make 2 _ _ _ V
set_option maxRecDepth 100000 in
theorem s_X11_make_76 (d : Nat) (V : XM) (l1 : Int) : Xf d 176 76 [xr 2 0, xi l1] [] V =
    if l1 < (V 4 0 7) then
    ci (Yf d 93 [xr 4 0, xi l1] V) (fun x2 V1 =>
      if x2 = 0 then
        Xf d 176 76 [xr 2 0, xi (w32 (l1 + 1))] [] V1
      else
        cv (Yf d 179 [xr 2 0, xi l1] V1) (fun V3 =>
          Xf d 176 76 [xr 2 0, xi (w32 (l1 + 1))] [] V3))
  else
    Xf d 176 111 [xr 2 0, xi 0] [] V := Xx_es [52, 76, 111] P_X11_make 2 _ _ _ V
set_option maxRecDepth 100000 in
theorem s_X11_make_111 (d : Nat) (V : XM) (l1 : Int) : Xf d 176 111 [xr 2 0, xi l1] [] V =
    if l1 < (V 10 0 6) then
    if 0 ≤ l1 ∧ l1 < 8 then
      cv (Yf d 177 [xr 2 0, xi (V 54 0 (l1.toNat))] V) (fun V1 =>
        ci (Yf d 48 [xr 10 0, xi l1] V1) (fun x3 V2 =>
          cv (Yf d 177 [xr 2 0, xi x3] V2) (fun V4 =>
            Xf d 176 111 [xr 2 0, xi (w32 (l1 + 1))] [] V4)))
    else
      none
  else
    some (xi (V 2 0 14), V) := Xx_es [52, 76, 111] P_X11_make 2 _ _ _ V
set_option maxRecDepth 100000 in
theorem s_X11_addWord (d : Nat) (V : XM) (a : Int) : Yf (d + 1) 177 [xr 2 0, xi a] V =
    if (V 2 0 14) < 1490 then
    if 0 ≤ V 2 0 14 ∧ V 2 0 14 < 1490 then
      some (xi 0, (xu (xu V 2 0 14 (w32 ((V 2 0 14) + 1))) 18 0 ((V 2 0 14).toNat) a))
    else
      none
  else
    some (xi 0, V) := Xc_es [] P_X11_addWord 2 _ V
set_option maxRecDepth 100000 in
theorem s_X11_addWordsOfThing (d : Nat) (V : XM) (a : Int) : Yf (d + 1) 178 [xr 2 0, xi a] V =
    if 0 ≤ a ∧ a < 64 then
    cv (Yf d 177 [xr 2 0, xi (V 20 0 (a.toNat))] V) (fun V1 =>
      ci (Yf d 8 [xr 7 0, xi a, xi 0] V1) (fun x3 V2 =>
        cv (Yf d 177 [xr 2 0, xi x3] V2) (fun V4 =>
          if 0 ≤ a ∧ a < 64 then
            cv (Yf d 177 [xr 2 0, xi (V4 22 0 (a.toNat))] V4) (fun V5 =>
              Xf d 178 41 [xr 2 0, xi a, xi 0] [] V5)
          else
            none)))
  else
    none := Xc_es [41] P_X11_addWordsOfThing 1 _ V
set_option maxRecDepth 100000 in
theorem s_X11_addWordsOfThing_41 (d : Nat) (V : XM) (l1 : Int) (l2 : Int) : Xf d 178 41 [xr 2 0, xi l1, xi l2] [] V =
    if l2 < (V 5 0 9) then
    ci (Yf d 109 [xr 5 0, xi l1, xi l2] V) (fun x2 V1 =>
      if x2 = 0 then
        Xf d 178 41 [xr 2 0, xi l1, xi (w32 (l2 + 1))] [] V1
      else
        cl (Yf d 115 [xr 5 0, xi l1, xi l2] V1) (fun x4 V3 =>
          cv (Yf d 177 [xr 2 0, xi (w32 x4)] V3) (fun V5 =>
            Xf d 178 41 [xr 2 0, xi l1, xi (w32 (l2 + 1))] [] V5)))
  else
    some (xi 0, V) := Xx_es [41] P_X11_addWordsOfThing 2 _ _ _ V
set_option maxRecDepth 100000 in
theorem s_X11_addWordsOfRoom (d : Nat) (V : XM) (a : Int) : Yf (d + 1) 179 [xr 2 0, xi a] V =
    Xf d 179 2 [xr 2 0, xi a, xi 0] [] V := Xc_es [2] P_X11_addWordsOfRoom 1 _ V
set_option maxRecDepth 100000 in
theorem s_X11_addWordsOfRoom_2 (d : Nat) (V : XM) (l1 : Int) (l2 : Int) : Xf d 179 2 [xr 2 0, xi l1, xi l2] [] V =
    if l2 < 8 then
    ci (Yf d 53 [xr 11 0, xi l1, xi l2] V) (fun x2 V1 =>
      cv (Yf d 177 [xr 2 0, xi x2] V1) (fun V3 =>
        Xf d 179 2 [xr 2 0, xi l1, xi (w32 (l2 + 1))] [] V3))
  else
    some (xi 0, V) := Xx_es [2] P_X11_addWordsOfRoom 2 _ _ _ V
set_option maxRecDepth 100000 in
theorem s_X11_word (d : Nat) (V : XM) (a : Int) : Yf (d + 1) 180 [xr 2 0, xi a] V =
    ci (Yf d 123 [xi a, xi (V 2 0 14)] V) (fun x2 V1 =>
    if x2 = 0 then
      some (xi (-9), V1)
    else
      if 0 ≤ a ∧ a < 1490 then
        some (xi (V1 18 0 (a.toNat)), V1)
      else
        none) := Xc_es [] P_X11_word 3 _ V
set_option maxRecDepth 100000 in
theorem s_X11_digest (d : Nat) (V : XM) : Yf (d + 1) 181 [xr 2 0] V =
    Xf d 181 6 [xr 2 0, xl 17, xr 0 0, xi 0] [] V := Xc_es [6] P_X11_digest 1 _ V
set_option maxRecDepth 100000 in
theorem s_X11_digest_6 (d : Nat) (V : XM) (l1 : Int) (l3 : Int) : Xf d 181 6 [xr 2 0, xl l1, xr 0 0, xi l3] [] V =
    if l3 < (V 2 0 14) then
    if 0 ≤ l3 ∧ l3 < 1490 then
      Xf d 181 6 [xr 2 0, xl (w64 ((w64 (31 * l1)) + (V 18 0 (l3.toNat)))), xr 0 0, xi (w32 (l3 + 1))] [] V
    else
      none
  else
    some (xl l1, V) := Xx_es [6] P_X11_digest 2 _ _ _ V
set_option maxRecDepth 100000 in
theorem s_X11_sentence (d : Nat) (V : XM) (a : Int) (b : Int) : Yf (d + 1) 182 [xr 2 0, xi a, xi b] V =
    ci (Yf d 123 [xi a, xi (V 6 0 4)] V) (fun x2 V1 =>
    if x2 = 0 then
      some (xi (-1), V1)
    else
      if b = 0 then
        if 0 ≤ a ∧ a < 300 then
          some (xi (V1 33 0 (a.toNat)), V1)
        else
          none
      else
        if b = 0 + 1 then
          if 0 ≤ a ∧ a < 300 then
            some (xi (V1 34 0 (a.toNat)), V1)
          else
            none
        else
          if b = 0 + 1 + 1 then
            if 0 ≤ a ∧ a < 300 then
              some (xi (V1 35 0 (a.toNat)), V1)
            else
              none
          else
            some (xi (-2), V1)) := Xc_es [] P_X11_sentence 3 _ V
set_option maxRecDepth 100000 in
theorem s_X11_count (d : Nat) (V : XM) (a : Int) : Yf (d + 1) 183 [xr 2 0, xi a] V =
    if a = 0 then
    some (xi (V 3 0 1), V)
  else
    if a = 0 + 1 then
      some (xi (V 5 0 9), V)
    else
      if a = 0 + 1 + 1 then
        some (xi (V 4 0 7), V)
      else
        if a = 0 + 1 + 1 + 1 then
          some (xi (V 6 0 4), V)
        else
          if a = 0 + 1 + 1 + 1 + 1 then
            some (xi (V 10 0 6), V)
          else
            if a = 0 + 1 + 1 + 1 + 1 + 1 then
              some (xi (V 2 0 12), V)
            else
              if a = 0 + 1 + 1 + 1 + 1 + 1 + 1 then
                some (xi (V 2 0 13), V)
              else
                if a = 0 + 1 + 1 + 1 + 1 + 1 + 1 + 1 then
                  ci (Yf d 26 [xr 7 0] V) (fun x2 V1 =>
                    some (xi x2, V1))
                else
                  if a = 0 + 1 + 1 + 1 + 1 + 1 + 1 + 1 + 1 then
                    some (xi (V 2 0 14), V)
                  else
                    if a = 0 + 1 + 1 + 1 + 1 + 1 + 1 + 1 + 1 + 1 then
                      some (xi (V 7 0 15), V)
                    else
                      some (xi (-2), V) := Xc_es [] P_X11_count 2 _ V
set_option maxRecDepth 100000 in
theorem s_X11_fault (d : Nat) (V : XM) : Yf (d + 1) 184 [xr 2 0] V =
    some (xi (V 2 0 15), V) := Xc_es [] P_X11_fault 1 _ V
set_option maxRecDepth 100000 in
theorem s_X11_clear (d : Nat) (V : XM) : Yf (d + 1) 185 [xr 2 0] V =
    cv (Yf d 120 [xr 2 0] V) (fun V1 =>
    some (xi (V 4 0 7), V1)) := Xc_es [] P_X11_clear 1 _ V
