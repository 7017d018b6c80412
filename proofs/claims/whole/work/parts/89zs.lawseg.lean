abbrev lwT : List Nat := [264, 287, 320, 363, 436, 469, 502, 535, 608, 642, 675, 719, 752, 785, 828, 861, 904, 953, 1016, 1075, 1108, 1121, 1145, 1168, 1211, 1254, 1297, 1340, 1383, 1426, 1479, 1512, 1545, 1604, 1663, 1696, 1739, 1772, 1835, 1848, 1891, 1974, 2017, 2061, 2144, 2203, 2237, 2271, 2284, 2307, 2321, 2354, 2377, 2390]
abbrev lwS : List Nat := [18, 264, 287, 320, 363, 436, 469, 502, 535, 608, 642, 675, 719, 752, 785, 828, 861, 904, 953, 1016, 1075, 1108, 1121, 1145, 1168, 1211, 1254, 1297, 1340, 1383, 1426, 1479, 1512, 1545, 1604, 1663, 1696, 1739, 1772, 1835, 1848, 1891, 1974, 2017, 2061, 2144, 2203, 2237, 2271, 2284, 2307, 2321, 2354, 2377, 2390, 2403]
set_option maxRecDepth 100000 in
theorem s_law_18n (d : Nat) (V : XM) (i : Int) : Xf d 310 18 [xr 1 0, xr 2 0, xr 14 0, xi i] [] V =
    if (w32 ((V 1 1 0) - 6)) < i then
 some (xi 1, V)
 else
 if 0 ≤ i ∧ i < V 1 1 0 then
 if (iAnd (V 1 0 (i.toNat)) 63) = 0 then
 Xf d 310 264 [xr 1 0, xr 2 0, xr 14 0, xi i] [] V
 else
 if (iAnd (V 1 0 (i.toNat)) 63) = 0 + 1 then
 Xf d 310 287 [xr 1 0, xr 2 0, xr 14 0, xi i] [] V
 else
 if (iAnd (V 1 0 (i.toNat)) 63) = 0 + 1 + 1 then
 Xf d 310 320 [xr 1 0, xr 2 0, xr 14 0, xi i] [] V
 else
 if (iAnd (V 1 0 (i.toNat)) 63) = 0 + 1 + 1 + 1 then
 Xf d 310 363 [xr 1 0, xr 2 0, xr 14 0, xi i] [] V
 else
 if (iAnd (V 1 0 (i.toNat)) 63) = 0 + 1 + 1 + 1 + 1 then
 Xf d 310 436 [xr 1 0, xr 2 0, xr 14 0, xi i] [] V
 else
 if (iAnd (V 1 0 (i.toNat)) 63) = 0 + 1 + 1 + 1 + 1 + 1 then
 Xf d 310 469 [xr 1 0, xr 2 0, xr 14 0, xi i] [] V
 else
 if (iAnd (V 1 0 (i.toNat)) 63) = 0 + 1 + 1 + 1 + 1 + 1 + 1 then
 Xf d 310 502 [xr 1 0, xr 2 0, xr 14 0, xi i] [] V
 else
 if (iAnd (V 1 0 (i.toNat)) 63) = 0 + 1 + 1 + 1 + 1 + 1 + 1 + 1 then
 Xf d 310 535 [xr 1 0, xr 2 0, xr 14 0, xi i] [] V
 else
 if (iAnd (V 1 0 (i.toNat)) 63) = 0 + 1 + 1 + 1 + 1 + 1 + 1 + 1 + 1 then
 Xf d 310 608 [xr 1 0, xr 2 0, xr 14 0, xi i] [] V
 else
 if (iAnd (V 1 0 (i.toNat)) 63) = 0 + 1 + 1 + 1 + 1 + 1 + 1 + 1 + 1 + 1 then
 Xf d 310 642 [xr 1 0, xr 2 0, xr 14 0, xi i] [] V
 else
 if (iAnd (V 1 0 (i.toNat)) 63) = 0 + 1 + 1 + 1 + 1 + 1 + 1 + 1 + 1 + 1 + 1 then
 Xf d 310 675 [xr 1 0, xr 2 0, xr 14 0, xi i] [] V
 else
 if (iAnd (V 1 0 (i.toNat)) 63) = 0 + 1 + 1 + 1 + 1 + 1 + 1 + 1 + 1 + 1 + 1 + 1 then
 Xf d 310 719 [xr 1 0, xr 2 0, xr 14 0, xi i] [] V
 else
 if (iAnd (V 1 0 (i.toNat)) 63) = 0 + 1 + 1 + 1 + 1 + 1 + 1 + 1 + 1 + 1 + 1 + 1 + 1 then
 Xf d 310 752 [xr 1 0, xr 2 0, xr 14 0, xi i] [] V
 else
 if (iAnd (V 1 0 (i.toNat)) 63) = 0 + 1 + 1 + 1 + 1 + 1 + 1 + 1 + 1 + 1 + 1 + 1 + 1 + 1 then
 Xf d 310 785 [xr 1 0, xr 2 0, xr 14 0, xi i] [] V
 else
 if (iAnd (V 1 0 (i.toNat)) 63) = 0 + 1 + 1 + 1 + 1 + 1 + 1 + 1 + 1 + 1 + 1 + 1 + 1 + 1 + 1 then
 Xf d 310 828 [xr 1 0, xr 2 0, xr 14 0, xi i] [] V
 else
 if (iAnd (V 1 0 (i.toNat)) 63) = 0 + 1 + 1 + 1 + 1 + 1 + 1 + 1 + 1 + 1 + 1 + 1 + 1 + 1 + 1 + 1 then
 Xf d 310 861 [xr 1 0, xr 2 0, xr 14 0, xi i] [] V
 else
 if (iAnd (V 1 0 (i.toNat)) 63) = 0 + 1 + 1 + 1 + 1 + 1 + 1 + 1 + 1 + 1 + 1 + 1 + 1 + 1 + 1 + 1 + 1 then
 Xf d 310 904 [xr 1 0, xr 2 0, xr 14 0, xi i] [] V
 else
 if (iAnd (V 1 0 (i.toNat)) 63) = 0 + 1 + 1 + 1 + 1 + 1 + 1 + 1 + 1 + 1 + 1 + 1 + 1 + 1 + 1 + 1 + 1 + 1 then
 Xf d 310 953 [xr 1 0, xr 2 0, xr 14 0, xi i] [] V
 else
 if (iAnd (V 1 0 (i.toNat)) 63) = 0 + 1 + 1 + 1 + 1 + 1 + 1 + 1 + 1 + 1 + 1 + 1 + 1 + 1 + 1 + 1 + 1 + 1 + 1 then
 Xf d 310 1016 [xr 1 0, xr 2 0, xr 14 0, xi i] [] V
 else
 if (iAnd (V 1 0 (i.toNat)) 63) = 0 + 1 + 1 + 1 + 1 + 1 + 1 + 1 + 1 + 1 + 1 + 1 + 1 + 1 + 1 + 1 + 1 + 1 + 1 + 1 then
 Xf d 310 1075 [xr 1 0, xr 2 0, xr 14 0, xi i] [] V
 else
 if (iAnd (V 1 0 (i.toNat)) 63) = 0 + 1 + 1 + 1 + 1 + 1 + 1 + 1 + 1 + 1 + 1 + 1 + 1 + 1 + 1 + 1 + 1 + 1 + 1 + 1 + 1 then
 Xf d 310 1108 [xr 1 0, xr 2 0, xr 14 0, xi i] [] V
 else
 if (iAnd (V 1 0 (i.toNat)) 63) = 0 + 1 + 1 + 1 + 1 + 1 + 1 + 1 + 1 + 1 + 1 + 1 + 1 + 1 + 1 + 1 + 1 + 1 + 1 + 1 + 1 + 1 then
 Xf d 310 1121 [xr 1 0, xr 2 0, xr 14 0, xi i] [] V
 else
 if (iAnd (V 1 0 (i.toNat)) 63) = 0 + 1 + 1 + 1 + 1 + 1 + 1 + 1 + 1 + 1 + 1 + 1 + 1 + 1 + 1 + 1 + 1 + 1 + 1 + 1 + 1 + 1 + 1 then
 Xf d 310 1145 [xr 1 0, xr 2 0, xr 14 0, xi i] [] V
 else
 if (iAnd (V 1 0 (i.toNat)) 63) = 0 + 1 + 1 + 1 + 1 + 1 + 1 + 1 + 1 + 1 + 1 + 1 + 1 + 1 + 1 + 1 + 1 + 1 + 1 + 1 + 1 + 1 + 1 + 1 then
 Xf d 310 1168 [xr 1 0, xr 2 0, xr 14 0, xi i] [] V
 else
 if (iAnd (V 1 0 (i.toNat)) 63) = 0 + 1 + 1 + 1 + 1 + 1 + 1 + 1 + 1 + 1 + 1 + 1 + 1 + 1 + 1 + 1 + 1 + 1 + 1 + 1 + 1 + 1 + 1 + 1 + 1 then
 Xf d 310 1211 [xr 1 0, xr 2 0, xr 14 0, xi i] [] V
 else
 if (iAnd (V 1 0 (i.toNat)) 63) = 0 + 1 + 1 + 1 + 1 + 1 + 1 + 1 + 1 + 1 + 1 + 1 + 1 + 1 + 1 + 1 + 1 + 1 + 1 + 1 + 1 + 1 + 1 + 1 + 1 + 1 then
 Xf d 310 1254 [xr 1 0, xr 2 0, xr 14 0, xi i] [] V
 else
 if (iAnd (V 1 0 (i.toNat)) 63) = 0 + 1 + 1 + 1 + 1 + 1 + 1 + 1 + 1 + 1 + 1 + 1 + 1 + 1 + 1 + 1 + 1 + 1 + 1 + 1 + 1 + 1 + 1 + 1 + 1 + 1 + 1 then
 Xf d 310 1297 [xr 1 0, xr 2 0, xr 14 0, xi i] [] V
 else
 if (iAnd (V 1 0 (i.toNat)) 63) = 0 + 1 + 1 + 1 + 1 + 1 + 1 + 1 + 1 + 1 + 1 + 1 + 1 + 1 + 1 + 1 + 1 + 1 + 1 + 1 + 1 + 1 + 1 + 1 + 1 + 1 + 1 + 1 then
 Xf d 310 1340 [xr 1 0, xr 2 0, xr 14 0, xi i] [] V
 else
 if (iAnd (V 1 0 (i.toNat)) 63) = 0 + 1 + 1 + 1 + 1 + 1 + 1 + 1 + 1 + 1 + 1 + 1 + 1 + 1 + 1 + 1 + 1 + 1 + 1 + 1 + 1 + 1 + 1 + 1 + 1 + 1 + 1 + 1 + 1 then
 Xf d 310 1383 [xr 1 0, xr 2 0, xr 14 0, xi i] [] V
 else
 if (iAnd (V 1 0 (i.toNat)) 63) = 0 + 1 + 1 + 1 + 1 + 1 + 1 + 1 + 1 + 1 + 1 + 1 + 1 + 1 + 1 + 1 + 1 + 1 + 1 + 1 + 1 + 1 + 1 + 1 + 1 + 1 + 1 + 1 + 1 + 1 then
 Xf d 310 1426 [xr 1 0, xr 2 0, xr 14 0, xi i] [] V
 else
 if (iAnd (V 1 0 (i.toNat)) 63) = 0 + 1 + 1 + 1 + 1 + 1 + 1 + 1 + 1 + 1 + 1 + 1 + 1 + 1 + 1 + 1 + 1 + 1 + 1 + 1 + 1 + 1 + 1 + 1 + 1 + 1 + 1 + 1 + 1 + 1 + 1 then
 Xf d 310 1479 [xr 1 0, xr 2 0, xr 14 0, xi i] [] V
 else
 if (iAnd (V 1 0 (i.toNat)) 63) = 0 + 1 + 1 + 1 + 1 + 1 + 1 + 1 + 1 + 1 + 1 + 1 + 1 + 1 + 1 + 1 + 1 + 1 + 1 + 1 + 1 + 1 + 1 + 1 + 1 + 1 + 1 + 1 + 1 + 1 + 1 + 1 then
 Xf d 310 1512 [xr 1 0, xr 2 0, xr 14 0, xi i] [] V
 else
 if (iAnd (V 1 0 (i.toNat)) 63) = 0 + 1 + 1 + 1 + 1 + 1 + 1 + 1 + 1 + 1 + 1 + 1 + 1 + 1 + 1 + 1 + 1 + 1 + 1 + 1 + 1 + 1 + 1 + 1 + 1 + 1 + 1 + 1 + 1 + 1 + 1 + 1 + 1 then
 Xf d 310 1545 [xr 1 0, xr 2 0, xr 14 0, xi i] [] V
 else
 if (iAnd (V 1 0 (i.toNat)) 63) = 0 + 1 + 1 + 1 + 1 + 1 + 1 + 1 + 1 + 1 + 1 + 1 + 1 + 1 + 1 + 1 + 1 + 1 + 1 + 1 + 1 + 1 + 1 + 1 + 1 + 1 + 1 + 1 + 1 + 1 + 1 + 1 + 1 + 1 then
 Xf d 310 1604 [xr 1 0, xr 2 0, xr 14 0, xi i] [] V
 else
 if (iAnd (V 1 0 (i.toNat)) 63) = 0 + 1 + 1 + 1 + 1 + 1 + 1 + 1 + 1 + 1 + 1 + 1 + 1 + 1 + 1 + 1 + 1 + 1 + 1 + 1 + 1 + 1 + 1 + 1 + 1 + 1 + 1 + 1 + 1 + 1 + 1 + 1 + 1 + 1 + 1 then
 Xf d 310 1663 [xr 1 0, xr 2 0, xr 14 0, xi i] [] V
 else
 if (iAnd (V 1 0 (i.toNat)) 63) = 0 + 1 + 1 + 1 + 1 + 1 + 1 + 1 + 1 + 1 + 1 + 1 + 1 + 1 + 1 + 1 + 1 + 1 + 1 + 1 + 1 + 1 + 1 + 1 + 1 + 1 + 1 + 1 + 1 + 1 + 1 + 1 + 1 + 1 + 1 + 1 then
 Xf d 310 1696 [xr 1 0, xr 2 0, xr 14 0, xi i] [] V
 else
 if (iAnd (V 1 0 (i.toNat)) 63) = 0 + 1 + 1 + 1 + 1 + 1 + 1 + 1 + 1 + 1 + 1 + 1 + 1 + 1 + 1 + 1 + 1 + 1 + 1 + 1 + 1 + 1 + 1 + 1 + 1 + 1 + 1 + 1 + 1 + 1 + 1 + 1 + 1 + 1 + 1 + 1 + 1 then
 Xf d 310 1739 [xr 1 0, xr 2 0, xr 14 0, xi i] [] V
 else
 if (iAnd (V 1 0 (i.toNat)) 63) = 0 + 1 + 1 + 1 + 1 + 1 + 1 + 1 + 1 + 1 + 1 + 1 + 1 + 1 + 1 + 1 + 1 + 1 + 1 + 1 + 1 + 1 + 1 + 1 + 1 + 1 + 1 + 1 + 1 + 1 + 1 + 1 + 1 + 1 + 1 + 1 + 1 + 1 then
 Xf d 310 1772 [xr 1 0, xr 2 0, xr 14 0, xi i] [] V
 else
 if (iAnd (V 1 0 (i.toNat)) 63) = 0 + 1 + 1 + 1 + 1 + 1 + 1 + 1 + 1 + 1 + 1 + 1 + 1 + 1 + 1 + 1 + 1 + 1 + 1 + 1 + 1 + 1 + 1 + 1 + 1 + 1 + 1 + 1 + 1 + 1 + 1 + 1 + 1 + 1 + 1 + 1 + 1 + 1 + 1 then
 Xf d 310 1835 [xr 1 0, xr 2 0, xr 14 0, xi i] [] V
 else
 if (iAnd (V 1 0 (i.toNat)) 63) = 0 + 1 + 1 + 1 + 1 + 1 + 1 + 1 + 1 + 1 + 1 + 1 + 1 + 1 + 1 + 1 + 1 + 1 + 1 + 1 + 1 + 1 + 1 + 1 + 1 + 1 + 1 + 1 + 1 + 1 + 1 + 1 + 1 + 1 + 1 + 1 + 1 + 1 + 1 + 1 then
 Xf d 310 1848 [xr 1 0, xr 2 0, xr 14 0, xi i] [] V
 else
 if (iAnd (V 1 0 (i.toNat)) 63) = 0 + 1 + 1 + 1 + 1 + 1 + 1 + 1 + 1 + 1 + 1 + 1 + 1 + 1 + 1 + 1 + 1 + 1 + 1 + 1 + 1 + 1 + 1 + 1 + 1 + 1 + 1 + 1 + 1 + 1 + 1 + 1 + 1 + 1 + 1 + 1 + 1 + 1 + 1 + 1 + 1 then
 Xf d 310 1891 [xr 1 0, xr 2 0, xr 14 0, xi i] [] V
 else
 if (iAnd (V 1 0 (i.toNat)) 63) = 0 + 1 + 1 + 1 + 1 + 1 + 1 + 1 + 1 + 1 + 1 + 1 + 1 + 1 + 1 + 1 + 1 + 1 + 1 + 1 + 1 + 1 + 1 + 1 + 1 + 1 + 1 + 1 + 1 + 1 + 1 + 1 + 1 + 1 + 1 + 1 + 1 + 1 + 1 + 1 + 1 + 1 then
 Xf d 310 1974 [xr 1 0, xr 2 0, xr 14 0, xi i] [] V
 else
 if (iAnd (V 1 0 (i.toNat)) 63) = 0 + 1 + 1 + 1 + 1 + 1 + 1 + 1 + 1 + 1 + 1 + 1 + 1 + 1 + 1 + 1 + 1 + 1 + 1 + 1 + 1 + 1 + 1 + 1 + 1 + 1 + 1 + 1 + 1 + 1 + 1 + 1 + 1 + 1 + 1 + 1 + 1 + 1 + 1 + 1 + 1 + 1 + 1 then
 Xf d 310 2017 [xr 1 0, xr 2 0, xr 14 0, xi i] [] V
 else
 if (iAnd (V 1 0 (i.toNat)) 63) = 0 + 1 + 1 + 1 + 1 + 1 + 1 + 1 + 1 + 1 + 1 + 1 + 1 + 1 + 1 + 1 + 1 + 1 + 1 + 1 + 1 + 1 + 1 + 1 + 1 + 1 + 1 + 1 + 1 + 1 + 1 + 1 + 1 + 1 + 1 + 1 + 1 + 1 + 1 + 1 + 1 + 1 + 1 + 1 then
 Xf d 310 2061 [xr 1 0, xr 2 0, xr 14 0, xi i] [] V
 else
 if (iAnd (V 1 0 (i.toNat)) 63) = 0 + 1 + 1 + 1 + 1 + 1 + 1 + 1 + 1 + 1 + 1 + 1 + 1 + 1 + 1 + 1 + 1 + 1 + 1 + 1 + 1 + 1 + 1 + 1 + 1 + 1 + 1 + 1 + 1 + 1 + 1 + 1 + 1 + 1 + 1 + 1 + 1 + 1 + 1 + 1 + 1 + 1 + 1 + 1 + 1 then
 Xf d 310 2144 [xr 1 0, xr 2 0, xr 14 0, xi i] [] V
 else
 if (iAnd (V 1 0 (i.toNat)) 63) = 0 + 1 + 1 + 1 + 1 + 1 + 1 + 1 + 1 + 1 + 1 + 1 + 1 + 1 + 1 + 1 + 1 + 1 + 1 + 1 + 1 + 1 + 1 + 1 + 1 + 1 + 1 + 1 + 1 + 1 + 1 + 1 + 1 + 1 + 1 + 1 + 1 + 1 + 1 + 1 + 1 + 1 + 1 + 1 + 1 + 1 then
 Xf d 310 2203 [xr 1 0, xr 2 0, xr 14 0, xi i] [] V
 else
 if (iAnd (V 1 0 (i.toNat)) 63) = 0 + 1 + 1 + 1 + 1 + 1 + 1 + 1 + 1 + 1 + 1 + 1 + 1 + 1 + 1 + 1 + 1 + 1 + 1 + 1 + 1 + 1 + 1 + 1 + 1 + 1 + 1 + 1 + 1 + 1 + 1 + 1 + 1 + 1 + 1 + 1 + 1 + 1 + 1 + 1 + 1 + 1 + 1 + 1 + 1 + 1 + 1 then
 Xf d 310 2237 [xr 1 0, xr 2 0, xr 14 0, xi i] [] V
 else
 if (iAnd (V 1 0 (i.toNat)) 63) = 0 + 1 + 1 + 1 + 1 + 1 + 1 + 1 + 1 + 1 + 1 + 1 + 1 + 1 + 1 + 1 + 1 + 1 + 1 + 1 + 1 + 1 + 1 + 1 + 1 + 1 + 1 + 1 + 1 + 1 + 1 + 1 + 1 + 1 + 1 + 1 + 1 + 1 + 1 + 1 + 1 + 1 + 1 + 1 + 1 + 1 + 1 + 1 then
 Xf d 310 2271 [xr 1 0, xr 2 0, xr 14 0, xi i] [] V
 else
 if (iAnd (V 1 0 (i.toNat)) 63) = 0 + 1 + 1 + 1 + 1 + 1 + 1 + 1 + 1 + 1 + 1 + 1 + 1 + 1 + 1 + 1 + 1 + 1 + 1 + 1 + 1 + 1 + 1 + 1 + 1 + 1 + 1 + 1 + 1 + 1 + 1 + 1 + 1 + 1 + 1 + 1 + 1 + 1 + 1 + 1 + 1 + 1 + 1 + 1 + 1 + 1 + 1 + 1 + 1 then
 Xf d 310 2284 [xr 1 0, xr 2 0, xr 14 0, xi i] [] V
 else
 if (iAnd (V 1 0 (i.toNat)) 63) = 0 + 1 + 1 + 1 + 1 + 1 + 1 + 1 + 1 + 1 + 1 + 1 + 1 + 1 + 1 + 1 + 1 + 1 + 1 + 1 + 1 + 1 + 1 + 1 + 1 + 1 + 1 + 1 + 1 + 1 + 1 + 1 + 1 + 1 + 1 + 1 + 1 + 1 + 1 + 1 + 1 + 1 + 1 + 1 + 1 + 1 + 1 + 1 + 1 + 1 then
 Xf d 310 2307 [xr 1 0, xr 2 0, xr 14 0, xi i] [] V
 else
 if (iAnd (V 1 0 (i.toNat)) 63) = 0 + 1 + 1 + 1 + 1 + 1 + 1 + 1 + 1 + 1 + 1 + 1 + 1 + 1 + 1 + 1 + 1 + 1 + 1 + 1 + 1 + 1 + 1 + 1 + 1 + 1 + 1 + 1 + 1 + 1 + 1 + 1 + 1 + 1 + 1 + 1 + 1 + 1 + 1 + 1 + 1 + 1 + 1 + 1 + 1 + 1 + 1 + 1 + 1 + 1 + 1 then
 Xf d 310 2321 [xr 1 0, xr 2 0, xr 14 0, xi i] [] V
 else
 if (iAnd (V 1 0 (i.toNat)) 63) = 0 + 1 + 1 + 1 + 1 + 1 + 1 + 1 + 1 + 1 + 1 + 1 + 1 + 1 + 1 + 1 + 1 + 1 + 1 + 1 + 1 + 1 + 1 + 1 + 1 + 1 + 1 + 1 + 1 + 1 + 1 + 1 + 1 + 1 + 1 + 1 + 1 + 1 + 1 + 1 + 1 + 1 + 1 + 1 + 1 + 1 + 1 + 1 + 1 + 1 + 1 + 1 then
 Xf d 310 2354 [xr 1 0, xr 2 0, xr 14 0, xi i] [] V
 else
 if (iAnd (V 1 0 (i.toNat)) 63) = 0 + 1 + 1 + 1 + 1 + 1 + 1 + 1 + 1 + 1 + 1 + 1 + 1 + 1 + 1 + 1 + 1 + 1 + 1 + 1 + 1 + 1 + 1 + 1 + 1 + 1 + 1 + 1 + 1 + 1 + 1 + 1 + 1 + 1 + 1 + 1 + 1 + 1 + 1 + 1 + 1 + 1 + 1 + 1 + 1 + 1 + 1 + 1 + 1 + 1 + 1 + 1 + 1 then
 Xf d 310 2377 [xr 1 0, xr 2 0, xr 14 0, xi i] [] V
 else
 if (iAnd (V 1 0 (i.toNat)) 63) = 0 + 1 + 1 + 1 + 1 + 1 + 1 + 1 + 1 + 1 + 1 + 1 + 1 + 1 + 1 + 1 + 1 + 1 + 1 + 1 + 1 + 1 + 1 + 1 + 1 + 1 + 1 + 1 + 1 + 1 + 1 + 1 + 1 + 1 + 1 + 1 + 1 + 1 + 1 + 1 + 1 + 1 + 1 + 1 + 1 + 1 + 1 + 1 + 1 + 1 + 1 + 1 + 1 + 1 then
 Xf d 310 2390 [xr 1 0, xr 2 0, xr 14 0, xi i] [] V
 else
 Xf d 310 2403 [xr 1 0, xr 2 0, xr 14 0, xi i] [] V
 else
 none := Xx_es lwS P_L_law 2 _ _ _ V
set_option maxRecDepth 100000 in
theorem s_law_18 (d : Nat) (V : XM) (i : Int) : Xf d 310 18 [xr 1 0, xr 2 0, xr 14 0, xi i] [] V =
    if (w32 ((V 1 1 0) - 6)) < i then some (xi 1, V) else
    if 0 ≤ i ∧ i < V 1 1 0 then xsw (iAnd (V 1 0 (i.toNat)) 63) 0 2403 (fun t => Xf d 310 t [xr 1 0, xr 2 0, xr 14 0, xi i] [] V) lwT else none := (s_law_18n d V i).trans rfl
set_option maxRecDepth 100000 in
theorem s_law_264 (d : Nat) (V : XM) (i : Int) : Xf d 310 264 [xr 1 0, xr 2 0, xr 14 0, xi i] [] V =
    if 0 ≤ w32 (i + 1) ∧ w32 (i + 1) < V 1 1 0 then
    ci (Yf d 124 [xr 2 0, xi (V 1 0 ((w32 (i + 1)).toNat))] V) (fun x2 V1 =>
      if 0 ≤ w32 (i + 1) ∧ w32 (i + 1) < V1 1 1 0 then
        ci (Yf d 196 [xr 14 0, xi (V1 1 0 ((w32 (i + 1)).toNat))] V1) (fun x4 V3 =>
          if x2 = x4 then
            Xf d 310 2403 [xr 1 0, xr 2 0, xr 14 0, xi i] [] V3
          else
            some (xi 0, V3))
      else
        none)
  else
    none := Xx_es lwS P_L_law 1 _ _ _ V
set_option maxRecDepth 100000 in
theorem s_law_287 (d : Nat) (V : XM) (i : Int) : Xf d 310 287 [xr 1 0, xr 2 0, xr 14 0, xi i] [] V =
    if 0 ≤ w32 (i + 1) ∧ w32 (i + 1) < V 1 1 0 then
    if 0 ≤ w32 (i + 2) ∧ w32 (i + 2) < V 1 1 0 then
      ci (Yf d 125 [xr 2 0, xi (V 1 0 ((w32 (i + 1)).toNat)), xi (V 1 0 ((w32 (i + 2)).toNat))] V) (fun x2 V1 =>
        if 0 ≤ w32 (i + 1) ∧ w32 (i + 1) < V1 1 1 0 then
          if 0 ≤ w32 (i + 2) ∧ w32 (i + 2) < V1 1 1 0 then
            ci (Yf d 197 [xr 14 0, xi (V1 1 0 ((w32 (i + 1)).toNat)), xi (V1 1 0 ((w32 (i + 2)).toNat))] V1) (fun x4 V3 =>
              if x2 = x4 then
                Xf d 310 2403 [xr 1 0, xr 2 0, xr 14 0, xi i] [] V3
              else
                some (xi 0, V3))
          else
            none
        else
          none)
    else
      none
  else
    none := Xx_es lwS P_L_law 1 _ _ _ V
set_option maxRecDepth 100000 in
theorem s_law_320 (d : Nat) (V : XM) (i : Int) : Xf d 310 320 [xr 1 0, xr 2 0, xr 14 0, xi i] [] V =
    if 0 ≤ w32 (i + 1) ∧ w32 (i + 1) < V 1 1 0 then
    if 0 ≤ w32 (i + 2) ∧ w32 (i + 2) < V 1 1 0 then
      if 0 ≤ w32 (i + 3) ∧ w32 (i + 3) < V 1 1 0 then
        ci (Yf d 126 [xr 2 0, xi (V 1 0 ((w32 (i + 1)).toNat)), xi (V 1 0 ((w32 (i + 2)).toNat)), xi (V 1 0 ((w32 (i + 3)).toNat))] V) (fun x2 V1 =>
          if 0 ≤ w32 (i + 1) ∧ w32 (i + 1) < V1 1 1 0 then
            if 0 ≤ w32 (i + 2) ∧ w32 (i + 2) < V1 1 1 0 then
              if 0 ≤ w32 (i + 3) ∧ w32 (i + 3) < V1 1 1 0 then
                ci (Yf d 198 [xr 14 0, xi (V1 1 0 ((w32 (i + 1)).toNat)), xi (V1 1 0 ((w32 (i + 2)).toNat)), xi (V1 1 0 ((w32 (i + 3)).toNat))] V1) (fun x4 V3 =>
                  if x2 = x4 then
                    Xf d 310 2403 [xr 1 0, xr 2 0, xr 14 0, xi i] [] V3
                  else
                    some (xi 0, V3))
              else
                none
            else
              none
          else
            none)
      else
        none
    else
      none
  else
    none := Xx_es lwS P_L_law 1 _ _ _ V
set_option maxRecDepth 100000 in
theorem s_law_363 (d : Nat) (V : XM) (i : Int) : Xf d 310 363 [xr 1 0, xr 2 0, xr 14 0, xi i] [] V =
    if 0 ≤ w32 (i + 1) ∧ w32 (i + 1) < V 1 1 0 then
    if 0 ≤ w32 (i + 2) ∧ w32 (i + 2) < V 1 1 0 then
      if 0 ≤ w32 (i + 3) ∧ w32 (i + 3) < V 1 1 0 then
        if 0 ≤ w32 (i + 4) ∧ w32 (i + 4) < V 1 1 0 then
          ci (Yf d 127 [xr 2 0, xi (V 1 0 ((w32 (i + 1)).toNat)), xi (V 1 0 ((w32 (i + 2)).toNat)), xl (lOr (lShl (V 1 0 ((w32 (i + 3)).toNat)) 32) (lAnd (V 1 0 ((w32 (i + 4)).toNat)) 4294967295))] V) (fun x2 V1 =>
            if 0 ≤ w32 (i + 1) ∧ w32 (i + 1) < V1 1 1 0 then
              if 0 ≤ w32 (i + 2) ∧ w32 (i + 2) < V1 1 1 0 then
                if 0 ≤ w32 (i + 3) ∧ w32 (i + 3) < V1 1 1 0 then
                  if 0 ≤ w32 (i + 4) ∧ w32 (i + 4) < V1 1 1 0 then
                    ci (Yf d 202 [xr 14 0, xi (V1 1 0 ((w32 (i + 1)).toNat)), xi (V1 1 0 ((w32 (i + 2)).toNat)), xl (lOr (lShl (V1 1 0 ((w32 (i + 3)).toNat)) 32) (lAnd (V1 1 0 ((w32 (i + 4)).toNat)) 4294967295))] V1) (fun x4 V3 =>
                      if x2 = x4 then
                        Xf d 310 2403 [xr 1 0, xr 2 0, xr 14 0, xi i] [] V3
                      else
                        some (xi 0, V3))
                  else
                    none
                else
                  none
              else
                none
            else
              none)
        else
          none
      else
        none
    else
      none
  else
    none := Xx_es lwS P_L_law 1 _ _ _ V
set_option maxRecDepth 100000 in
theorem s_law_436 (d : Nat) (V : XM) (i : Int) : Xf d 310 436 [xr 1 0, xr 2 0, xr 14 0, xi i] [] V =
    if 0 ≤ w32 (i + 1) ∧ w32 (i + 1) < V 1 1 0 then
    if 0 ≤ w32 (i + 2) ∧ w32 (i + 2) < V 1 1 0 then
      ci (Yf d 128 [xr 2 0, xi (V 1 0 ((w32 (i + 1)).toNat)), xi (V 1 0 ((w32 (i + 2)).toNat))] V) (fun x2 V1 =>
        if 0 ≤ w32 (i + 1) ∧ w32 (i + 1) < V1 1 1 0 then
          if 0 ≤ w32 (i + 2) ∧ w32 (i + 2) < V1 1 1 0 then
            ci (Yf d 209 [xr 14 0, xi (V1 1 0 ((w32 (i + 1)).toNat)), xi (V1 1 0 ((w32 (i + 2)).toNat))] V1) (fun x4 V3 =>
              if x2 = x4 then
                Xf d 310 2403 [xr 1 0, xr 2 0, xr 14 0, xi i] [] V3
              else
                some (xi 0, V3))
          else
            none
        else
          none)
    else
      none
  else
    none := Xx_es lwS P_L_law 1 _ _ _ V
set_option maxRecDepth 100000 in
theorem s_law_469 (d : Nat) (V : XM) (i : Int) : Xf d 310 469 [xr 1 0, xr 2 0, xr 14 0, xi i] [] V =
    if 0 ≤ w32 (i + 1) ∧ w32 (i + 1) < V 1 1 0 then
    if 0 ≤ w32 (i + 2) ∧ w32 (i + 2) < V 1 1 0 then
      ci (Yf d 129 [xr 2 0, xi (V 1 0 ((w32 (i + 1)).toNat)), xi (V 1 0 ((w32 (i + 2)).toNat))] V) (fun x2 V1 =>
        if 0 ≤ w32 (i + 1) ∧ w32 (i + 1) < V1 1 1 0 then
          if 0 ≤ w32 (i + 2) ∧ w32 (i + 2) < V1 1 1 0 then
            ci (Yf d 221 [xr 14 0, xi (V1 1 0 ((w32 (i + 1)).toNat)), xi (V1 1 0 ((w32 (i + 2)).toNat))] V1) (fun x4 V3 =>
              if x2 = x4 then
                Xf d 310 2403 [xr 1 0, xr 2 0, xr 14 0, xi i] [] V3
              else
                some (xi 0, V3))
          else
            none
        else
          none)
    else
      none
  else
    none := Xx_es lwS P_L_law 1 _ _ _ V
set_option maxRecDepth 100000 in
theorem s_law_502 (d : Nat) (V : XM) (i : Int) : Xf d 310 502 [xr 1 0, xr 2 0, xr 14 0, xi i] [] V =
    if 0 ≤ w32 (i + 1) ∧ w32 (i + 1) < V 1 1 0 then
    if 0 ≤ w32 (i + 2) ∧ w32 (i + 2) < V 1 1 0 then
      ci (Yf d 130 [xr 2 0, xi (V 1 0 ((w32 (i + 1)).toNat)), xi (V 1 0 ((w32 (i + 2)).toNat))] V) (fun x2 V1 =>
        if 0 ≤ w32 (i + 1) ∧ w32 (i + 1) < V1 1 1 0 then
          if 0 ≤ w32 (i + 2) ∧ w32 (i + 2) < V1 1 1 0 then
            ci (Yf d 222 [xr 14 0, xi (V1 1 0 ((w32 (i + 1)).toNat)), xi (V1 1 0 ((w32 (i + 2)).toNat))] V1) (fun x4 V3 =>
              if x2 = x4 then
                Xf d 310 2403 [xr 1 0, xr 2 0, xr 14 0, xi i] [] V3
              else
                some (xi 0, V3))
          else
            none
        else
          none)
    else
      none
  else
    none := Xx_es lwS P_L_law 1 _ _ _ V
set_option maxRecDepth 100000 in
theorem s_law_535 (d : Nat) (V : XM) (i : Int) : Xf d 310 535 [xr 1 0, xr 2 0, xr 14 0, xi i] [] V =
    if 0 ≤ w32 (i + 1) ∧ w32 (i + 1) < V 1 1 0 then
    if 0 ≤ w32 (i + 2) ∧ w32 (i + 2) < V 1 1 0 then
      if 0 ≤ w32 (i + 3) ∧ w32 (i + 3) < V 1 1 0 then
        if 0 ≤ w32 (i + 4) ∧ w32 (i + 4) < V 1 1 0 then
          ci (Yf d 131 [xr 2 0, xi (V 1 0 ((w32 (i + 1)).toNat)), xi (V 1 0 ((w32 (i + 2)).toNat)), xl (lOr (lShl (V 1 0 ((w32 (i + 3)).toNat)) 32) (lAnd (V 1 0 ((w32 (i + 4)).toNat)) 4294967295))] V) (fun x2 V1 =>
            if 0 ≤ w32 (i + 1) ∧ w32 (i + 1) < V1 1 1 0 then
              if 0 ≤ w32 (i + 2) ∧ w32 (i + 2) < V1 1 1 0 then
                if 0 ≤ w32 (i + 3) ∧ w32 (i + 3) < V1 1 1 0 then
                  if 0 ≤ w32 (i + 4) ∧ w32 (i + 4) < V1 1 1 0 then
                    ci (Yf d 223 [xr 14 0, xi (V1 1 0 ((w32 (i + 1)).toNat)), xi (V1 1 0 ((w32 (i + 2)).toNat)), xl (lOr (lShl (V1 1 0 ((w32 (i + 3)).toNat)) 32) (lAnd (V1 1 0 ((w32 (i + 4)).toNat)) 4294967295))] V1) (fun x4 V3 =>
                      if x2 = x4 then
                        Xf d 310 2403 [xr 1 0, xr 2 0, xr 14 0, xi i] [] V3
                      else
                        some (xi 0, V3))
                  else
                    none
                else
                  none
              else
                none
            else
              none)
        else
          none
      else
        none
    else
      none
  else
    none := Xx_es lwS P_L_law 1 _ _ _ V
set_option maxRecDepth 100000 in
theorem s_law_608 (d : Nat) (V : XM) (i : Int) : Xf d 310 608 [xr 1 0, xr 2 0, xr 14 0, xi i] [] V =
    if 0 ≤ w32 (i + 1) ∧ w32 (i + 1) < V 1 1 0 then
    if 0 ≤ w32 (i + 2) ∧ w32 (i + 2) < V 1 1 0 then
      cl (Yf d 132 [xr 2 0, xi (V 1 0 ((w32 (i + 1)).toNat)), xi (V 1 0 ((w32 (i + 2)).toNat))] V) (fun x2 V1 =>
        if 0 ≤ w32 (i + 1) ∧ w32 (i + 1) < V1 1 1 0 then
          if 0 ≤ w32 (i + 2) ∧ w32 (i + 2) < V1 1 1 0 then
            cl (Yf d 225 [xr 14 0, xi (V1 1 0 ((w32 (i + 1)).toNat)), xi (V1 1 0 ((w32 (i + 2)).toNat))] V1) (fun x4 V3 =>
              if (cmp3 x2 x4) = 0 then
                Xf d 310 2403 [xr 1 0, xr 2 0, xr 14 0, xi i] [] V3
              else
                some (xi 0, V3))
          else
            none
        else
          none)
    else
      none
  else
    none := Xx_es lwS P_L_law 1 _ _ _ V
set_option maxRecDepth 100000 in
theorem s_law_642 (d : Nat) (V : XM) (i : Int) : Xf d 310 642 [xr 1 0, xr 2 0, xr 14 0, xi i] [] V =
    if 0 ≤ w32 (i + 1) ∧ w32 (i + 1) < V 1 1 0 then
    if 0 ≤ w32 (i + 2) ∧ w32 (i + 2) < V 1 1 0 then
      ci (Yf d 133 [xr 2 0, xi (V 1 0 ((w32 (i + 1)).toNat)), xi (V 1 0 ((w32 (i + 2)).toNat))] V) (fun x2 V1 =>
        if 0 ≤ w32 (i + 1) ∧ w32 (i + 1) < V1 1 1 0 then
          if 0 ≤ w32 (i + 2) ∧ w32 (i + 2) < V1 1 1 0 then
            ci (Yf d 226 [xr 14 0, xi (V1 1 0 ((w32 (i + 1)).toNat)), xi (V1 1 0 ((w32 (i + 2)).toNat))] V1) (fun x4 V3 =>
              if x2 = x4 then
                Xf d 310 2403 [xr 1 0, xr 2 0, xr 14 0, xi i] [] V3
              else
                some (xi 0, V3))
          else
            none
        else
          none)
    else
      none
  else
    none := Xx_es lwS P_L_law 1 _ _ _ V
set_option maxRecDepth 100000 in
theorem s_law_675 (d : Nat) (V : XM) (i : Int) : Xf d 310 675 [xr 1 0, xr 2 0, xr 14 0, xi i] [] V =
    if 0 ≤ w32 (i + 1) ∧ w32 (i + 1) < V 1 1 0 then
    if 0 ≤ w32 (i + 2) ∧ w32 (i + 2) < V 1 1 0 then
      if 0 ≤ w32 (i + 3) ∧ w32 (i + 3) < V 1 1 0 then
        cl (Yf d 134 [xr 2 0, xi (V 1 0 ((w32 (i + 1)).toNat)), xi (V 1 0 ((w32 (i + 2)).toNat)), xi (V 1 0 ((w32 (i + 3)).toNat))] V) (fun x2 V1 =>
          if 0 ≤ w32 (i + 1) ∧ w32 (i + 1) < V1 1 1 0 then
            if 0 ≤ w32 (i + 2) ∧ w32 (i + 2) < V1 1 1 0 then
              if 0 ≤ w32 (i + 3) ∧ w32 (i + 3) < V1 1 1 0 then
                cl (Yf d 227 [xr 14 0, xi (V1 1 0 ((w32 (i + 1)).toNat)), xi (V1 1 0 ((w32 (i + 2)).toNat)), xi (V1 1 0 ((w32 (i + 3)).toNat))] V1) (fun x4 V3 =>
                  if (cmp3 x2 x4) = 0 then
                    Xf d 310 2403 [xr 1 0, xr 2 0, xr 14 0, xi i] [] V3
                  else
                    some (xi 0, V3))
              else
                none
            else
              none
          else
            none)
      else
        none
    else
      none
  else
    none := Xx_es lwS P_L_law 1 _ _ _ V
set_option maxRecDepth 100000 in
theorem s_law_719 (d : Nat) (V : XM) (i : Int) : Xf d 310 719 [xr 1 0, xr 2 0, xr 14 0, xi i] [] V =
    if 0 ≤ w32 (i + 1) ∧ w32 (i + 1) < V 1 1 0 then
    if 0 ≤ w32 (i + 2) ∧ w32 (i + 2) < V 1 1 0 then
      ci (Yf d 135 [xr 2 0, xi (V 1 0 ((w32 (i + 1)).toNat)), xi (V 1 0 ((w32 (i + 2)).toNat))] V) (fun x2 V1 =>
        if 0 ≤ w32 (i + 1) ∧ w32 (i + 1) < V1 1 1 0 then
          if 0 ≤ w32 (i + 2) ∧ w32 (i + 2) < V1 1 1 0 then
            ci (Yf d 228 [xr 14 0, xi (V1 1 0 ((w32 (i + 1)).toNat)), xi (V1 1 0 ((w32 (i + 2)).toNat))] V1) (fun x4 V3 =>
              if x2 = x4 then
                Xf d 310 2403 [xr 1 0, xr 2 0, xr 14 0, xi i] [] V3
              else
                some (xi 0, V3))
          else
            none
        else
          none)
    else
      none
  else
    none := Xx_es lwS P_L_law 1 _ _ _ V
set_option maxRecDepth 100000 in
theorem s_law_752 (d : Nat) (V : XM) (i : Int) : Xf d 310 752 [xr 1 0, xr 2 0, xr 14 0, xi i] [] V =
    if 0 ≤ w32 (i + 1) ∧ w32 (i + 1) < V 1 1 0 then
    if 0 ≤ w32 (i + 2) ∧ w32 (i + 2) < V 1 1 0 then
      ci (Yf d 136 [xr 2 0, xi (V 1 0 ((w32 (i + 1)).toNat)), xi (V 1 0 ((w32 (i + 2)).toNat))] V) (fun x2 V1 =>
        if 0 ≤ w32 (i + 1) ∧ w32 (i + 1) < V1 1 1 0 then
          if 0 ≤ w32 (i + 2) ∧ w32 (i + 2) < V1 1 1 0 then
            ci (Yf d 234 [xr 14 0, xi (V1 1 0 ((w32 (i + 1)).toNat)), xi (V1 1 0 ((w32 (i + 2)).toNat))] V1) (fun x4 V3 =>
              if x2 = x4 then
                Xf d 310 2403 [xr 1 0, xr 2 0, xr 14 0, xi i] [] V3
              else
                some (xi 0, V3))
          else
            none
        else
          none)
    else
      none
  else
    none := Xx_es lwS P_L_law 1 _ _ _ V
set_option maxRecDepth 100000 in
theorem s_law_785 (d : Nat) (V : XM) (i : Int) : Xf d 310 785 [xr 1 0, xr 2 0, xr 14 0, xi i] [] V =
    if 0 ≤ w32 (i + 1) ∧ w32 (i + 1) < V 1 1 0 then
    if 0 ≤ w32 (i + 2) ∧ w32 (i + 2) < V 1 1 0 then
      if 0 ≤ w32 (i + 3) ∧ w32 (i + 3) < V 1 1 0 then
        ci (Yf d 139 [xr 2 0, xi (V 1 0 ((w32 (i + 1)).toNat)), xi (V 1 0 ((w32 (i + 2)).toNat)), xi (V 1 0 ((w32 (i + 3)).toNat))] V) (fun x2 V1 =>
          if 0 ≤ w32 (i + 1) ∧ w32 (i + 1) < V1 1 1 0 then
            if 0 ≤ w32 (i + 2) ∧ w32 (i + 2) < V1 1 1 0 then
              if 0 ≤ w32 (i + 3) ∧ w32 (i + 3) < V1 1 1 0 then
                ci (Yf d 235 [xr 14 0, xi (V1 1 0 ((w32 (i + 1)).toNat)), xi (V1 1 0 ((w32 (i + 2)).toNat)), xi (V1 1 0 ((w32 (i + 3)).toNat))] V1) (fun x4 V3 =>
                  if x2 = x4 then
                    Xf d 310 2403 [xr 1 0, xr 2 0, xr 14 0, xi i] [] V3
                  else
                    some (xi 0, V3))
              else
                none
            else
              none
          else
            none)
      else
        none
    else
      none
  else
    none := Xx_es lwS P_L_law 1 _ _ _ V
set_option maxRecDepth 100000 in
theorem s_law_828 (d : Nat) (V : XM) (i : Int) : Xf d 310 828 [xr 1 0, xr 2 0, xr 14 0, xi i] [] V =
    if 0 ≤ w32 (i + 1) ∧ w32 (i + 1) < V 1 1 0 then
    if 0 ≤ w32 (i + 2) ∧ w32 (i + 2) < V 1 1 0 then
      ci (Yf d 140 [xr 2 0, xi (V 1 0 ((w32 (i + 1)).toNat)), xi (V 1 0 ((w32 (i + 2)).toNat))] V) (fun x2 V1 =>
        if 0 ≤ w32 (i + 1) ∧ w32 (i + 1) < V1 1 1 0 then
          if 0 ≤ w32 (i + 2) ∧ w32 (i + 2) < V1 1 1 0 then
            ci (Yf d 237 [xr 14 0, xi (V1 1 0 ((w32 (i + 1)).toNat)), xi (V1 1 0 ((w32 (i + 2)).toNat))] V1) (fun x4 V3 =>
              if x2 = x4 then
                Xf d 310 2403 [xr 1 0, xr 2 0, xr 14 0, xi i] [] V3
              else
                some (xi 0, V3))
          else
            none
        else
          none)
    else
      none
  else
    none := Xx_es lwS P_L_law 1 _ _ _ V
set_option maxRecDepth 100000 in
theorem s_law_861 (d : Nat) (V : XM) (i : Int) : Xf d 310 861 [xr 1 0, xr 2 0, xr 14 0, xi i] [] V =
    if 0 ≤ w32 (i + 1) ∧ w32 (i + 1) < V 1 1 0 then
    if 0 ≤ w32 (i + 2) ∧ w32 (i + 2) < V 1 1 0 then
      if 0 ≤ w32 (i + 3) ∧ w32 (i + 3) < V 1 1 0 then
        ci (Yf d 141 [xr 2 0, xi (V 1 0 ((w32 (i + 1)).toNat)), xi (V 1 0 ((w32 (i + 2)).toNat)), xi (V 1 0 ((w32 (i + 3)).toNat))] V) (fun x2 V1 =>
          if 0 ≤ w32 (i + 1) ∧ w32 (i + 1) < V1 1 1 0 then
            if 0 ≤ w32 (i + 2) ∧ w32 (i + 2) < V1 1 1 0 then
              if 0 ≤ w32 (i + 3) ∧ w32 (i + 3) < V1 1 1 0 then
                ci (Yf d 238 [xr 14 0, xi (V1 1 0 ((w32 (i + 1)).toNat)), xi (V1 1 0 ((w32 (i + 2)).toNat)), xi (V1 1 0 ((w32 (i + 3)).toNat))] V1) (fun x4 V3 =>
                  if x2 = x4 then
                    Xf d 310 2403 [xr 1 0, xr 2 0, xr 14 0, xi i] [] V3
                  else
                    some (xi 0, V3))
              else
                none
            else
              none
          else
            none)
      else
        none
    else
      none
  else
    none := Xx_es lwS P_L_law 1 _ _ _ V
set_option maxRecDepth 100000 in
theorem s_law_904 (d : Nat) (V : XM) (i : Int) : Xf d 310 904 [xr 1 0, xr 2 0, xr 14 0, xi i] [] V =
    if 0 ≤ w32 (i + 1) ∧ w32 (i + 1) < V 1 1 0 then
    if 0 ≤ w32 (i + 2) ∧ w32 (i + 2) < V 1 1 0 then
      if (V 1 0 ((w32 (i + 2)).toNat)) = 0 then
        ci (Yf d 142 [xr 2 0, xi (V 1 0 ((w32 (i + 1)).toNat)), xi 0] V) (fun x2 V1 =>
          if 0 ≤ w32 (i + 1) ∧ w32 (i + 1) < V1 1 1 0 then
            if 0 ≤ w32 (i + 2) ∧ w32 (i + 2) < V1 1 1 0 then
              if (V1 1 0 ((w32 (i + 2)).toNat)) = 0 then
                ci (Yf d 239 [xr 14 0, xi (V1 1 0 ((w32 (i + 1)).toNat)), xi 0] V1) (fun x4 V3 =>
                  if x2 = x4 then
                    Xf d 310 2403 [xr 1 0, xr 2 0, xr 14 0, xi i] [] V3
                  else
                    some (xi 0, V3))
              else
                ci (Yf d 239 [xr 14 0, xi (V1 1 0 ((w32 (i + 1)).toNat)), xi 1] V1) (fun x6 V5 =>
                  if x2 = x6 then
                    Xf d 310 2403 [xr 1 0, xr 2 0, xr 14 0, xi i] [] V5
                  else
                    some (xi 0, V5))
            else
              none
          else
            none)
      else
        ci (Yf d 142 [xr 2 0, xi (V 1 0 ((w32 (i + 1)).toNat)), xi 1] V) (fun x8 V7 =>
          if 0 ≤ w32 (i + 1) ∧ w32 (i + 1) < V7 1 1 0 then
            if 0 ≤ w32 (i + 2) ∧ w32 (i + 2) < V7 1 1 0 then
              if (V7 1 0 ((w32 (i + 2)).toNat)) = 0 then
                ci (Yf d 239 [xr 14 0, xi (V7 1 0 ((w32 (i + 1)).toNat)), xi 0] V7) (fun x10 V9 =>
                  if x8 = x10 then
                    Xf d 310 2403 [xr 1 0, xr 2 0, xr 14 0, xi i] [] V9
                  else
                    some (xi 0, V9))
              else
                ci (Yf d 239 [xr 14 0, xi (V7 1 0 ((w32 (i + 1)).toNat)), xi 1] V7) (fun x12 V11 =>
                  if x8 = x12 then
                    Xf d 310 2403 [xr 1 0, xr 2 0, xr 14 0, xi i] [] V11
                  else
                    some (xi 0, V11))
            else
              none
          else
            none)
    else
      none
  else
    none := Xx_es lwS P_L_law 5 _ _ _ V
set_option maxRecDepth 100000 in
theorem s_law_953 (d : Nat) (V : XM) (i : Int) : Xf d 310 953 [xr 1 0, xr 2 0, xr 14 0, xi i] [] V =
    if 0 ≤ w32 (i + 1) ∧ w32 (i + 1) < V 1 1 0 then
    if 0 ≤ w32 (i + 2) ∧ w32 (i + 2) < V 1 1 0 then
      if 0 ≤ w32 (i + 3) ∧ w32 (i + 3) < V 1 1 0 then
        ci (Yf d 143 [xr 2 0, xi (V 1 0 ((w32 (i + 1)).toNat)), xl (lOr (lShl (V 1 0 ((w32 (i + 2)).toNat)) 32) (lAnd (V 1 0 ((w32 (i + 3)).toNat)) 4294967295))] V) (fun x2 V1 =>
          if 0 ≤ w32 (i + 1) ∧ w32 (i + 1) < V1 1 1 0 then
            if 0 ≤ w32 (i + 2) ∧ w32 (i + 2) < V1 1 1 0 then
              if 0 ≤ w32 (i + 3) ∧ w32 (i + 3) < V1 1 1 0 then
                ci (Yf d 240 [xr 14 0, xi (V1 1 0 ((w32 (i + 1)).toNat)), xl (lOr (lShl (V1 1 0 ((w32 (i + 2)).toNat)) 32) (lAnd (V1 1 0 ((w32 (i + 3)).toNat)) 4294967295))] V1) (fun x4 V3 =>
                  if x2 = x4 then
                    Xf d 310 2403 [xr 1 0, xr 2 0, xr 14 0, xi i] [] V3
                  else
                    some (xi 0, V3))
              else
                none
            else
              none
          else
            none)
      else
        none
    else
      none
  else
    none := Xx_es lwS P_L_law 1 _ _ _ V
set_option maxRecDepth 100000 in
theorem s_law_1016 (d : Nat) (V : XM) (i : Int) : Xf d 310 1016 [xr 1 0, xr 2 0, xr 14 0, xi i] [] V =
    if 0 ≤ w32 (i + 1) ∧ w32 (i + 1) < V 1 1 0 then
    if 0 ≤ w32 (i + 2) ∧ w32 (i + 2) < V 1 1 0 then
      if 0 ≤ w32 (i + 3) ∧ w32 (i + 3) < V 1 1 0 then
        if (V 1 0 ((w32 (i + 3)).toNat)) = 0 then
          ci (Yf d 144 [xr 2 0, xi (V 1 0 ((w32 (i + 1)).toNat)), xi (V 1 0 ((w32 (i + 2)).toNat)), xi 0] V) (fun x2 V1 =>
            if 0 ≤ w32 (i + 1) ∧ w32 (i + 1) < V1 1 1 0 then
              if 0 ≤ w32 (i + 2) ∧ w32 (i + 2) < V1 1 1 0 then
                if 0 ≤ w32 (i + 3) ∧ w32 (i + 3) < V1 1 1 0 then
                  if (V1 1 0 ((w32 (i + 3)).toNat)) = 0 then
                    ci (Yf d 241 [xr 14 0, xi (V1 1 0 ((w32 (i + 1)).toNat)), xi (V1 1 0 ((w32 (i + 2)).toNat)), xi 0] V1) (fun x4 V3 =>
                      if x2 = x4 then
                        Xf d 310 2403 [xr 1 0, xr 2 0, xr 14 0, xi i] [] V3
                      else
                        some (xi 0, V3))
                  else
                    ci (Yf d 241 [xr 14 0, xi (V1 1 0 ((w32 (i + 1)).toNat)), xi (V1 1 0 ((w32 (i + 2)).toNat)), xi 1] V1) (fun x6 V5 =>
                      if x2 = x6 then
                        Xf d 310 2403 [xr 1 0, xr 2 0, xr 14 0, xi i] [] V5
                      else
                        some (xi 0, V5))
                else
                  none
              else
                none
            else
              none)
        else
          ci (Yf d 144 [xr 2 0, xi (V 1 0 ((w32 (i + 1)).toNat)), xi (V 1 0 ((w32 (i + 2)).toNat)), xi 1] V) (fun x8 V7 =>
            if 0 ≤ w32 (i + 1) ∧ w32 (i + 1) < V7 1 1 0 then
              if 0 ≤ w32 (i + 2) ∧ w32 (i + 2) < V7 1 1 0 then
                if 0 ≤ w32 (i + 3) ∧ w32 (i + 3) < V7 1 1 0 then
                  if (V7 1 0 ((w32 (i + 3)).toNat)) = 0 then
                    ci (Yf d 241 [xr 14 0, xi (V7 1 0 ((w32 (i + 1)).toNat)), xi (V7 1 0 ((w32 (i + 2)).toNat)), xi 0] V7) (fun x10 V9 =>
                      if x8 = x10 then
                        Xf d 310 2403 [xr 1 0, xr 2 0, xr 14 0, xi i] [] V9
                      else
                        some (xi 0, V9))
                  else
                    ci (Yf d 241 [xr 14 0, xi (V7 1 0 ((w32 (i + 1)).toNat)), xi (V7 1 0 ((w32 (i + 2)).toNat)), xi 1] V7) (fun x12 V11 =>
                      if x8 = x12 then
                        Xf d 310 2403 [xr 1 0, xr 2 0, xr 14 0, xi i] [] V11
                      else
                        some (xi 0, V11))
                else
                  none
              else
                none
            else
              none)
      else
        none
    else
      none
  else
    none := Xx_es lwS P_L_law 5 _ _ _ V
set_option maxRecDepth 100000 in
theorem s_law_1075 (d : Nat) (V : XM) (i : Int) : Xf d 310 1075 [xr 1 0, xr 2 0, xr 14 0, xi i] [] V =
    if 0 ≤ w32 (i + 1) ∧ w32 (i + 1) < V 1 1 0 then
    if 0 ≤ w32 (i + 2) ∧ w32 (i + 2) < V 1 1 0 then
      ci (Yf d 145 [xr 2 0, xi (V 1 0 ((w32 (i + 1)).toNat)), xi (V 1 0 ((w32 (i + 2)).toNat))] V) (fun x2 V1 =>
        if 0 ≤ w32 (i + 1) ∧ w32 (i + 1) < V1 1 1 0 then
          if 0 ≤ w32 (i + 2) ∧ w32 (i + 2) < V1 1 1 0 then
            ci (Yf d 242 [xr 14 0, xi (V1 1 0 ((w32 (i + 1)).toNat)), xi (V1 1 0 ((w32 (i + 2)).toNat))] V1) (fun x4 V3 =>
              if x2 = x4 then
                Xf d 310 2403 [xr 1 0, xr 2 0, xr 14 0, xi i] [] V3
              else
                some (xi 0, V3))
          else
            none
        else
          none)
    else
      none
  else
    none := Xx_es lwS P_L_law 1 _ _ _ V
set_option maxRecDepth 100000 in
theorem s_law_1108 (d : Nat) (V : XM) (i : Int) : Xf d 310 1108 [xr 1 0, xr 2 0, xr 14 0, xi i] [] V =
    ci (Yf d 146 [xr 2 0] V) (fun x2 V1 =>
    ci (Yf d 249 [xr 14 0] V1) (fun x4 V3 =>
      if x2 = x4 then
        Xf d 310 2403 [xr 1 0, xr 2 0, xr 14 0, xi i] [] V3
      else
        some (xi 0, V3))) := Xx_es lwS P_L_law 1 _ _ _ V
set_option maxRecDepth 100000 in
theorem s_law_1121 (d : Nat) (V : XM) (i : Int) : Xf d 310 1121 [xr 1 0, xr 2 0, xr 14 0, xi i] [] V =
    if 0 ≤ w32 (i + 1) ∧ w32 (i + 1) < V 1 1 0 then
    cl (Yf d 147 [xr 2 0, xi (V 1 0 ((w32 (i + 1)).toNat))] V) (fun x2 V1 =>
      if 0 ≤ w32 (i + 1) ∧ w32 (i + 1) < V1 1 1 0 then
        cl (Yf d 250 [xr 14 0, xi (V1 1 0 ((w32 (i + 1)).toNat))] V1) (fun x4 V3 =>
          if (cmp3 x2 x4) = 0 then
            Xf d 310 2403 [xr 1 0, xr 2 0, xr 14 0, xi i] [] V3
          else
            some (xi 0, V3))
      else
        none)
  else
    none := Xx_es lwS P_L_law 1 _ _ _ V
set_option maxRecDepth 100000 in
theorem s_law_1145 (d : Nat) (V : XM) (i : Int) : Xf d 310 1145 [xr 1 0, xr 2 0, xr 14 0, xi i] [] V =
    if 0 ≤ w32 (i + 1) ∧ w32 (i + 1) < V 1 1 0 then
    ci (Yf d 148 [xr 2 0, xi (V 1 0 ((w32 (i + 1)).toNat))] V) (fun x2 V1 =>
      if 0 ≤ w32 (i + 1) ∧ w32 (i + 1) < V1 1 1 0 then
        ci (Yf d 259 [xr 14 0, xi (V1 1 0 ((w32 (i + 1)).toNat))] V1) (fun x4 V3 =>
          if x2 = x4 then
            Xf d 310 2403 [xr 1 0, xr 2 0, xr 14 0, xi i] [] V3
          else
            some (xi 0, V3))
      else
        none)
  else
    none := Xx_es lwS P_L_law 1 _ _ _ V
set_option maxRecDepth 100000 in
theorem s_law_1168 (d : Nat) (V : XM) (i : Int) : Xf d 310 1168 [xr 1 0, xr 2 0, xr 14 0, xi i] [] V =
    if 0 ≤ w32 (i + 1) ∧ w32 (i + 1) < V 1 1 0 then
    if 0 ≤ w32 (i + 2) ∧ w32 (i + 2) < V 1 1 0 then
      if 0 ≤ w32 (i + 3) ∧ w32 (i + 3) < V 1 1 0 then
        ci (Yf d 149 [xr 2 0, xi (V 1 0 ((w32 (i + 1)).toNat)), xi (V 1 0 ((w32 (i + 2)).toNat)), xi (V 1 0 ((w32 (i + 3)).toNat))] V) (fun x2 V1 =>
          if 0 ≤ w32 (i + 1) ∧ w32 (i + 1) < V1 1 1 0 then
            if 0 ≤ w32 (i + 2) ∧ w32 (i + 2) < V1 1 1 0 then
              if 0 ≤ w32 (i + 3) ∧ w32 (i + 3) < V1 1 1 0 then
                ci (Yf d 261 [xr 14 0, xi (V1 1 0 ((w32 (i + 1)).toNat)), xi (V1 1 0 ((w32 (i + 2)).toNat)), xi (V1 1 0 ((w32 (i + 3)).toNat))] V1) (fun x4 V3 =>
                  if x2 = x4 then
                    Xf d 310 2403 [xr 1 0, xr 2 0, xr 14 0, xi i] [] V3
                  else
                    some (xi 0, V3))
              else
                none
            else
              none
          else
            none)
      else
        none
    else
      none
  else
    none := Xx_es lwS P_L_law 1 _ _ _ V
set_option maxRecDepth 100000 in
theorem s_law_1211 (d : Nat) (V : XM) (i : Int) : Xf d 310 1211 [xr 1 0, xr 2 0, xr 14 0, xi i] [] V =
    if 0 ≤ w32 (i + 1) ∧ w32 (i + 1) < V 1 1 0 then
    if 0 ≤ w32 (i + 2) ∧ w32 (i + 2) < V 1 1 0 then
      if 0 ≤ w32 (i + 3) ∧ w32 (i + 3) < V 1 1 0 then
        ci (Yf d 150 [xr 2 0, xi (V 1 0 ((w32 (i + 1)).toNat)), xi (V 1 0 ((w32 (i + 2)).toNat)), xi (V 1 0 ((w32 (i + 3)).toNat))] V) (fun x2 V1 =>
          if 0 ≤ w32 (i + 1) ∧ w32 (i + 1) < V1 1 1 0 then
            if 0 ≤ w32 (i + 2) ∧ w32 (i + 2) < V1 1 1 0 then
              if 0 ≤ w32 (i + 3) ∧ w32 (i + 3) < V1 1 1 0 then
                ci (Yf d 262 [xr 14 0, xi (V1 1 0 ((w32 (i + 1)).toNat)), xi (V1 1 0 ((w32 (i + 2)).toNat)), xi (V1 1 0 ((w32 (i + 3)).toNat))] V1) (fun x4 V3 =>
                  if x2 = x4 then
                    Xf d 310 2403 [xr 1 0, xr 2 0, xr 14 0, xi i] [] V3
                  else
                    some (xi 0, V3))
              else
                none
            else
              none
          else
            none)
      else
        none
    else
      none
  else
    none := Xx_es lwS P_L_law 1 _ _ _ V
set_option maxRecDepth 100000 in
theorem s_law_1254 (d : Nat) (V : XM) (i : Int) : Xf d 310 1254 [xr 1 0, xr 2 0, xr 14 0, xi i] [] V =
    if 0 ≤ w32 (i + 1) ∧ w32 (i + 1) < V 1 1 0 then
    if 0 ≤ w32 (i + 2) ∧ w32 (i + 2) < V 1 1 0 then
      if 0 ≤ w32 (i + 3) ∧ w32 (i + 3) < V 1 1 0 then
        ci (Yf d 151 [xr 2 0, xi (V 1 0 ((w32 (i + 1)).toNat)), xi (V 1 0 ((w32 (i + 2)).toNat)), xi (V 1 0 ((w32 (i + 3)).toNat))] V) (fun x2 V1 =>
          if 0 ≤ w32 (i + 1) ∧ w32 (i + 1) < V1 1 1 0 then
            if 0 ≤ w32 (i + 2) ∧ w32 (i + 2) < V1 1 1 0 then
              if 0 ≤ w32 (i + 3) ∧ w32 (i + 3) < V1 1 1 0 then
                ci (Yf d 263 [xr 14 0, xi (V1 1 0 ((w32 (i + 1)).toNat)), xi (V1 1 0 ((w32 (i + 2)).toNat)), xi (V1 1 0 ((w32 (i + 3)).toNat))] V1) (fun x4 V3 =>
                  if x2 = x4 then
                    Xf d 310 2403 [xr 1 0, xr 2 0, xr 14 0, xi i] [] V3
                  else
                    some (xi 0, V3))
              else
                none
            else
              none
          else
            none)
      else
        none
    else
      none
  else
    none := Xx_es lwS P_L_law 1 _ _ _ V
set_option maxRecDepth 100000 in
theorem s_law_1297 (d : Nat) (V : XM) (i : Int) : Xf d 310 1297 [xr 1 0, xr 2 0, xr 14 0, xi i] [] V =
    if 0 ≤ w32 (i + 1) ∧ w32 (i + 1) < V 1 1 0 then
    if 0 ≤ w32 (i + 2) ∧ w32 (i + 2) < V 1 1 0 then
      if 0 ≤ w32 (i + 3) ∧ w32 (i + 3) < V 1 1 0 then
        ci (Yf d 152 [xr 2 0, xi (V 1 0 ((w32 (i + 1)).toNat)), xi (V 1 0 ((w32 (i + 2)).toNat)), xi (V 1 0 ((w32 (i + 3)).toNat))] V) (fun x2 V1 =>
          if 0 ≤ w32 (i + 1) ∧ w32 (i + 1) < V1 1 1 0 then
            if 0 ≤ w32 (i + 2) ∧ w32 (i + 2) < V1 1 1 0 then
              if 0 ≤ w32 (i + 3) ∧ w32 (i + 3) < V1 1 1 0 then
                ci (Yf d 266 [xr 14 0, xi (V1 1 0 ((w32 (i + 1)).toNat)), xi (V1 1 0 ((w32 (i + 2)).toNat)), xi (V1 1 0 ((w32 (i + 3)).toNat))] V1) (fun x4 V3 =>
                  if x2 = x4 then
                    Xf d 310 2403 [xr 1 0, xr 2 0, xr 14 0, xi i] [] V3
                  else
                    some (xi 0, V3))
              else
                none
            else
              none
          else
            none)
      else
        none
    else
      none
  else
    none := Xx_es lwS P_L_law 1 _ _ _ V
set_option maxRecDepth 100000 in
theorem s_law_1340 (d : Nat) (V : XM) (i : Int) : Xf d 310 1340 [xr 1 0, xr 2 0, xr 14 0, xi i] [] V =
    if 0 ≤ w32 (i + 1) ∧ w32 (i + 1) < V 1 1 0 then
    if 0 ≤ w32 (i + 2) ∧ w32 (i + 2) < V 1 1 0 then
      if 0 ≤ w32 (i + 3) ∧ w32 (i + 3) < V 1 1 0 then
        ci (Yf d 153 [xr 2 0, xi (V 1 0 ((w32 (i + 1)).toNat)), xi (V 1 0 ((w32 (i + 2)).toNat)), xi (V 1 0 ((w32 (i + 3)).toNat))] V) (fun x2 V1 =>
          if 0 ≤ w32 (i + 1) ∧ w32 (i + 1) < V1 1 1 0 then
            if 0 ≤ w32 (i + 2) ∧ w32 (i + 2) < V1 1 1 0 then
              if 0 ≤ w32 (i + 3) ∧ w32 (i + 3) < V1 1 1 0 then
                ci (Yf d 267 [xr 14 0, xi (V1 1 0 ((w32 (i + 1)).toNat)), xi (V1 1 0 ((w32 (i + 2)).toNat)), xi (V1 1 0 ((w32 (i + 3)).toNat))] V1) (fun x4 V3 =>
                  if x2 = x4 then
                    Xf d 310 2403 [xr 1 0, xr 2 0, xr 14 0, xi i] [] V3
                  else
                    some (xi 0, V3))
              else
                none
            else
              none
          else
            none)
      else
        none
    else
      none
  else
    none := Xx_es lwS P_L_law 1 _ _ _ V
set_option maxRecDepth 100000 in
theorem s_law_1383 (d : Nat) (V : XM) (i : Int) : Xf d 310 1383 [xr 1 0, xr 2 0, xr 14 0, xi i] [] V =
    if 0 ≤ w32 (i + 1) ∧ w32 (i + 1) < V 1 1 0 then
    if 0 ≤ w32 (i + 2) ∧ w32 (i + 2) < V 1 1 0 then
      if 0 ≤ w32 (i + 3) ∧ w32 (i + 3) < V 1 1 0 then
        ci (Yf d 155 [xr 2 0, xi (V 1 0 ((w32 (i + 1)).toNat)), xi (V 1 0 ((w32 (i + 2)).toNat)), xi (V 1 0 ((w32 (i + 3)).toNat))] V) (fun x2 V1 =>
          if 0 ≤ w32 (i + 1) ∧ w32 (i + 1) < V1 1 1 0 then
            if 0 ≤ w32 (i + 2) ∧ w32 (i + 2) < V1 1 1 0 then
              if 0 ≤ w32 (i + 3) ∧ w32 (i + 3) < V1 1 1 0 then
                ci (Yf d 270 [xr 14 0, xi (V1 1 0 ((w32 (i + 1)).toNat)), xi (V1 1 0 ((w32 (i + 2)).toNat)), xi (V1 1 0 ((w32 (i + 3)).toNat))] V1) (fun x4 V3 =>
                  if x2 = x4 then
                    Xf d 310 2403 [xr 1 0, xr 2 0, xr 14 0, xi i] [] V3
                  else
                    some (xi 0, V3))
              else
                none
            else
              none
          else
            none)
      else
        none
    else
      none
  else
    none := Xx_es lwS P_L_law 1 _ _ _ V
set_option maxRecDepth 100000 in
theorem s_law_1426 (d : Nat) (V : XM) (i : Int) : Xf d 310 1426 [xr 1 0, xr 2 0, xr 14 0, xi i] [] V =
    if 0 ≤ w32 (i + 1) ∧ w32 (i + 1) < V 1 1 0 then
    if 0 ≤ w32 (i + 2) ∧ w32 (i + 2) < V 1 1 0 then
      if 0 ≤ w32 (i + 3) ∧ w32 (i + 3) < V 1 1 0 then
        if 0 ≤ w32 (i + 4) ∧ w32 (i + 4) < V 1 1 0 then
          ci (Yf d 156 [xr 2 0, xi (V 1 0 ((w32 (i + 1)).toNat)), xi (V 1 0 ((w32 (i + 2)).toNat)), xi (V 1 0 ((w32 (i + 3)).toNat)), xi (V 1 0 ((w32 (i + 4)).toNat))] V) (fun x2 V1 =>
            if 0 ≤ w32 (i + 1) ∧ w32 (i + 1) < V1 1 1 0 then
              if 0 ≤ w32 (i + 2) ∧ w32 (i + 2) < V1 1 1 0 then
                if 0 ≤ w32 (i + 3) ∧ w32 (i + 3) < V1 1 1 0 then
                  if 0 ≤ w32 (i + 4) ∧ w32 (i + 4) < V1 1 1 0 then
                    ci (Yf d 271 [xr 14 0, xi (V1 1 0 ((w32 (i + 1)).toNat)), xi (V1 1 0 ((w32 (i + 2)).toNat)), xi (V1 1 0 ((w32 (i + 3)).toNat)), xi (V1 1 0 ((w32 (i + 4)).toNat))] V1) (fun x4 V3 =>
                      if x2 = x4 then
                        Xf d 310 2403 [xr 1 0, xr 2 0, xr 14 0, xi i] [] V3
                      else
                        some (xi 0, V3))
                  else
                    none
                else
                  none
              else
                none
            else
              none)
        else
          none
      else
        none
    else
      none
  else
    none := Xx_es lwS P_L_law 1 _ _ _ V
set_option maxRecDepth 100000 in
theorem s_law_1479 (d : Nat) (V : XM) (i : Int) : Xf d 310 1479 [xr 1 0, xr 2 0, xr 14 0, xi i] [] V =
    if 0 ≤ w32 (i + 1) ∧ w32 (i + 1) < V 1 1 0 then
    if 0 ≤ w32 (i + 2) ∧ w32 (i + 2) < V 1 1 0 then
      ci (Yf d 157 [xr 2 0, xi (V 1 0 ((w32 (i + 1)).toNat)), xi (V 1 0 ((w32 (i + 2)).toNat))] V) (fun x2 V1 =>
        if 0 ≤ w32 (i + 1) ∧ w32 (i + 1) < V1 1 1 0 then
          if 0 ≤ w32 (i + 2) ∧ w32 (i + 2) < V1 1 1 0 then
            ci (Yf d 272 [xr 14 0, xi (V1 1 0 ((w32 (i + 1)).toNat)), xi (V1 1 0 ((w32 (i + 2)).toNat))] V1) (fun x4 V3 =>
              if x2 = x4 then
                Xf d 310 2403 [xr 1 0, xr 2 0, xr 14 0, xi i] [] V3
              else
                some (xi 0, V3))
          else
            none
        else
          none)
    else
      none
  else
    none := Xx_es lwS P_L_law 1 _ _ _ V
set_option maxRecDepth 100000 in
theorem s_law_1512 (d : Nat) (V : XM) (i : Int) : Xf d 310 1512 [xr 1 0, xr 2 0, xr 14 0, xi i] [] V =
    if 0 ≤ w32 (i + 1) ∧ w32 (i + 1) < V 1 1 0 then
    if 0 ≤ w32 (i + 2) ∧ w32 (i + 2) < V 1 1 0 then
      ci (Yf d 158 [xr 2 0, xi (V 1 0 ((w32 (i + 1)).toNat)), xi (V 1 0 ((w32 (i + 2)).toNat))] V) (fun x2 V1 =>
        if 0 ≤ w32 (i + 1) ∧ w32 (i + 1) < V1 1 1 0 then
          if 0 ≤ w32 (i + 2) ∧ w32 (i + 2) < V1 1 1 0 then
            ci (Yf d 273 [xr 14 0, xi (V1 1 0 ((w32 (i + 1)).toNat)), xi (V1 1 0 ((w32 (i + 2)).toNat))] V1) (fun x4 V3 =>
              if x2 = x4 then
                Xf d 310 2403 [xr 1 0, xr 2 0, xr 14 0, xi i] [] V3
              else
                some (xi 0, V3))
          else
            none
        else
          none)
    else
      none
  else
    none := Xx_es lwS P_L_law 1 _ _ _ V
set_option maxRecDepth 100000 in
theorem s_law_1545 (d : Nat) (V : XM) (i : Int) : Xf d 310 1545 [xr 1 0, xr 2 0, xr 14 0, xi i] [] V =
    if 0 ≤ w32 (i + 1) ∧ w32 (i + 1) < V 1 1 0 then
    if 0 ≤ w32 (i + 2) ∧ w32 (i + 2) < V 1 1 0 then
      if 0 ≤ w32 (i + 3) ∧ w32 (i + 3) < V 1 1 0 then
        if (V 1 0 ((w32 (i + 3)).toNat)) = 0 then
          ci (Yf d 159 [xr 2 0, xi (V 1 0 ((w32 (i + 1)).toNat)), xi (V 1 0 ((w32 (i + 2)).toNat)), xi 0] V) (fun x2 V1 =>
            if 0 ≤ w32 (i + 1) ∧ w32 (i + 1) < V1 1 1 0 then
              if 0 ≤ w32 (i + 2) ∧ w32 (i + 2) < V1 1 1 0 then
                if 0 ≤ w32 (i + 3) ∧ w32 (i + 3) < V1 1 1 0 then
                  if (V1 1 0 ((w32 (i + 3)).toNat)) = 0 then
                    ci (Yf d 276 [xr 14 0, xi (V1 1 0 ((w32 (i + 1)).toNat)), xi (V1 1 0 ((w32 (i + 2)).toNat)), xi 0] V1) (fun x4 V3 =>
                      if x2 = x4 then
                        Xf d 310 2403 [xr 1 0, xr 2 0, xr 14 0, xi i] [] V3
                      else
                        some (xi 0, V3))
                  else
                    ci (Yf d 276 [xr 14 0, xi (V1 1 0 ((w32 (i + 1)).toNat)), xi (V1 1 0 ((w32 (i + 2)).toNat)), xi 1] V1) (fun x6 V5 =>
                      if x2 = x6 then
                        Xf d 310 2403 [xr 1 0, xr 2 0, xr 14 0, xi i] [] V5
                      else
                        some (xi 0, V5))
                else
                  none
              else
                none
            else
              none)
        else
          ci (Yf d 159 [xr 2 0, xi (V 1 0 ((w32 (i + 1)).toNat)), xi (V 1 0 ((w32 (i + 2)).toNat)), xi 1] V) (fun x8 V7 =>
            if 0 ≤ w32 (i + 1) ∧ w32 (i + 1) < V7 1 1 0 then
              if 0 ≤ w32 (i + 2) ∧ w32 (i + 2) < V7 1 1 0 then
                if 0 ≤ w32 (i + 3) ∧ w32 (i + 3) < V7 1 1 0 then
                  if (V7 1 0 ((w32 (i + 3)).toNat)) = 0 then
                    ci (Yf d 276 [xr 14 0, xi (V7 1 0 ((w32 (i + 1)).toNat)), xi (V7 1 0 ((w32 (i + 2)).toNat)), xi 0] V7) (fun x10 V9 =>
                      if x8 = x10 then
                        Xf d 310 2403 [xr 1 0, xr 2 0, xr 14 0, xi i] [] V9
                      else
                        some (xi 0, V9))
                  else
                    ci (Yf d 276 [xr 14 0, xi (V7 1 0 ((w32 (i + 1)).toNat)), xi (V7 1 0 ((w32 (i + 2)).toNat)), xi 1] V7) (fun x12 V11 =>
                      if x8 = x12 then
                        Xf d 310 2403 [xr 1 0, xr 2 0, xr 14 0, xi i] [] V11
                      else
                        some (xi 0, V11))
                else
                  none
              else
                none
            else
              none)
      else
        none
    else
      none
  else
    none := Xx_es lwS P_L_law 5 _ _ _ V
set_option maxRecDepth 100000 in
theorem s_law_1604 (d : Nat) (V : XM) (i : Int) : Xf d 310 1604 [xr 1 0, xr 2 0, xr 14 0, xi i] [] V =
    if 0 ≤ w32 (i + 1) ∧ w32 (i + 1) < V 1 1 0 then
    if 0 ≤ w32 (i + 2) ∧ w32 (i + 2) < V 1 1 0 then
      if 0 ≤ w32 (i + 3) ∧ w32 (i + 3) < V 1 1 0 then
        if (V 1 0 ((w32 (i + 3)).toNat)) = 0 then
          ci (Yf d 160 [xr 2 0, xi (V 1 0 ((w32 (i + 1)).toNat)), xi (V 1 0 ((w32 (i + 2)).toNat)), xi 0] V) (fun x2 V1 =>
            if 0 ≤ w32 (i + 1) ∧ w32 (i + 1) < V1 1 1 0 then
              if 0 ≤ w32 (i + 2) ∧ w32 (i + 2) < V1 1 1 0 then
                if 0 ≤ w32 (i + 3) ∧ w32 (i + 3) < V1 1 1 0 then
                  if (V1 1 0 ((w32 (i + 3)).toNat)) = 0 then
                    ci (Yf d 277 [xr 14 0, xi (V1 1 0 ((w32 (i + 1)).toNat)), xi (V1 1 0 ((w32 (i + 2)).toNat)), xi 0] V1) (fun x4 V3 =>
                      if x2 = x4 then
                        Xf d 310 2403 [xr 1 0, xr 2 0, xr 14 0, xi i] [] V3
                      else
                        some (xi 0, V3))
                  else
                    ci (Yf d 277 [xr 14 0, xi (V1 1 0 ((w32 (i + 1)).toNat)), xi (V1 1 0 ((w32 (i + 2)).toNat)), xi 1] V1) (fun x6 V5 =>
                      if x2 = x6 then
                        Xf d 310 2403 [xr 1 0, xr 2 0, xr 14 0, xi i] [] V5
                      else
                        some (xi 0, V5))
                else
                  none
              else
                none
            else
              none)
        else
          ci (Yf d 160 [xr 2 0, xi (V 1 0 ((w32 (i + 1)).toNat)), xi (V 1 0 ((w32 (i + 2)).toNat)), xi 1] V) (fun x8 V7 =>
            if 0 ≤ w32 (i + 1) ∧ w32 (i + 1) < V7 1 1 0 then
              if 0 ≤ w32 (i + 2) ∧ w32 (i + 2) < V7 1 1 0 then
                if 0 ≤ w32 (i + 3) ∧ w32 (i + 3) < V7 1 1 0 then
                  if (V7 1 0 ((w32 (i + 3)).toNat)) = 0 then
                    ci (Yf d 277 [xr 14 0, xi (V7 1 0 ((w32 (i + 1)).toNat)), xi (V7 1 0 ((w32 (i + 2)).toNat)), xi 0] V7) (fun x10 V9 =>
                      if x8 = x10 then
                        Xf d 310 2403 [xr 1 0, xr 2 0, xr 14 0, xi i] [] V9
                      else
                        some (xi 0, V9))
                  else
                    ci (Yf d 277 [xr 14 0, xi (V7 1 0 ((w32 (i + 1)).toNat)), xi (V7 1 0 ((w32 (i + 2)).toNat)), xi 1] V7) (fun x12 V11 =>
                      if x8 = x12 then
                        Xf d 310 2403 [xr 1 0, xr 2 0, xr 14 0, xi i] [] V11
                      else
                        some (xi 0, V11))
                else
                  none
              else
                none
            else
              none)
      else
        none
    else
      none
  else
    none := Xx_es lwS P_L_law 5 _ _ _ V
set_option maxRecDepth 100000 in
theorem s_law_1663 (d : Nat) (V : XM) (i : Int) : Xf d 310 1663 [xr 1 0, xr 2 0, xr 14 0, xi i] [] V =
    if 0 ≤ w32 (i + 1) ∧ w32 (i + 1) < V 1 1 0 then
    if 0 ≤ w32 (i + 2) ∧ w32 (i + 2) < V 1 1 0 then
      ci (Yf d 161 [xr 2 0, xi (V 1 0 ((w32 (i + 1)).toNat)), xi (V 1 0 ((w32 (i + 2)).toNat))] V) (fun x2 V1 =>
        if 0 ≤ w32 (i + 1) ∧ w32 (i + 1) < V1 1 1 0 then
          if 0 ≤ w32 (i + 2) ∧ w32 (i + 2) < V1 1 1 0 then
            ci (Yf d 280 [xr 14 0, xi (V1 1 0 ((w32 (i + 1)).toNat)), xi (V1 1 0 ((w32 (i + 2)).toNat))] V1) (fun x4 V3 =>
              if x2 = x4 then
                Xf d 310 2403 [xr 1 0, xr 2 0, xr 14 0, xi i] [] V3
              else
                some (xi 0, V3))
          else
            none
        else
          none)
    else
      none
  else
    none := Xx_es lwS P_L_law 1 _ _ _ V
set_option maxRecDepth 100000 in
theorem s_law_1696 (d : Nat) (V : XM) (i : Int) : Xf d 310 1696 [xr 1 0, xr 2 0, xr 14 0, xi i] [] V =
    if 0 ≤ w32 (i + 1) ∧ w32 (i + 1) < V 1 1 0 then
    if 0 ≤ w32 (i + 2) ∧ w32 (i + 2) < V 1 1 0 then
      if 0 ≤ w32 (i + 3) ∧ w32 (i + 3) < V 1 1 0 then
        ci (Yf d 162 [xr 2 0, xi (V 1 0 ((w32 (i + 1)).toNat)), xi (V 1 0 ((w32 (i + 2)).toNat)), xi (V 1 0 ((w32 (i + 3)).toNat))] V) (fun x2 V1 =>
          if 0 ≤ w32 (i + 1) ∧ w32 (i + 1) < V1 1 1 0 then
            if 0 ≤ w32 (i + 2) ∧ w32 (i + 2) < V1 1 1 0 then
              if 0 ≤ w32 (i + 3) ∧ w32 (i + 3) < V1 1 1 0 then
                ci (Yf d 281 [xr 14 0, xi (V1 1 0 ((w32 (i + 1)).toNat)), xi (V1 1 0 ((w32 (i + 2)).toNat)), xi (V1 1 0 ((w32 (i + 3)).toNat))] V1) (fun x4 V3 =>
                  if x2 = x4 then
                    Xf d 310 2403 [xr 1 0, xr 2 0, xr 14 0, xi i] [] V3
                  else
                    some (xi 0, V3))
              else
                none
            else
              none
          else
            none)
      else
        none
    else
      none
  else
    none := Xx_es lwS P_L_law 1 _ _ _ V
set_option maxRecDepth 100000 in
theorem s_law_1739 (d : Nat) (V : XM) (i : Int) : Xf d 310 1739 [xr 1 0, xr 2 0, xr 14 0, xi i] [] V =
    if 0 ≤ w32 (i + 1) ∧ w32 (i + 1) < V 1 1 0 then
    if 0 ≤ w32 (i + 2) ∧ w32 (i + 2) < V 1 1 0 then
      ci (Yf d 164 [xr 2 0, xi (V 1 0 ((w32 (i + 1)).toNat)), xi (V 1 0 ((w32 (i + 2)).toNat))] V) (fun x2 V1 =>
        if 0 ≤ w32 (i + 1) ∧ w32 (i + 1) < V1 1 1 0 then
          if 0 ≤ w32 (i + 2) ∧ w32 (i + 2) < V1 1 1 0 then
            ci (Yf d 282 [xr 14 0, xi (V1 1 0 ((w32 (i + 1)).toNat)), xi (V1 1 0 ((w32 (i + 2)).toNat))] V1) (fun x4 V3 =>
              if x2 = x4 then
                Xf d 310 2403 [xr 1 0, xr 2 0, xr 14 0, xi i] [] V3
              else
                some (xi 0, V3))
          else
            none
        else
          none)
    else
      none
  else
    none := Xx_es lwS P_L_law 1 _ _ _ V
set_option maxRecDepth 100000 in
theorem s_law_1772 (d : Nat) (V : XM) (i : Int) : Xf d 310 1772 [xr 1 0, xr 2 0, xr 14 0, xi i] [] V =
    if 0 ≤ w32 (i + 1) ∧ w32 (i + 1) < V 1 1 0 then
    if 0 ≤ w32 (i + 2) ∧ w32 (i + 2) < V 1 1 0 then
      if 0 ≤ w32 (i + 3) ∧ w32 (i + 3) < V 1 1 0 then
        if 0 ≤ w32 (i + 4) ∧ w32 (i + 4) < V 1 1 0 then
          if 0 ≤ w32 (i + 5) ∧ w32 (i + 5) < V 1 1 0 then
            ci (Yf d 165 [xr 2 0, xi (V 1 0 ((w32 (i + 1)).toNat)), xi (V 1 0 ((w32 (i + 2)).toNat)), xi (V 1 0 ((w32 (i + 3)).toNat)), xi (V 1 0 ((w32 (i + 4)).toNat)), xi (V 1 0 ((w32 (i + 5)).toNat))] V) (fun x2 V1 =>
              if 0 ≤ w32 (i + 1) ∧ w32 (i + 1) < V1 1 1 0 then
                if 0 ≤ w32 (i + 2) ∧ w32 (i + 2) < V1 1 1 0 then
                  if 0 ≤ w32 (i + 3) ∧ w32 (i + 3) < V1 1 1 0 then
                    if 0 ≤ w32 (i + 4) ∧ w32 (i + 4) < V1 1 1 0 then
                      if 0 ≤ w32 (i + 5) ∧ w32 (i + 5) < V1 1 1 0 then
                        ci (Yf d 283 [xr 14 0, xi (V1 1 0 ((w32 (i + 1)).toNat)), xi (V1 1 0 ((w32 (i + 2)).toNat)), xi (V1 1 0 ((w32 (i + 3)).toNat)), xi (V1 1 0 ((w32 (i + 4)).toNat)), xi (V1 1 0 ((w32 (i + 5)).toNat))] V1) (fun x4 V3 =>
                          if x2 = x4 then
                            Xf d 310 2403 [xr 1 0, xr 2 0, xr 14 0, xi i] [] V3
                          else
                            some (xi 0, V3))
                      else
                        none
                    else
                      none
                  else
                    none
                else
                  none
              else
                none)
          else
            none
        else
          none
      else
        none
    else
      none
  else
    none := Xx_es lwS P_L_law 1 _ _ _ V
set_option maxRecDepth 100000 in
theorem s_law_1835 (d : Nat) (V : XM) (i : Int) : Xf d 310 1835 [xr 1 0, xr 2 0, xr 14 0, xi i] [] V =
    ci (Yf d 166 [xr 2 0] V) (fun x2 V1 =>
    ci (Yf d 284 [xr 14 0] V1) (fun x4 V3 =>
      if x2 = x4 then
        Xf d 310 2403 [xr 1 0, xr 2 0, xr 14 0, xi i] [] V3
      else
        some (xi 0, V3))) := Xx_es lwS P_L_law 1 _ _ _ V
set_option maxRecDepth 100000 in
theorem s_law_1848 (d : Nat) (V : XM) (i : Int) : Xf d 310 1848 [xr 1 0, xr 2 0, xr 14 0, xi i] [] V =
    if 0 ≤ w32 (i + 1) ∧ w32 (i + 1) < V 1 1 0 then
    if 0 ≤ w32 (i + 2) ∧ w32 (i + 2) < V 1 1 0 then
      if 0 ≤ w32 (i + 3) ∧ w32 (i + 3) < V 1 1 0 then
        ci (Yf d 167 [xr 2 0, xi (V 1 0 ((w32 (i + 1)).toNat)), xi (V 1 0 ((w32 (i + 2)).toNat)), xi (V 1 0 ((w32 (i + 3)).toNat))] V) (fun x2 V1 =>
          if 0 ≤ w32 (i + 1) ∧ w32 (i + 1) < V1 1 1 0 then
            if 0 ≤ w32 (i + 2) ∧ w32 (i + 2) < V1 1 1 0 then
              if 0 ≤ w32 (i + 3) ∧ w32 (i + 3) < V1 1 1 0 then
                ci (Yf d 286 [xr 14 0, xi (V1 1 0 ((w32 (i + 1)).toNat)), xi (V1 1 0 ((w32 (i + 2)).toNat)), xi (V1 1 0 ((w32 (i + 3)).toNat))] V1) (fun x4 V3 =>
                  if x2 = x4 then
                    Xf d 310 2403 [xr 1 0, xr 2 0, xr 14 0, xi i] [] V3
                  else
                    some (xi 0, V3))
              else
                none
            else
              none
          else
            none)
      else
        none
    else
      none
  else
    none := Xx_es lwS P_L_law 1 _ _ _ V
set_option maxRecDepth 100000 in
theorem s_law_1891 (d : Nat) (V : XM) (i : Int) : Xf d 310 1891 [xr 1 0, xr 2 0, xr 14 0, xi i] [] V =
    if 0 ≤ w32 (i + 1) ∧ w32 (i + 1) < V 1 1 0 then
    if 0 ≤ w32 (i + 2) ∧ w32 (i + 2) < V 1 1 0 then
      if 0 ≤ w32 (i + 3) ∧ w32 (i + 3) < V 1 1 0 then
        if 0 ≤ w32 (i + 4) ∧ w32 (i + 4) < V 1 1 0 then
          if 0 ≤ w32 (i + 5) ∧ w32 (i + 5) < V 1 1 0 then
            ci (Yf d 169 [xr 2 0, xi (V 1 0 ((w32 (i + 1)).toNat)), xi (V 1 0 ((w32 (i + 2)).toNat)), xi (V 1 0 ((w32 (i + 3)).toNat)), xl (lOr (lShl (V 1 0 ((w32 (i + 4)).toNat)) 32) (lAnd (V 1 0 ((w32 (i + 5)).toNat)) 4294967295))] V) (fun x2 V1 =>
              if 0 ≤ w32 (i + 1) ∧ w32 (i + 1) < V1 1 1 0 then
                if 0 ≤ w32 (i + 2) ∧ w32 (i + 2) < V1 1 1 0 then
                  if 0 ≤ w32 (i + 3) ∧ w32 (i + 3) < V1 1 1 0 then
                    if 0 ≤ w32 (i + 4) ∧ w32 (i + 4) < V1 1 1 0 then
                      if 0 ≤ w32 (i + 5) ∧ w32 (i + 5) < V1 1 1 0 then
                        ci (Yf d 290 [xr 14 0, xi (V1 1 0 ((w32 (i + 1)).toNat)), xi (V1 1 0 ((w32 (i + 2)).toNat)), xi (V1 1 0 ((w32 (i + 3)).toNat)), xl (lOr (lShl (V1 1 0 ((w32 (i + 4)).toNat)) 32) (lAnd (V1 1 0 ((w32 (i + 5)).toNat)) 4294967295))] V1) (fun x4 V3 =>
                          if x2 = x4 then
                            Xf d 310 2403 [xr 1 0, xr 2 0, xr 14 0, xi i] [] V3
                          else
                            some (xi 0, V3))
                      else
                        none
                    else
                      none
                  else
                    none
                else
                  none
              else
                none)
          else
            none
        else
          none
      else
        none
    else
      none
  else
    none := Xx_es lwS P_L_law 1 _ _ _ V
set_option maxRecDepth 100000 in
theorem s_law_1974 (d : Nat) (V : XM) (i : Int) : Xf d 310 1974 [xr 1 0, xr 2 0, xr 14 0, xi i] [] V =
    if 0 ≤ w32 (i + 1) ∧ w32 (i + 1) < V 1 1 0 then
    if 0 ≤ w32 (i + 2) ∧ w32 (i + 2) < V 1 1 0 then
      if 0 ≤ w32 (i + 3) ∧ w32 (i + 3) < V 1 1 0 then
        ci (Yf d 170 [xr 2 0, xi (V 1 0 ((w32 (i + 1)).toNat)), xi (V 1 0 ((w32 (i + 2)).toNat)), xi (V 1 0 ((w32 (i + 3)).toNat))] V) (fun x2 V1 =>
          if 0 ≤ w32 (i + 1) ∧ w32 (i + 1) < V1 1 1 0 then
            if 0 ≤ w32 (i + 2) ∧ w32 (i + 2) < V1 1 1 0 then
              if 0 ≤ w32 (i + 3) ∧ w32 (i + 3) < V1 1 1 0 then
                ci (Yf d 291 [xr 14 0, xi (V1 1 0 ((w32 (i + 1)).toNat)), xi (V1 1 0 ((w32 (i + 2)).toNat)), xi (V1 1 0 ((w32 (i + 3)).toNat))] V1) (fun x4 V3 =>
                  if x2 = x4 then
                    Xf d 310 2403 [xr 1 0, xr 2 0, xr 14 0, xi i] [] V3
                  else
                    some (xi 0, V3))
              else
                none
            else
              none
          else
            none)
      else
        none
    else
      none
  else
    none := Xx_es lwS P_L_law 1 _ _ _ V
set_option maxRecDepth 100000 in
theorem s_law_2017 (d : Nat) (V : XM) (i : Int) : Xf d 310 2017 [xr 1 0, xr 2 0, xr 14 0, xi i] [] V =
    if 0 ≤ w32 (i + 1) ∧ w32 (i + 1) < V 1 1 0 then
    if 0 ≤ w32 (i + 2) ∧ w32 (i + 2) < V 1 1 0 then
      if 0 ≤ w32 (i + 3) ∧ w32 (i + 3) < V 1 1 0 then
        cl (Yf d 171 [xr 2 0, xi (V 1 0 ((w32 (i + 1)).toNat)), xi (V 1 0 ((w32 (i + 2)).toNat)), xi (V 1 0 ((w32 (i + 3)).toNat))] V) (fun x2 V1 =>
          if 0 ≤ w32 (i + 1) ∧ w32 (i + 1) < V1 1 1 0 then
            if 0 ≤ w32 (i + 2) ∧ w32 (i + 2) < V1 1 1 0 then
              if 0 ≤ w32 (i + 3) ∧ w32 (i + 3) < V1 1 1 0 then
                cl (Yf d 292 [xr 14 0, xi (V1 1 0 ((w32 (i + 1)).toNat)), xi (V1 1 0 ((w32 (i + 2)).toNat)), xi (V1 1 0 ((w32 (i + 3)).toNat))] V1) (fun x4 V3 =>
                  if (cmp3 x2 x4) = 0 then
                    Xf d 310 2403 [xr 1 0, xr 2 0, xr 14 0, xi i] [] V3
                  else
                    some (xi 0, V3))
              else
                none
            else
              none
          else
            none)
      else
        none
    else
      none
  else
    none := Xx_es lwS P_L_law 1 _ _ _ V
set_option maxRecDepth 100000 in
theorem s_law_2061 (d : Nat) (V : XM) (i : Int) : Xf d 310 2061 [xr 1 0, xr 2 0, xr 14 0, xi i] [] V =
    if 0 ≤ w32 (i + 1) ∧ w32 (i + 1) < V 1 1 0 then
    if 0 ≤ w32 (i + 2) ∧ w32 (i + 2) < V 1 1 0 then
      if 0 ≤ w32 (i + 3) ∧ w32 (i + 3) < V 1 1 0 then
        if 0 ≤ w32 (i + 4) ∧ w32 (i + 4) < V 1 1 0 then
          if 0 ≤ w32 (i + 5) ∧ w32 (i + 5) < V 1 1 0 then
            ci (Yf d 172 [xr 2 0, xi (V 1 0 ((w32 (i + 1)).toNat)), xi (V 1 0 ((w32 (i + 2)).toNat)), xl (lOr (lShl (V 1 0 ((w32 (i + 3)).toNat)) 32) (lAnd (V 1 0 ((w32 (i + 4)).toNat)) 4294967295)), xi (V 1 0 ((w32 (i + 5)).toNat))] V) (fun x2 V1 =>
              if 0 ≤ w32 (i + 1) ∧ w32 (i + 1) < V1 1 1 0 then
                if 0 ≤ w32 (i + 2) ∧ w32 (i + 2) < V1 1 1 0 then
                  if 0 ≤ w32 (i + 3) ∧ w32 (i + 3) < V1 1 1 0 then
                    if 0 ≤ w32 (i + 4) ∧ w32 (i + 4) < V1 1 1 0 then
                      if 0 ≤ w32 (i + 5) ∧ w32 (i + 5) < V1 1 1 0 then
                        ci (Yf d 293 [xr 14 0, xi (V1 1 0 ((w32 (i + 1)).toNat)), xi (V1 1 0 ((w32 (i + 2)).toNat)), xl (lOr (lShl (V1 1 0 ((w32 (i + 3)).toNat)) 32) (lAnd (V1 1 0 ((w32 (i + 4)).toNat)) 4294967295)), xi (V1 1 0 ((w32 (i + 5)).toNat))] V1) (fun x4 V3 =>
                          if x2 = x4 then
                            Xf d 310 2403 [xr 1 0, xr 2 0, xr 14 0, xi i] [] V3
                          else
                            some (xi 0, V3))
                      else
                        none
                    else
                      none
                  else
                    none
                else
                  none
              else
                none)
          else
            none
        else
          none
      else
        none
    else
      none
  else
    none := Xx_es lwS P_L_law 1 _ _ _ V
set_option maxRecDepth 100000 in
theorem s_law_2144 (d : Nat) (V : XM) (i : Int) : Xf d 310 2144 [xr 1 0, xr 2 0, xr 14 0, xi i] [] V =
    if 0 ≤ w32 (i + 1) ∧ w32 (i + 1) < V 1 1 0 then
    if 0 ≤ w32 (i + 2) ∧ w32 (i + 2) < V 1 1 0 then
      if 0 ≤ w32 (i + 3) ∧ w32 (i + 3) < V 1 1 0 then
        if (V 1 0 ((w32 (i + 3)).toNat)) = 0 then
          ci (Yf d 173 [xr 2 0, xi (V 1 0 ((w32 (i + 1)).toNat)), xi (V 1 0 ((w32 (i + 2)).toNat)), xi 0] V) (fun x2 V1 =>
            if 0 ≤ w32 (i + 1) ∧ w32 (i + 1) < V1 1 1 0 then
              if 0 ≤ w32 (i + 2) ∧ w32 (i + 2) < V1 1 1 0 then
                if 0 ≤ w32 (i + 3) ∧ w32 (i + 3) < V1 1 1 0 then
                  if (V1 1 0 ((w32 (i + 3)).toNat)) = 0 then
                    ci (Yf d 295 [xr 14 0, xi (V1 1 0 ((w32 (i + 1)).toNat)), xi (V1 1 0 ((w32 (i + 2)).toNat)), xi 0] V1) (fun x4 V3 =>
                      if x2 = x4 then
                        Xf d 310 2403 [xr 1 0, xr 2 0, xr 14 0, xi i] [] V3
                      else
                        some (xi 0, V3))
                  else
                    ci (Yf d 295 [xr 14 0, xi (V1 1 0 ((w32 (i + 1)).toNat)), xi (V1 1 0 ((w32 (i + 2)).toNat)), xi 1] V1) (fun x6 V5 =>
                      if x2 = x6 then
                        Xf d 310 2403 [xr 1 0, xr 2 0, xr 14 0, xi i] [] V5
                      else
                        some (xi 0, V5))
                else
                  none
              else
                none
            else
              none)
        else
          ci (Yf d 173 [xr 2 0, xi (V 1 0 ((w32 (i + 1)).toNat)), xi (V 1 0 ((w32 (i + 2)).toNat)), xi 1] V) (fun x8 V7 =>
            if 0 ≤ w32 (i + 1) ∧ w32 (i + 1) < V7 1 1 0 then
              if 0 ≤ w32 (i + 2) ∧ w32 (i + 2) < V7 1 1 0 then
                if 0 ≤ w32 (i + 3) ∧ w32 (i + 3) < V7 1 1 0 then
                  if (V7 1 0 ((w32 (i + 3)).toNat)) = 0 then
                    ci (Yf d 295 [xr 14 0, xi (V7 1 0 ((w32 (i + 1)).toNat)), xi (V7 1 0 ((w32 (i + 2)).toNat)), xi 0] V7) (fun x10 V9 =>
                      if x8 = x10 then
                        Xf d 310 2403 [xr 1 0, xr 2 0, xr 14 0, xi i] [] V9
                      else
                        some (xi 0, V9))
                  else
                    ci (Yf d 295 [xr 14 0, xi (V7 1 0 ((w32 (i + 1)).toNat)), xi (V7 1 0 ((w32 (i + 2)).toNat)), xi 1] V7) (fun x12 V11 =>
                      if x8 = x12 then
                        Xf d 310 2403 [xr 1 0, xr 2 0, xr 14 0, xi i] [] V11
                      else
                        some (xi 0, V11))
                else
                  none
              else
                none
            else
              none)
      else
        none
    else
      none
  else
    none := Xx_es lwS P_L_law 5 _ _ _ V
set_option maxRecDepth 100000 in
theorem s_law_2203 (d : Nat) (V : XM) (i : Int) : Xf d 310 2203 [xr 1 0, xr 2 0, xr 14 0, xi i] [] V =
    if 0 ≤ w32 (i + 1) ∧ w32 (i + 1) < V 1 1 0 then
    if 0 ≤ w32 (i + 2) ∧ w32 (i + 2) < V 1 1 0 then
      cl (Yf d 174 [xr 2 0, xi (V 1 0 ((w32 (i + 1)).toNat)), xi (V 1 0 ((w32 (i + 2)).toNat))] V) (fun x2 V1 =>
        if 0 ≤ w32 (i + 1) ∧ w32 (i + 1) < V1 1 1 0 then
          if 0 ≤ w32 (i + 2) ∧ w32 (i + 2) < V1 1 1 0 then
            cl (Yf d 298 [xr 14 0, xi (V1 1 0 ((w32 (i + 1)).toNat)), xi (V1 1 0 ((w32 (i + 2)).toNat))] V1) (fun x4 V3 =>
              if (cmp3 x2 x4) = 0 then
                Xf d 310 2403 [xr 1 0, xr 2 0, xr 14 0, xi i] [] V3
              else
                some (xi 0, V3))
          else
            none
        else
          none)
    else
      none
  else
    none := Xx_es lwS P_L_law 1 _ _ _ V
set_option maxRecDepth 100000 in
theorem s_law_2237 (d : Nat) (V : XM) (i : Int) : Xf d 310 2237 [xr 1 0, xr 2 0, xr 14 0, xi i] [] V =
    if 0 ≤ w32 (i + 1) ∧ w32 (i + 1) < V 1 1 0 then
    if 0 ≤ w32 (i + 2) ∧ w32 (i + 2) < V 1 1 0 then
      cl (Yf d 175 [xr 2 0, xi (V 1 0 ((w32 (i + 1)).toNat)), xi (V 1 0 ((w32 (i + 2)).toNat))] V) (fun x2 V1 =>
        if 0 ≤ w32 (i + 1) ∧ w32 (i + 1) < V1 1 1 0 then
          if 0 ≤ w32 (i + 2) ∧ w32 (i + 2) < V1 1 1 0 then
            cl (Yf d 299 [xr 14 0, xi (V1 1 0 ((w32 (i + 1)).toNat)), xi (V1 1 0 ((w32 (i + 2)).toNat))] V1) (fun x4 V3 =>
              if (cmp3 x2 x4) = 0 then
                Xf d 310 2403 [xr 1 0, xr 2 0, xr 14 0, xi i] [] V3
              else
                some (xi 0, V3))
          else
            none
        else
          none)
    else
      none
  else
    none := Xx_es lwS P_L_law 1 _ _ _ V
set_option maxRecDepth 100000 in
theorem s_law_2271 (d : Nat) (V : XM) (i : Int) : Xf d 310 2271 [xr 1 0, xr 2 0, xr 14 0, xi i] [] V =
    ci (Yf d 176 [xr 2 0] V) (fun x2 V1 =>
    ci (Yf d 301 [xr 14 0] V1) (fun x4 V3 =>
      if x2 = x4 then
        Xf d 310 2403 [xr 1 0, xr 2 0, xr 14 0, xi i] [] V3
      else
        some (xi 0, V3))) := Xx_es lwS P_L_law 1 _ _ _ V
set_option maxRecDepth 100000 in
theorem s_law_2284 (d : Nat) (V : XM) (i : Int) : Xf d 310 2284 [xr 1 0, xr 2 0, xr 14 0, xi i] [] V =
    if 0 ≤ w32 (i + 1) ∧ w32 (i + 1) < V 1 1 0 then
    ci (Yf d 180 [xr 2 0, xi (V 1 0 ((w32 (i + 1)).toNat))] V) (fun x2 V1 =>
      if 0 ≤ w32 (i + 1) ∧ w32 (i + 1) < V1 1 1 0 then
        ci (Yf d 302 [xr 14 0, xi (V1 1 0 ((w32 (i + 1)).toNat))] V1) (fun x4 V3 =>
          if x2 = x4 then
            Xf d 310 2403 [xr 1 0, xr 2 0, xr 14 0, xi i] [] V3
          else
            some (xi 0, V3))
      else
        none)
  else
    none := Xx_es lwS P_L_law 1 _ _ _ V
set_option maxRecDepth 100000 in
theorem s_law_2307 (d : Nat) (V : XM) (i : Int) : Xf d 310 2307 [xr 1 0, xr 2 0, xr 14 0, xi i] [] V =
    cl (Yf d 181 [xr 2 0] V) (fun x2 V1 =>
    cl (Yf d 303 [xr 14 0] V1) (fun x4 V3 =>
      if (cmp3 x2 x4) = 0 then
        Xf d 310 2403 [xr 1 0, xr 2 0, xr 14 0, xi i] [] V3
      else
        some (xi 0, V3))) := Xx_es lwS P_L_law 1 _ _ _ V
set_option maxRecDepth 100000 in
theorem s_law_2321 (d : Nat) (V : XM) (i : Int) : Xf d 310 2321 [xr 1 0, xr 2 0, xr 14 0, xi i] [] V =
    if 0 ≤ w32 (i + 1) ∧ w32 (i + 1) < V 1 1 0 then
    if 0 ≤ w32 (i + 2) ∧ w32 (i + 2) < V 1 1 0 then
      ci (Yf d 182 [xr 2 0, xi (V 1 0 ((w32 (i + 1)).toNat)), xi (V 1 0 ((w32 (i + 2)).toNat))] V) (fun x2 V1 =>
        if 0 ≤ w32 (i + 1) ∧ w32 (i + 1) < V1 1 1 0 then
          if 0 ≤ w32 (i + 2) ∧ w32 (i + 2) < V1 1 1 0 then
            ci (Yf d 304 [xr 14 0, xi (V1 1 0 ((w32 (i + 1)).toNat)), xi (V1 1 0 ((w32 (i + 2)).toNat))] V1) (fun x4 V3 =>
              if x2 = x4 then
                Xf d 310 2403 [xr 1 0, xr 2 0, xr 14 0, xi i] [] V3
              else
                some (xi 0, V3))
          else
            none
        else
          none)
    else
      none
  else
    none := Xx_es lwS P_L_law 1 _ _ _ V
set_option maxRecDepth 100000 in
theorem s_law_2354 (d : Nat) (V : XM) (i : Int) : Xf d 310 2354 [xr 1 0, xr 2 0, xr 14 0, xi i] [] V =
    if 0 ≤ w32 (i + 1) ∧ w32 (i + 1) < V 1 1 0 then
    ci (Yf d 183 [xr 2 0, xi (V 1 0 ((w32 (i + 1)).toNat))] V) (fun x2 V1 =>
      if 0 ≤ w32 (i + 1) ∧ w32 (i + 1) < V1 1 1 0 then
        ci (Yf d 305 [xr 14 0, xi (V1 1 0 ((w32 (i + 1)).toNat))] V1) (fun x4 V3 =>
          if x2 = x4 then
            Xf d 310 2403 [xr 1 0, xr 2 0, xr 14 0, xi i] [] V3
          else
            some (xi 0, V3))
      else
        none)
  else
    none := Xx_es lwS P_L_law 1 _ _ _ V
set_option maxRecDepth 100000 in
theorem s_law_2377 (d : Nat) (V : XM) (i : Int) : Xf d 310 2377 [xr 1 0, xr 2 0, xr 14 0, xi i] [] V =
    ci (Yf d 184 [xr 2 0] V) (fun x2 V1 =>
    ci (Yf d 306 [xr 14 0] V1) (fun x4 V3 =>
      if x2 = x4 then
        Xf d 310 2403 [xr 1 0, xr 2 0, xr 14 0, xi i] [] V3
      else
        some (xi 0, V3))) := Xx_es lwS P_L_law 1 _ _ _ V
set_option maxRecDepth 100000 in
theorem s_law_2390 (d : Nat) (V : XM) (i : Int) : Xf d 310 2390 [xr 1 0, xr 2 0, xr 14 0, xi i] [] V =
    ci (Yf d 185 [xr 2 0] V) (fun x2 V1 =>
    ci (Yf d 307 [xr 14 0] V1) (fun x4 V3 =>
      if x2 = x4 then
        Xf d 310 2403 [xr 1 0, xr 2 0, xr 14 0, xi i] [] V3
      else
        some (xi 0, V3))) := Xx_es lwS P_L_law 1 _ _ _ V
set_option maxRecDepth 100000 in
theorem s_law_2403 (d : Nat) (V : XM) (i : Int) : Xf d 310 2403 [xr 1 0, xr 2 0, xr 14 0, xi i] [] V =
    Xf d 310 18 [xr 1 0, xr 2 0, xr 14 0, xi (w32 (i + 6))] [] V := Xx_es lwS P_L_law 1 _ _ _ V
