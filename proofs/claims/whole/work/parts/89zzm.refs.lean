/-! at the loop's first turn each reference is there -/
set_option maxRecDepth 100000 in
theorem rd_2_0_0 (V : XM) : VM V 2 0 0 = 1 := rfl
set_option maxRecDepth 100000 in
theorem rd_2_0_1 (V : XM) : VM V 2 0 1 = 1 := rfl
set_option maxRecDepth 100000 in
theorem rd_2_0_2 (V : XM) : VM V 2 0 2 = 1 := rfl
set_option maxRecDepth 100000 in
theorem rd_2_0_3 (V : XM) : VM V 2 0 3 = 1 := rfl
set_option maxRecDepth 100000 in
theorem rd_2_0_4 (V : XM) : VM V 2 0 4 = 1 := rfl
set_option maxRecDepth 100000 in
theorem rd_2_0_5 (V : XM) : VM V 2 0 5 = 1 := rfl
set_option maxRecDepth 100000 in
theorem rd_2_0_6 (V : XM) : VM V 2 0 6 = 1 := rfl
set_option maxRecDepth 100000 in
theorem rd_2_0_7 (V : XM) : VM V 2 0 7 = 1 := rfl
set_option maxRecDepth 100000 in
theorem rd_2_0_8 (V : XM) : VM V 2 0 8 = 1 := rfl
set_option maxRecDepth 100000 in
theorem rd_2_0_9 (V : XM) : VM V 2 0 9 = 1 := rfl
set_option maxRecDepth 100000 in
theorem rd_2_0_10 (V : XM) : VM V 2 0 10 = 1 := rfl
set_option maxRecDepth 100000 in
theorem rd_2_0_11 (V : XM) : VM V 2 0 11 = 1 := rfl
set_option maxRecDepth 100000 in
theorem rd_3_0_0 (V : XM) : VM V 3 0 0 = 1 := rfl
set_option maxRecDepth 100000 in
theorem rd_4_0_0 (V : XM) : VM V 4 0 0 = 1 := rfl
set_option maxRecDepth 100000 in
theorem rd_4_0_1 (V : XM) : VM V 4 0 1 = 1 := rfl
set_option maxRecDepth 100000 in
theorem rd_4_0_2 (V : XM) : VM V 4 0 2 = 1 := rfl
set_option maxRecDepth 100000 in
theorem rd_4_0_3 (V : XM) : VM V 4 0 3 = 1 := rfl
set_option maxRecDepth 100000 in
theorem rd_4_0_4 (V : XM) : VM V 4 0 4 = 1 := rfl
set_option maxRecDepth 100000 in
theorem rd_4_0_5 (V : XM) : VM V 4 0 5 = 1 := rfl
set_option maxRecDepth 100000 in
theorem rd_4_0_6 (V : XM) : VM V 4 0 6 = 1 := rfl
set_option maxRecDepth 100000 in
theorem rd_5_0_0 (V : XM) : VM V 5 0 0 = 1 := rfl
set_option maxRecDepth 100000 in
theorem rd_5_0_1 (V : XM) : VM V 5 0 1 = 1 := rfl
set_option maxRecDepth 100000 in
theorem rd_5_0_2 (V : XM) : VM V 5 0 2 = 1 := rfl
set_option maxRecDepth 100000 in
theorem rd_5_0_3 (V : XM) : VM V 5 0 3 = 1 := rfl
set_option maxRecDepth 100000 in
theorem rd_5_0_4 (V : XM) : VM V 5 0 4 = 1 := rfl
set_option maxRecDepth 100000 in
theorem rd_5_0_5 (V : XM) : VM V 5 0 5 = 1 := rfl
set_option maxRecDepth 100000 in
theorem rd_5_0_6 (V : XM) : VM V 5 0 6 = 1 := rfl
set_option maxRecDepth 100000 in
theorem rd_5_0_7 (V : XM) : VM V 5 0 7 = 1 := rfl
set_option maxRecDepth 100000 in
theorem rd_5_0_8 (V : XM) : VM V 5 0 8 = 1 := rfl
set_option maxRecDepth 100000 in
theorem rd_6_0_0 (V : XM) : VM V 6 0 0 = 1 := rfl
set_option maxRecDepth 100000 in
theorem rd_6_0_1 (V : XM) : VM V 6 0 1 = 1 := rfl
set_option maxRecDepth 100000 in
theorem rd_6_0_2 (V : XM) : VM V 6 0 2 = 1 := rfl
set_option maxRecDepth 100000 in
theorem rd_6_0_3 (V : XM) : VM V 6 0 3 = 1 := rfl
set_option maxRecDepth 100000 in
theorem rd_7_0_0 (V : XM) : VM V 7 0 0 = 1 := rfl
set_option maxRecDepth 100000 in
theorem rd_7_0_1 (V : XM) : VM V 7 0 1 = 1 := rfl
set_option maxRecDepth 100000 in
theorem rd_7_0_2 (V : XM) : VM V 7 0 2 = 1 := rfl
set_option maxRecDepth 100000 in
theorem rd_7_0_3 (V : XM) : VM V 7 0 3 = 1 := rfl
set_option maxRecDepth 100000 in
theorem rd_7_0_4 (V : XM) : VM V 7 0 4 = 1 := rfl
set_option maxRecDepth 100000 in
theorem rd_7_0_5 (V : XM) : VM V 7 0 5 = 1 := rfl
set_option maxRecDepth 100000 in
theorem rd_7_0_6 (V : XM) : VM V 7 0 6 = 1 := rfl
set_option maxRecDepth 100000 in
theorem rd_7_0_7 (V : XM) : VM V 7 0 7 = 1 := rfl
set_option maxRecDepth 100000 in
theorem rd_7_0_8 (V : XM) : VM V 7 0 8 = 1 := rfl
set_option maxRecDepth 100000 in
theorem rd_7_0_9 (V : XM) : VM V 7 0 9 = 1 := rfl
set_option maxRecDepth 100000 in
theorem rd_7_0_10 (V : XM) : VM V 7 0 10 = 1 := rfl
set_option maxRecDepth 100000 in
theorem rd_7_0_11 (V : XM) : VM V 7 0 11 = 1 := rfl
set_option maxRecDepth 100000 in
theorem rd_7_0_12 (V : XM) : VM V 7 0 12 = 1 := rfl
set_option maxRecDepth 100000 in
theorem rd_7_0_13 (V : XM) : VM V 7 0 13 = 1 := rfl
set_option maxRecDepth 100000 in
theorem rd_7_0_14 (V : XM) : VM V 7 0 14 = 1 := rfl
set_option maxRecDepth 100000 in
theorem rd_8_0_0 (V : XM) : VM V 8 0 0 = 1 := rfl
set_option maxRecDepth 100000 in
theorem rd_8_0_1 (V : XM) : VM V 8 0 1 = 1 := rfl
set_option maxRecDepth 100000 in
theorem rd_8_0_2 (V : XM) : VM V 8 0 2 = 1 := rfl
set_option maxRecDepth 100000 in
theorem rd_9_0_0 (V : XM) : VM V 9 0 0 = 1 := rfl
set_option maxRecDepth 100000 in
theorem rd_9_0_1 (V : XM) : VM V 9 0 1 = 1 := rfl
set_option maxRecDepth 100000 in
theorem rd_9_0_2 (V : XM) : VM V 9 0 2 = 1 := rfl
set_option maxRecDepth 100000 in
theorem rd_10_0_0 (V : XM) : VM V 10 0 0 = 1 := rfl
set_option maxRecDepth 100000 in
theorem rd_10_0_1 (V : XM) : VM V 10 0 1 = 1 := rfl
set_option maxRecDepth 100000 in
theorem rd_10_0_2 (V : XM) : VM V 10 0 2 = 1 := rfl
set_option maxRecDepth 100000 in
theorem rd_10_0_3 (V : XM) : VM V 10 0 3 = 1 := rfl
set_option maxRecDepth 100000 in
theorem rd_10_0_4 (V : XM) : VM V 10 0 4 = 1 := rfl
set_option maxRecDepth 100000 in
theorem rd_10_0_5 (V : XM) : VM V 10 0 5 = 1 := rfl
set_option maxRecDepth 100000 in
theorem rd_11_0_0 (V : XM) : VM V 11 0 0 = 1 := rfl
set_option maxRecDepth 100000 in
theorem rd_11_0_1 (V : XM) : VM V 11 0 1 = 1 := rfl
set_option maxRecDepth 100000 in
theorem rd_11_0_2 (V : XM) : VM V 11 0 2 = 1 := rfl
set_option maxRecDepth 100000 in
theorem rd_11_0_3 (V : XM) : VM V 11 0 3 = 1 := rfl
set_option maxRecDepth 100000 in
theorem rd_11_0_4 (V : XM) : VM V 11 0 4 = 1 := rfl
set_option maxRecDepth 100000 in
theorem rd_11_0_5 (V : XM) : VM V 11 0 5 = 1 := rfl
set_option maxRecDepth 100000 in
theorem rd_11_0_6 (V : XM) : VM V 11 0 6 = 1 := rfl
set_option maxRecDepth 100000 in
theorem rd_15_0_0 (V : XM) : VM V 15 0 0 = 1 := rfl
set_option maxRecDepth 100000 in
theorem rd_15_0_1 (V : XM) : VM V 15 0 1 = 1 := rfl
set_option maxRecDepth 100000 in
theorem rd_15_0_2 (V : XM) : VM V 15 0 2 = 1 := rfl
set_option maxRecDepth 100000 in
theorem rd_15_0_3 (V : XM) : VM V 15 0 3 = 1 := rfl
set_option maxRecDepth 100000 in
theorem rd_15_0_4 (V : XM) : VM V 15 0 4 = 1 := rfl
set_option maxRecDepth 100000 in
theorem rd_15_0_5 (V : XM) : VM V 15 0 5 = 1 := rfl
set_option maxRecDepth 100000 in
theorem rd_15_0_6 (V : XM) : VM V 15 0 6 = 1 := rfl
set_option maxRecDepth 100000 in
theorem rd_15_0_7 (V : XM) : VM V 15 0 7 = 1 := rfl
set_option maxRecDepth 100000 in
theorem rd_15_0_8 (V : XM) : VM V 15 0 8 = 1 := rfl
set_option maxRecDepth 100000 in
theorem rd_15_0_9 (V : XM) : VM V 15 0 9 = 1 := rfl
set_option maxRecDepth 100000 in
theorem rd_12_0_0 (V : XM) : VM V 12 0 0 = 1 := rfl
set_option maxRecDepth 100000 in
theorem rd_12_1_0 (V : XM) : VM V 12 1 0 = 1 := rfl
set_option maxRecDepth 100000 in
theorem rd_12_2_0 (V : XM) : VM V 12 2 0 = 1 := rfl
set_option maxRecDepth 100000 in
theorem rd_12_3_0 (V : XM) : VM V 12 3 0 = 1 := rfl
set_option maxRecDepth 100000 in
theorem rd_12_4_0 (V : XM) : VM V 12 4 0 = 1 := rfl
set_option maxRecDepth 100000 in
theorem rd_12_5_0 (V : XM) : VM V 12 5 0 = 1 := rfl
set_option maxRecDepth 100000 in
theorem rd_12_6_0 (V : XM) : VM V 12 6 0 = 1 := rfl
set_option maxRecDepth 100000 in
theorem rd_12_7_0 (V : XM) : VM V 12 7 0 = 1 := rfl
set_option maxRecDepth 100000 in
theorem rd_12_8_0 (V : XM) : VM V 12 8 0 = 1 := rfl
set_option maxRecDepth 100000 in
theorem rd_12_9_0 (V : XM) : VM V 12 9 0 = 1 := rfl
set_option maxRecDepth 100000 in
theorem rd_16_0_0 (V : XM) : VM V 16 0 0 = 1 := rfl
set_option maxRecDepth 100000 in
theorem rd_16_0_1 (V : XM) : VM V 16 0 1 = 1 := rfl
set_option maxRecDepth 100000 in
theorem rd_16_0_2 (V : XM) : VM V 16 0 2 = 1 := rfl
set_option maxRecDepth 100000 in
theorem rd_16_0_3 (V : XM) : VM V 16 0 3 = 1 := rfl
set_option maxRecDepth 100000 in
theorem rd_16_0_4 (V : XM) : VM V 16 0 4 = 1 := rfl
set_option maxRecDepth 100000 in
theorem rd_16_0_5 (V : XM) : VM V 16 0 5 = 1 := rfl
set_option maxRecDepth 100000 in
theorem rd_13_0_0 (V : XM) : VM V 13 0 0 = 1 := rfl
set_option maxRecDepth 100000 in
theorem rd_13_0_1 (V : XM) : VM V 13 0 1 = 1 := rfl
set_option maxRecDepth 100000 in
theorem rd_13_0_2 (V : XM) : VM V 13 0 2 = 1 := rfl
set_option maxRecDepth 100000 in
theorem rd_13_0_3 (V : XM) : VM V 13 0 3 = 1 := rfl
set_option maxRecDepth 100000 in
theorem rd_13_1_0 (V : XM) : VM V 13 1 0 = 1 := rfl
set_option maxRecDepth 100000 in
theorem rd_13_1_1 (V : XM) : VM V 13 1 1 = 1 := rfl
set_option maxRecDepth 100000 in
theorem rd_13_1_2 (V : XM) : VM V 13 1 2 = 1 := rfl
set_option maxRecDepth 100000 in
theorem rd_13_1_3 (V : XM) : VM V 13 1 3 = 1 := rfl
set_option maxRecDepth 100000 in
theorem rd_13_2_0 (V : XM) : VM V 13 2 0 = 1 := rfl
set_option maxRecDepth 100000 in
theorem rd_13_2_1 (V : XM) : VM V 13 2 1 = 1 := rfl
set_option maxRecDepth 100000 in
theorem rd_13_2_2 (V : XM) : VM V 13 2 2 = 1 := rfl
set_option maxRecDepth 100000 in
theorem rd_13_2_3 (V : XM) : VM V 13 2 3 = 1 := rfl
set_option maxRecDepth 100000 in
theorem rd_13_3_0 (V : XM) : VM V 13 3 0 = 1 := rfl
set_option maxRecDepth 100000 in
theorem rd_13_3_1 (V : XM) : VM V 13 3 1 = 1 := rfl
set_option maxRecDepth 100000 in
theorem rd_13_3_2 (V : XM) : VM V 13 3 2 = 1 := rfl
set_option maxRecDepth 100000 in
theorem rd_13_3_3 (V : XM) : VM V 13 3 3 = 1 := rfl
set_option maxRecDepth 100000 in
theorem rd_13_4_0 (V : XM) : VM V 13 4 0 = 1 := rfl
set_option maxRecDepth 100000 in
theorem rd_13_4_1 (V : XM) : VM V 13 4 1 = 1 := rfl
set_option maxRecDepth 100000 in
theorem rd_13_4_2 (V : XM) : VM V 13 4 2 = 1 := rfl
set_option maxRecDepth 100000 in
theorem rd_13_4_3 (V : XM) : VM V 13 4 3 = 1 := rfl
set_option maxRecDepth 100000 in
theorem rd_13_5_0 (V : XM) : VM V 13 5 0 = 1 := rfl
set_option maxRecDepth 100000 in
theorem rd_13_5_1 (V : XM) : VM V 13 5 1 = 1 := rfl
set_option maxRecDepth 100000 in
theorem rd_13_5_2 (V : XM) : VM V 13 5 2 = 1 := rfl
set_option maxRecDepth 100000 in
theorem rd_13_5_3 (V : XM) : VM V 13 5 3 = 1 := rfl
set_option maxRecDepth 100000 in
theorem rd_14_0_2 (V : XM) : VM V 14 0 2 = 1 := rfl
set_option maxRecDepth 100000 in
theorem rd_14_0_4 (V : XM) : VM V 14 0 4 = 1 := rfl
set_option maxRecDepth 100000 in
theorem rd_14_0_5 (V : XM) : VM V 14 0 5 = 1 := rfl
set_option maxRecDepth 100000 in
theorem rd_14_0_6 (V : XM) : VM V 14 0 6 = 1 := rfl
set_option maxRecDepth 100000 in
theorem rd_14_0_7 (V : XM) : VM V 14 0 7 = 1 := rfl
set_option maxRecDepth 100000 in
theorem rd_14_0_8 (V : XM) : VM V 14 0 8 = 1 := rfl
set_option maxRecDepth 100000 in
theorem rd_14_0_10 (V : XM) : VM V 14 0 10 = 1 := rfl
set_option maxRecDepth 100000 in
theorem rd_14_0_11 (V : XM) : VM V 14 0 11 = 1 := rfl
set_option maxRecDepth 100000 in
theorem rd_14_0_12 (V : XM) : VM V 14 0 12 = 1 := rfl
set_option maxRecDepth 100000 in
theorem rd_14_0_13 (V : XM) : VM V 14 0 13 = 1 := rfl
set_option maxRecDepth 100000 in
theorem rd_14_0_14 (V : XM) : VM V 14 0 14 = 1 := rfl
set_option maxRecDepth 100000 in
theorem rd_14_0_15 (V : XM) : VM V 14 0 15 = 1 := rfl
set_option maxRecDepth 100000 in
theorem rd_14_0_16 (V : XM) : VM V 14 0 16 = 1 := rfl
set_option maxRecDepth 100000 in
theorem rd_14_0_17 (V : XM) : VM V 14 0 17 = 1 := rfl
set_option maxRecDepth 100000 in
theorem rd_14_0_18 (V : XM) : VM V 14 0 18 = 1 := rfl
set_option maxRecDepth 100000 in
theorem rd_14_0_19 (V : XM) : VM V 14 0 19 = 1 := rfl
set_option maxRecDepth 100000 in
theorem rd_14_0_20 (V : XM) : VM V 14 0 20 = 1 := rfl
set_option maxRecDepth 100000 in
theorem rd_14_0_21 (V : XM) : VM V 14 0 21 = 1 := rfl
set_option maxRecDepth 100000 in
theorem rd_14_0_23 (V : XM) : VM V 14 0 23 = 1 := rfl
set_option maxRecDepth 100000 in
theorem rd_14_0_24 (V : XM) : VM V 14 0 24 = 1 := rfl
set_option maxRecDepth 100000 in
theorem rd_14_0_25 (V : XM) : VM V 14 0 25 = 1 := rfl
set_option maxRecDepth 100000 in
theorem rd_14_0_26 (V : XM) : VM V 14 0 26 = 1 := rfl
set_option maxRecDepth 100000 in
theorem rd_14_0_28 (V : XM) : VM V 14 0 28 = 1 := rfl
set_option maxRecDepth 100000 in
theorem rd_14_0_30 (V : XM) : VM V 14 0 30 = 1 := rfl
set_option maxRecDepth 100000 in
theorem rd_14_0_31 (V : XM) : VM V 14 0 31 = 1 := rfl
set_option maxRecDepth 100000 in
theorem rd_14_0_32 (V : XM) : VM V 14 0 32 = 1 := rfl
set_option maxRecDepth 100000 in
theorem rd_14_0_33 (V : XM) : VM V 14 0 33 = 1 := rfl
set_option maxRecDepth 100000 in
theorem rd_14_0_34 (V : XM) : VM V 14 0 34 = 1 := rfl
set_option maxRecDepth 100000 in
theorem rd_14_0_35 (V : XM) : VM V 14 0 35 = 1 := rfl
set_option maxRecDepth 100000 in
theorem rd_14_0_36 (V : XM) : VM V 14 0 36 = 1 := rfl
set_option maxRecDepth 100000 in
theorem rd_14_0_37 (V : XM) : VM V 14 0 37 = 1 := rfl
set_option maxRecDepth 100000 in
theorem rd_14_0_38 (V : XM) : VM V 14 0 38 = 1 := rfl
set_option maxRecDepth 100000 in
theorem rd_14_0_40 (V : XM) : VM V 14 0 40 = 1 := rfl
set_option maxRecDepth 100000 in
theorem rd_14_0_41 (V : XM) : VM V 14 0 41 = 1 := rfl
set_option maxRecDepth 100000 in
theorem rd_14_0_42 (V : XM) : VM V 14 0 42 = 1 := rfl
set_option maxRecDepth 100000 in
theorem rd_14_0_43 (V : XM) : VM V 14 0 43 = 1 := rfl
set_option maxRecDepth 100000 in
theorem rd_14_0_46 (V : XM) : VM V 14 0 46 = 1 := rfl
set_option maxRecDepth 100000 in
theorem rd_14_0_47 (V : XM) : VM V 14 0 47 = 1 := rfl
set_option maxRecDepth 100000 in
theorem rd_14_0_48 (V : XM) : VM V 14 0 48 = 1 := rfl
set_option maxRecDepth 100000 in
theorem rd_14_0_49 (V : XM) : VM V 14 0 49 = 1 := rfl
set_option maxRecDepth 100000 in
theorem rd_14_0_50 (V : XM) : VM V 14 0 50 = 1 := rfl
set_option maxRecDepth 100000 in
theorem rd_14_0_51 (V : XM) : VM V 14 0 51 = 1 := rfl
set_option maxRecDepth 100000 in
theorem rd_14_0_52 (V : XM) : VM V 14 0 52 = 1 := rfl
set_option maxRecDepth 100000 in
theorem rd_14_0_53 (V : XM) : VM V 14 0 53 = 1 := rfl
set_option maxRecDepth 100000 in
theorem rd_14_0_54 (V : XM) : VM V 14 0 54 = 1 := rfl
set_option maxRecDepth 100000 in
theorem rd_14_0_55 (V : XM) : VM V 14 0 55 = 1 := rfl
set_option maxRecDepth 100000 in
theorem rd_14_0_57 (V : XM) : VM V 14 0 57 = 1 := rfl
def RF_l : List (Nat × Nat × Nat) := [(2, 0, 0), (2, 0, 1), (2, 0, 2), (2, 0, 3), (2, 0, 4), (2, 0, 5), (2, 0, 6), (2, 0, 7), (2, 0, 8), (2, 0, 9), (2, 0, 10), (2, 0, 11), (3, 0, 0), (4, 0, 0), (4, 0, 1), (4, 0, 2), (4, 0, 3), (4, 0, 4), (4, 0, 5), (4, 0, 6), (5, 0, 0), (5, 0, 1), (5, 0, 2), (5, 0, 3), (5, 0, 4), (5, 0, 5), (5, 0, 6), (5, 0, 7), (5, 0, 8), (6, 0, 0), (6, 0, 1), (6, 0, 2), (6, 0, 3), (7, 0, 0), (7, 0, 1), (7, 0, 2), (7, 0, 3), (7, 0, 4), (7, 0, 5), (7, 0, 6), (7, 0, 7), (7, 0, 8), (7, 0, 9), (7, 0, 10), (7, 0, 11), (7, 0, 12), (7, 0, 13), (7, 0, 14), (8, 0, 0), (8, 0, 1), (8, 0, 2), (9, 0, 0), (9, 0, 1), (9, 0, 2), (10, 0, 0), (10, 0, 1), (10, 0, 2), (10, 0, 3), (10, 0, 4), (10, 0, 5), (11, 0, 0), (11, 0, 1), (11, 0, 2), (11, 0, 3), (11, 0, 4), (11, 0, 5), (11, 0, 6), (15, 0, 0), (15, 0, 1), (15, 0, 2), (15, 0, 3), (15, 0, 4), (15, 0, 5), (15, 0, 6), (15, 0, 7), (15, 0, 8), (15, 0, 9), (12, 0, 0), (12, 1, 0), (12, 2, 0), (12, 3, 0), (12, 4, 0), (12, 5, 0), (12, 6, 0), (12, 7, 0), (12, 8, 0), (12, 9, 0), (16, 0, 0), (16, 0, 1), (16, 0, 2), (16, 0, 3), (16, 0, 4), (16, 0, 5), (13, 0, 0), (13, 0, 1), (13, 0, 2), (13, 0, 3), (13, 1, 0), (13, 1, 1), (13, 1, 2), (13, 1, 3), (13, 2, 0), (13, 2, 1), (13, 2, 2), (13, 2, 3), (13, 3, 0), (13, 3, 1), (13, 3, 2), (13, 3, 3), (13, 4, 0), (13, 4, 1), (13, 4, 2), (13, 4, 3), (13, 5, 0), (13, 5, 1), (13, 5, 2), (13, 5, 3), (14, 0, 2), (14, 0, 4), (14, 0, 5), (14, 0, 6), (14, 0, 7), (14, 0, 8), (14, 0, 10), (14, 0, 11), (14, 0, 12), (14, 0, 13), (14, 0, 14), (14, 0, 15), (14, 0, 16), (14, 0, 17), (14, 0, 18), (14, 0, 19), (14, 0, 20), (14, 0, 21), (14, 0, 23), (14, 0, 24), (14, 0, 25), (14, 0, 26), (14, 0, 28), (14, 0, 30), (14, 0, 31), (14, 0, 32), (14, 0, 33), (14, 0, 34), (14, 0, 35), (14, 0, 36), (14, 0, 37), (14, 0, 38), (14, 0, 40), (14, 0, 41), (14, 0, 42), (14, 0, 43), (14, 0, 46), (14, 0, 47), (14, 0, 48), (14, 0, 49), (14, 0, 50), (14, 0, 51), (14, 0, 52), (14, 0, 53), (14, 0, 54), (14, 0, 55), (14, 0, 57)]
set_option maxRecDepth 100000 in
theorem RF_ok (V : XM) : ∀ q ∈ RF_l, VM V q.1 q.2.1 q.2.2 = 1 := List.forall_mem_cons.mpr ⟨rd_2_0_0 V, List.forall_mem_cons.mpr ⟨rd_2_0_1 V, List.forall_mem_cons.mpr ⟨rd_2_0_2 V, List.forall_mem_cons.mpr ⟨rd_2_0_3 V, List.forall_mem_cons.mpr ⟨rd_2_0_4 V, List.forall_mem_cons.mpr ⟨rd_2_0_5 V, List.forall_mem_cons.mpr ⟨rd_2_0_6 V, List.forall_mem_cons.mpr ⟨rd_2_0_7 V, List.forall_mem_cons.mpr ⟨rd_2_0_8 V, List.forall_mem_cons.mpr ⟨rd_2_0_9 V, List.forall_mem_cons.mpr ⟨rd_2_0_10 V, List.forall_mem_cons.mpr ⟨rd_2_0_11 V, List.forall_mem_cons.mpr ⟨rd_3_0_0 V, List.forall_mem_cons.mpr ⟨rd_4_0_0 V, List.forall_mem_cons.mpr ⟨rd_4_0_1 V, List.forall_mem_cons.mpr ⟨rd_4_0_2 V, List.forall_mem_cons.mpr ⟨rd_4_0_3 V, List.forall_mem_cons.mpr ⟨rd_4_0_4 V, List.forall_mem_cons.mpr ⟨rd_4_0_5 V, List.forall_mem_cons.mpr ⟨rd_4_0_6 V, List.forall_mem_cons.mpr ⟨rd_5_0_0 V, List.forall_mem_cons.mpr ⟨rd_5_0_1 V, List.forall_mem_cons.mpr ⟨rd_5_0_2 V, List.forall_mem_cons.mpr ⟨rd_5_0_3 V, List.forall_mem_cons.mpr ⟨rd_5_0_4 V, List.forall_mem_cons.mpr ⟨rd_5_0_5 V, List.forall_mem_cons.mpr ⟨rd_5_0_6 V, List.forall_mem_cons.mpr ⟨rd_5_0_7 V, List.forall_mem_cons.mpr ⟨rd_5_0_8 V, List.forall_mem_cons.mpr ⟨rd_6_0_0 V, List.forall_mem_cons.mpr ⟨rd_6_0_1 V, List.forall_mem_cons.mpr ⟨rd_6_0_2 V, List.forall_mem_cons.mpr ⟨rd_6_0_3 V, List.forall_mem_cons.mpr ⟨rd_7_0_0 V, List.forall_mem_cons.mpr ⟨rd_7_0_1 V, List.forall_mem_cons.mpr ⟨rd_7_0_2 V, List.forall_mem_cons.mpr ⟨rd_7_0_3 V, List.forall_mem_cons.mpr ⟨rd_7_0_4 V, List.forall_mem_cons.mpr ⟨rd_7_0_5 V, List.forall_mem_cons.mpr ⟨rd_7_0_6 V, List.forall_mem_cons.mpr ⟨rd_7_0_7 V, List.forall_mem_cons.mpr ⟨rd_7_0_8 V, List.forall_mem_cons.mpr ⟨rd_7_0_9 V, List.forall_mem_cons.mpr ⟨rd_7_0_10 V, List.forall_mem_cons.mpr ⟨rd_7_0_11 V, List.forall_mem_cons.mpr ⟨rd_7_0_12 V, List.forall_mem_cons.mpr ⟨rd_7_0_13 V, List.forall_mem_cons.mpr ⟨rd_7_0_14 V, List.forall_mem_cons.mpr ⟨rd_8_0_0 V, List.forall_mem_cons.mpr ⟨rd_8_0_1 V, List.forall_mem_cons.mpr ⟨rd_8_0_2 V, List.forall_mem_cons.mpr ⟨rd_9_0_0 V, List.forall_mem_cons.mpr ⟨rd_9_0_1 V, List.forall_mem_cons.mpr ⟨rd_9_0_2 V, List.forall_mem_cons.mpr ⟨rd_10_0_0 V, List.forall_mem_cons.mpr ⟨rd_10_0_1 V, List.forall_mem_cons.mpr ⟨rd_10_0_2 V, List.forall_mem_cons.mpr ⟨rd_10_0_3 V, List.forall_mem_cons.mpr ⟨rd_10_0_4 V, List.forall_mem_cons.mpr ⟨rd_10_0_5 V, List.forall_mem_cons.mpr ⟨rd_11_0_0 V, List.forall_mem_cons.mpr ⟨rd_11_0_1 V, List.forall_mem_cons.mpr ⟨rd_11_0_2 V, List.forall_mem_cons.mpr ⟨rd_11_0_3 V, List.forall_mem_cons.mpr ⟨rd_11_0_4 V, List.forall_mem_cons.mpr ⟨rd_11_0_5 V, List.forall_mem_cons.mpr ⟨rd_11_0_6 V, List.forall_mem_cons.mpr ⟨rd_15_0_0 V, List.forall_mem_cons.mpr ⟨rd_15_0_1 V, List.forall_mem_cons.mpr ⟨rd_15_0_2 V, List.forall_mem_cons.mpr ⟨rd_15_0_3 V, List.forall_mem_cons.mpr ⟨rd_15_0_4 V, List.forall_mem_cons.mpr ⟨rd_15_0_5 V, List.forall_mem_cons.mpr ⟨rd_15_0_6 V, List.forall_mem_cons.mpr ⟨rd_15_0_7 V, List.forall_mem_cons.mpr ⟨rd_15_0_8 V, List.forall_mem_cons.mpr ⟨rd_15_0_9 V, List.forall_mem_cons.mpr ⟨rd_12_0_0 V, List.forall_mem_cons.mpr ⟨rd_12_1_0 V, List.forall_mem_cons.mpr ⟨rd_12_2_0 V, List.forall_mem_cons.mpr ⟨rd_12_3_0 V, List.forall_mem_cons.mpr ⟨rd_12_4_0 V, List.forall_mem_cons.mpr ⟨rd_12_5_0 V, List.forall_mem_cons.mpr ⟨rd_12_6_0 V, List.forall_mem_cons.mpr ⟨rd_12_7_0 V, List.forall_mem_cons.mpr ⟨rd_12_8_0 V, List.forall_mem_cons.mpr ⟨rd_12_9_0 V, List.forall_mem_cons.mpr ⟨rd_16_0_0 V, List.forall_mem_cons.mpr ⟨rd_16_0_1 V, List.forall_mem_cons.mpr ⟨rd_16_0_2 V, List.forall_mem_cons.mpr ⟨rd_16_0_3 V, List.forall_mem_cons.mpr ⟨rd_16_0_4 V, List.forall_mem_cons.mpr ⟨rd_16_0_5 V, List.forall_mem_cons.mpr ⟨rd_13_0_0 V, List.forall_mem_cons.mpr ⟨rd_13_0_1 V, List.forall_mem_cons.mpr ⟨rd_13_0_2 V, List.forall_mem_cons.mpr ⟨rd_13_0_3 V, List.forall_mem_cons.mpr ⟨rd_13_1_0 V, List.forall_mem_cons.mpr ⟨rd_13_1_1 V, List.forall_mem_cons.mpr ⟨rd_13_1_2 V, List.forall_mem_cons.mpr ⟨rd_13_1_3 V, List.forall_mem_cons.mpr ⟨rd_13_2_0 V, List.forall_mem_cons.mpr ⟨rd_13_2_1 V, List.forall_mem_cons.mpr ⟨rd_13_2_2 V, List.forall_mem_cons.mpr ⟨rd_13_2_3 V, List.forall_mem_cons.mpr ⟨rd_13_3_0 V, List.forall_mem_cons.mpr ⟨rd_13_3_1 V, List.forall_mem_cons.mpr ⟨rd_13_3_2 V, List.forall_mem_cons.mpr ⟨rd_13_3_3 V, List.forall_mem_cons.mpr ⟨rd_13_4_0 V, List.forall_mem_cons.mpr ⟨rd_13_4_1 V, List.forall_mem_cons.mpr ⟨rd_13_4_2 V, List.forall_mem_cons.mpr ⟨rd_13_4_3 V, List.forall_mem_cons.mpr ⟨rd_13_5_0 V, List.forall_mem_cons.mpr ⟨rd_13_5_1 V, List.forall_mem_cons.mpr ⟨rd_13_5_2 V, List.forall_mem_cons.mpr ⟨rd_13_5_3 V, List.forall_mem_cons.mpr ⟨rd_14_0_2 V, List.forall_mem_cons.mpr ⟨rd_14_0_4 V, List.forall_mem_cons.mpr ⟨rd_14_0_5 V, List.forall_mem_cons.mpr ⟨rd_14_0_6 V, List.forall_mem_cons.mpr ⟨rd_14_0_7 V, List.forall_mem_cons.mpr ⟨rd_14_0_8 V, List.forall_mem_cons.mpr ⟨rd_14_0_10 V, List.forall_mem_cons.mpr ⟨rd_14_0_11 V, List.forall_mem_cons.mpr ⟨rd_14_0_12 V, List.forall_mem_cons.mpr ⟨rd_14_0_13 V, List.forall_mem_cons.mpr ⟨rd_14_0_14 V, List.forall_mem_cons.mpr ⟨rd_14_0_15 V, List.forall_mem_cons.mpr ⟨rd_14_0_16 V, List.forall_mem_cons.mpr ⟨rd_14_0_17 V, List.forall_mem_cons.mpr ⟨rd_14_0_18 V, List.forall_mem_cons.mpr ⟨rd_14_0_19 V, List.forall_mem_cons.mpr ⟨rd_14_0_20 V, List.forall_mem_cons.mpr ⟨rd_14_0_21 V, List.forall_mem_cons.mpr ⟨rd_14_0_23 V, List.forall_mem_cons.mpr ⟨rd_14_0_24 V, List.forall_mem_cons.mpr ⟨rd_14_0_25 V, List.forall_mem_cons.mpr ⟨rd_14_0_26 V, List.forall_mem_cons.mpr ⟨rd_14_0_28 V, List.forall_mem_cons.mpr ⟨rd_14_0_30 V, List.forall_mem_cons.mpr ⟨rd_14_0_31 V, List.forall_mem_cons.mpr ⟨rd_14_0_32 V, List.forall_mem_cons.mpr ⟨rd_14_0_33 V, List.forall_mem_cons.mpr ⟨rd_14_0_34 V, List.forall_mem_cons.mpr ⟨rd_14_0_35 V, List.forall_mem_cons.mpr ⟨rd_14_0_36 V, List.forall_mem_cons.mpr ⟨rd_14_0_37 V, List.forall_mem_cons.mpr ⟨rd_14_0_38 V, List.forall_mem_cons.mpr ⟨rd_14_0_40 V, List.forall_mem_cons.mpr ⟨rd_14_0_41 V, List.forall_mem_cons.mpr ⟨rd_14_0_42 V, List.forall_mem_cons.mpr ⟨rd_14_0_43 V, List.forall_mem_cons.mpr ⟨rd_14_0_46 V, List.forall_mem_cons.mpr ⟨rd_14_0_47 V, List.forall_mem_cons.mpr ⟨rd_14_0_48 V, List.forall_mem_cons.mpr ⟨rd_14_0_49 V, List.forall_mem_cons.mpr ⟨rd_14_0_50 V, List.forall_mem_cons.mpr ⟨rd_14_0_51 V, List.forall_mem_cons.mpr ⟨rd_14_0_52 V, List.forall_mem_cons.mpr ⟨rd_14_0_53 V, List.forall_mem_cons.mpr ⟨rd_14_0_54 V, List.forall_mem_cons.mpr ⟨rd_14_0_55 V, List.forall_mem_cons.mpr ⟨rd_14_0_57 V, fun _ h => absurd h List.not_mem_nil⟩⟩⟩⟩⟩⟩⟩⟩⟩⟩⟩⟩⟩⟩⟩⟩⟩⟩⟩⟩⟩⟩⟩⟩⟩⟩⟩⟩⟩⟩⟩⟩⟩⟩⟩⟩⟩⟩⟩⟩⟩⟩⟩⟩⟩⟩⟩⟩⟩⟩⟩⟩⟩⟩⟩⟩⟩⟩⟩⟩⟩⟩⟩⟩⟩⟩⟩⟩⟩⟩⟩⟩⟩⟩⟩⟩⟩⟩⟩⟩⟩⟩⟩⟩⟩⟩⟩⟩⟩⟩⟩⟩⟩⟩⟩⟩⟩⟩⟩⟩⟩⟩⟩⟩⟩⟩⟩⟩⟩⟩⟩⟩⟩⟩⟩⟩⟩⟩⟩⟩⟩⟩⟩⟩⟩⟩⟩⟩⟩⟩⟩⟩⟩⟩⟩⟩⟩⟩⟩⟩⟩⟩⟩⟩⟩⟩⟩⟩⟩⟩⟩⟩⟩⟩⟩⟩⟩⟩⟩⟩⟩⟩⟩⟩
