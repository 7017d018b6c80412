/-! entries checked -/
theorem ck_X2_earliestRelate : ckM 44 = true := (all_split 5 ck_X2_earliestRelate_0 ck_X2_earliestRelate_1)
theorem ck_X2_heldBy : ckM 45 = true := by decide +kernel
set_option maxRecDepth 20000 in
theorem ck_X2_togetherBy_0 : (((XP 46).take 3).all (ckB 46)) = true := by decide +kernel
set_option maxRecDepth 20000 in
theorem ck_X2_togetherBy_1 : ((((XP 46).drop 3).take 1).all (ckB 46)) = true := by decide +kernel
set_option maxRecDepth 20000 in
theorem ck_X2_togetherBy_2 : ((((XP 46).drop 3).drop 1).all (ckB 46)) = true := by decide +kernel
theorem ck_X2_togetherBy : ckM 46 = true := (all_split 3 ck_X2_togetherBy_0 (all_split 1 ck_X2_togetherBy_1 ck_X2_togetherBy_2))
set_option maxRecDepth 20000 in
theorem ck_X2_walkFrom_0 : (((XP 47).take 3).all (ckB 47)) = true := by decide +kernel
set_option maxRecDepth 20000 in
theorem ck_X2_walkFrom_1 : (((XP 47).drop 3).all (ckB 47)) = true := by decide +kernel
theorem ck_X2_walkFrom : ckM 47 = true := (all_split 3 ck_X2_walkFrom_0 ck_X2_walkFrom_1)
theorem ck_X2_couples : ckM 48 = true := by decide +kernel
theorem ck_X3_init : ckM 49 = true := by decide +kernel
theorem ck_X3_begin : ckM 50 = true := by decide +kernel
theorem ck_X3_write : ckM 51 = true := by decide +kernel
theorem ck_X3_sortOf : ckM 52 = true := by decide +kernel
theorem ck_X3_leadsTo : ckM 53 = true := by decide +kernel
theorem ck_X3_isTold : ckM 54 = true := by decide +kernel
theorem ck_X3_toldIn : ckM 55 = true := by decide +kernel
theorem ck_X3_opposite : ckM 56 = true := by decide +kernel
theorem ck_X3_tellExit : ckM 57 = true := by decide +kernel
theorem ck_X3_againstDoor : ckM 58 = true := by decide +kernel
theorem ck_X3_tellDoor : ckM 59 = true := by decide +kernel
theorem ck_X3_isPassable : ckM 60 = true := by decide +kernel
set_option maxRecDepth 20000 in
theorem ck_X3_walkFrom_0 : (((XP 61).take 5).all (ckB 61)) = true := by decide +kernel
set_option maxRecDepth 20000 in
theorem ck_X3_walkFrom_1 : (((XP 61).drop 5).all (ckB 61)) = true := by decide +kernel
theorem ck_X3_walkFrom : ckM 61 = true := (all_split 5 ck_X3_walkFrom_0 ck_X3_walkFrom_1)
theorem ck_X4_init : ckM 62 = true := by decide +kernel
theorem ck_X4_areFull : ckM 63 = true := by decide +kernel
theorem ck_X4_add : ckM 64 = true := by decide +kernel
theorem ck_X4_earliest : ckM 65 = true := by decide +kernel
theorem ck_X5_init : ckM 66 = true := by decide +kernel
theorem ck_X5_ways : ckM 67 = true := by decide +kernel
theorem ck_X5_thingAt : ckM 68 = true := by decide +kernel
theorem ck_X5_takeLeastWay : ckM 69 = true := by decide +kernel
set_option maxRecDepth 20000 in
theorem ck_X5_layFrom_0 : (((XP 70).take 2).all (ckB 70)) = true := by decide +kernel
set_option maxRecDepth 20000 in
theorem ck_X5_layFrom_1 : (((XP 70).drop 2).all (ckB 70)) = true := by decide +kernel
theorem ck_X5_layFrom : ckM 70 = true := (all_split 2 ck_X5_layFrom_0 ck_X5_layFrom_1)
theorem ck_X5_lets : ckM 71 = true := by decide +kernel
theorem ck_X6_init : ckM 72 = true := by decide +kernel
theorem ck_X6_begin : ckM 73 = true := by decide +kernel
theorem ck_X6_spans : ckM 74 = true := by decide +kernel
theorem ck_X7_init : ckM 75 = true := by decide +kernel
theorem ck_X7_begin : ckM 76 = true := by decide +kernel
theorem ck_X7_hasCell : ckM 77 = true := by decide +kernel
theorem ck_X7_isBlank : ckM 78 = true := by decide +kernel
theorem ck_X7_told : ckM 79 = true := by decide +kernel
theorem ck_X7_write : ckM 80 = true := by decide +kernel
theorem ck_X7_wipe : ckM 81 = true := by decide +kernel
theorem ck_X7_rowWith : ckM 82 = true := by decide +kernel
set_option maxRecDepth 20000 in
theorem ck_X7_order_0 : (((XP 83).take 6).all (ckB 83)) = true := by decide +kernel
set_option maxRecDepth 20000 in
theorem ck_X7_order_1 : (((XP 83).drop 6).all (ckB 83)) = true := by decide +kernel
theorem ck_X7_order : ckM 83 = true := (all_split 6 ck_X7_order_0 ck_X7_order_1)
theorem ck_X7_isAhead : ckM 84 = true := by decide +kernel
set_option maxRecDepth 20000 in
theorem ck_X7_swap_0 : (((XP 85).take 1).all (ckB 85)) = true := by decide +kernel
set_option maxRecDepth 20000 in
theorem ck_X7_swap_1 : ((((XP 85).drop 1).take 1).all (ckB 85)) = true := by decide +kernel
set_option maxRecDepth 20000 in
theorem ck_X7_swap_2 : ((((XP 85).drop 1).drop 1).all (ckB 85)) = true := by decide +kernel
theorem ck_X7_swap : ckM 85 = true := (all_split 1 ck_X7_swap_0 (all_split 1 ck_X7_swap_1 ck_X7_swap_2))
theorem ck_X7_sum : ckM 86 = true := by decide +kernel
theorem ck_X7_filledIn : ckM 87 = true := by decide +kernel
theorem ck_X8_init : ckM 88 = true := by decide +kernel
set_option maxRecDepth 20000 in
theorem ck_X8_add_0 : ((XP 89).all (ckB 89)) = true := by decide +kernel
