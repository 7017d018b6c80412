/-! entries checked -/
set_option maxRecDepth 20000 in
theorem ck_X12_pair_2 : (((((XP 241).drop 6).drop 5).take 4).all (ckB 241)) = true := by decide +kernel
set_option maxRecDepth 20000 in
theorem ck_X12_pair_3 : (((((XP 241).drop 6).drop 5).drop 4).all (ckB 241)) = true := by decide +kernel
theorem ck_X12_pair : ckM 241 = true := (all_split 6 ck_X12_pair_0 (all_split 5 ck_X12_pair_1 (all_split 4 ck_X12_pair_2 ck_X12_pair_3)))
set_option maxRecDepth 20000 in
theorem ck_X12_most_0 : (((XP 242).take 6).all (ckB 242)) = true := by decide +kernel
set_option maxRecDepth 20000 in
theorem ck_X12_most_1 : ((((XP 242).drop 6).take 2).all (ckB 242)) = true := by decide +kernel
set_option maxRecDepth 20000 in
theorem ck_X12_most_2 : ((((XP 242).drop 6).drop 2).all (ckB 242)) = true := by decide +kernel
theorem ck_X12_most : ckM 242 = true := (all_split 6 ck_X12_most_0 (all_split 2 ck_X12_most_1 ck_X12_most_2))
theorem ck_X12_isUnsettled : ckM 243 = true := by decide +kernel
theorem ck_X12_unsettled : ckM 244 = true := by decide +kernel
set_option maxRecDepth 20000 in
theorem ck_X12_keeps_0 : (((XP 245).take 5).all (ckB 245)) = true := by decide +kernel
set_option maxRecDepth 20000 in
theorem ck_X12_keeps_1 : ((((XP 245).drop 5).take 6).all (ckB 245)) = true := by decide +kernel
set_option maxRecDepth 20000 in
theorem ck_X12_keeps_2 : (((((XP 245).drop 5).drop 6).take 2).all (ckB 245)) = true := by decide +kernel
set_option maxRecDepth 20000 in
theorem ck_X12_keeps_3 : (((((XP 245).drop 5).drop 6).drop 2).all (ckB 245)) = true := by decide +kernel
theorem ck_X12_keeps : ckM 245 = true := (all_split 5 ck_X12_keeps_0 (all_split 6 ck_X12_keeps_1 (all_split 2 ck_X12_keeps_2 ck_X12_keeps_3)))
theorem ck_X12_lowest : ckM 246 = true := by decide +kernel
theorem ck_X12_many : ckM 247 = true := by decide +kernel
set_option maxRecDepth 20000 in
theorem ck_X12_goesOn_0 : (((XP 248).take 2).all (ckB 248)) = true := by decide +kernel
set_option maxRecDepth 20000 in
theorem ck_X12_goesOn_1 : (((XP 248).drop 2).all (ckB 248)) = true := by decide +kernel
theorem ck_X12_goesOn : ckM 248 = true := (all_split 2 ck_X12_goesOn_0 ck_X12_goesOn_1)
set_option maxRecDepth 20000 in
theorem ck_X12_settle_0 : (((XP 249).take 6).all (ckB 249)) = true := by decide +kernel
set_option maxRecDepth 20000 in
theorem ck_X12_settle_1 : ((((XP 249).drop 6).take 7).all (ckB 249)) = true := by decide +kernel
set_option maxRecDepth 20000 in
theorem ck_X12_settle_2 : ((((XP 249).drop 6).drop 7).all (ckB 249)) = true := by decide +kernel
theorem ck_X12_settle : ckM 249 = true := (all_split 6 ck_X12_settle_0 (all_split 7 ck_X12_settle_1 ck_X12_settle_2))
theorem ck_X12_set : ckM 250 = true := by decide +kernel
theorem ck_X12_isRelation : ckM 251 = true := by decide +kernel
set_option maxRecDepth 20000 in
theorem ck_X12_groupUp_0 : (((XP 252).take 3).all (ckB 252)) = true := by decide +kernel
set_option maxRecDepth 20000 in
theorem ck_X12_groupUp_1 : ((((XP 252).drop 3).take 1).all (ckB 252)) = true := by decide +kernel
set_option maxRecDepth 20000 in
theorem ck_X12_groupUp_2 : ((((XP 252).drop 3).drop 1).all (ckB 252)) = true := by decide +kernel
theorem ck_X12_groupUp : ckM 252 = true := (all_split 3 ck_X12_groupUp_0 (all_split 1 ck_X12_groupUp_1 ck_X12_groupUp_2))
theorem ck_X12_told : ckM 253 = true := by decide +kernel
theorem ck_X12_earlier : ckM 254 = true := by decide +kernel
set_option maxRecDepth 20000 in
theorem ck_X12_hasBy_0 : (((XP 255).take 3).all (ckB 255)) = true := by decide +kernel
set_option maxRecDepth 20000 in
theorem ck_X12_hasBy_1 : (((XP 255).drop 3).all (ckB 255)) = true := by decide +kernel
theorem ck_X12_hasBy : ckM 255 = true := (all_split 3 ck_X12_hasBy_0 ck_X12_hasBy_1)
theorem ck_X12_has : ckM 256 = true := by decide +kernel
set_option maxRecDepth 20000 in
theorem ck_X12_deniedBy_0 : (((XP 257).take 1).all (ckB 257)) = true := by decide +kernel
set_option maxRecDepth 20000 in
theorem ck_X12_deniedBy_1 : ((((XP 257).drop 1).take 1).all (ckB 257)) = true := by decide +kernel
set_option maxRecDepth 20000 in
theorem ck_X12_deniedBy_2 : (((((XP 257).drop 1).drop 1).take 4).all (ckB 257)) = true := by decide +kernel
set_option maxRecDepth 20000 in
theorem ck_X12_deniedBy_3 : (((((XP 257).drop 1).drop 1).drop 4).all (ckB 257)) = true := by decide +kernel
theorem ck_X12_deniedBy : ckM 257 = true := (all_split 1 ck_X12_deniedBy_0 (all_split 1 ck_X12_deniedBy_1 (all_split 4 ck_X12_deniedBy_2 ck_X12_deniedBy_3)))
set_option maxRecDepth 20000 in
theorem ck_X12_oneOnly_0 : (((XP 258).take 5).all (ckB 258)) = true := by decide +kernel
set_option maxRecDepth 20000 in
theorem ck_X12_oneOnly_1 : (((XP 258).drop 5).all (ckB 258)) = true := by decide +kernel
theorem ck_X12_oneOnly : ckM 258 = true := (all_split 5 ck_X12_oneOnly_0 ck_X12_oneOnly_1)
theorem ck_X12_relation : ckM 259 = true := by decide +kernel
theorem ck_X12_isCouple : ckM 260 = true := by decide +kernel
set_option maxRecDepth 20000 in
theorem ck_X12_relate_0 : (((XP 261).take 6).all (ckB 261)) = true := by decide +kernel
set_option maxRecDepth 20000 in
theorem ck_X12_relate_1 : (((XP 261).drop 6).all (ckB 261)) = true := by decide +kernel
theorem ck_X12_relate : ckM 261 = true := (all_split 6 ck_X12_relate_0 ck_X12_relate_1)
set_option maxRecDepth 20000 in
theorem ck_X12_deny_0 : (((XP 262).take 6).all (ckB 262)) = true := by decide +kernel
set_option maxRecDepth 20000 in
theorem ck_X12_deny_1 : (((XP 262).drop 6).all (ckB 262)) = true := by decide +kernel
theorem ck_X12_deny : ckM 262 = true := (all_split 6 ck_X12_deny_0 ck_X12_deny_1)
theorem ck_X12_related : ckM 263 = true := by decide +kernel
set_option maxRecDepth 20000 in
theorem ck_X12_couples_0 : (((XP 264).take 3).all (ckB 264)) = true := by decide +kernel
set_option maxRecDepth 20000 in
theorem ck_X12_couples_1 : ((((XP 264).drop 3).take 5).all (ckB 264)) = true := by decide +kernel
set_option maxRecDepth 20000 in
theorem ck_X12_couples_2 : (((((XP 264).drop 3).drop 5).take 1).all (ckB 264)) = true := by decide +kernel
set_option maxRecDepth 20000 in
theorem ck_X12_couples_3 : (((((XP 264).drop 3).drop 5).drop 1).all (ckB 264)) = true := by decide +kernel
theorem ck_X12_couples : ckM 264 = true := (all_split 3 ck_X12_couples_0 (all_split 5 ck_X12_couples_1 (all_split 1 ck_X12_couples_2 ck_X12_couples_3)))
set_option maxRecDepth 20000 in
theorem ck_X12_goBack_0 : (((XP 265).take 4).all (ckB 265)) = true := by decide +kernel
set_option maxRecDepth 20000 in
theorem ck_X12_goBack_1 : ((((XP 265).drop 4).take 3).all (ckB 265)) = true := by decide +kernel
set_option maxRecDepth 20000 in
theorem ck_X12_goBack_2 : ((((XP 265).drop 4).drop 3).all (ckB 265)) = true := by decide +kernel
