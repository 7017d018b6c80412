/-! entries checked -/
theorem ck_X12_first : ckM 212 = true := by decide +kernel
theorem ck_X12_latestAmong : ckM 213 = true := by decide +kernel
theorem ck_X12_isWithin : ckM 214 = true := by decide +kernel
theorem ck_X12_placeOf : ckM 215 = true := by decide +kernel
theorem ck_X12_nth : ckM 216 = true := by decide +kernel
theorem ck_X12_held : ckM 217 = true := by decide +kernel
set_option maxRecDepth 20000 in
theorem ck_X12_pairAgainst_0 : (((XP 218).take 4).all (ckB 218)) = true := by decide +kernel
set_option maxRecDepth 20000 in
theorem ck_X12_pairAgainst_1 : (((XP 218).drop 4).all (ckB 218)) = true := by decide +kernel
theorem ck_X12_pairAgainst : ckM 218 = true := (all_split 4 ck_X12_pairAgainst_0 ck_X12_pairAgainst_1)
set_option maxRecDepth 20000 in
theorem ck_X12_putAgainst_0 : (((XP 219).take 2).all (ckB 219)) = true := by decide +kernel
set_option maxRecDepth 20000 in
theorem ck_X12_putAgainst_1 : ((((XP 219).drop 2).take 1).all (ckB 219)) = true := by decide +kernel
set_option maxRecDepth 20000 in
theorem ck_X12_putAgainst_2 : ((((XP 219).drop 2).drop 1).all (ckB 219)) = true := by decide +kernel
theorem ck_X12_putAgainst : ckM 219 = true := (all_split 2 ck_X12_putAgainst_0 (all_split 1 ck_X12_putAgainst_1 ck_X12_putAgainst_2))
theorem ck_X12_lies : ckM 220 = true := by decide +kernel
set_option maxRecDepth 20000 in
theorem ck_X12_put_0 : (((XP 221).take 5).all (ckB 221)) = true := by decide +kernel
set_option maxRecDepth 20000 in
theorem ck_X12_put_1 : ((((XP 221).drop 5).take 4).all (ckB 221)) = true := by decide +kernel
set_option maxRecDepth 20000 in
theorem ck_X12_put_2 : ((((XP 221).drop 5).drop 4).all (ckB 221)) = true := by decide +kernel
theorem ck_X12_put : ckM 221 = true := (all_split 5 ck_X12_put_0 (all_split 4 ck_X12_put_1 ck_X12_put_2))
set_option maxRecDepth 20000 in
theorem ck_X12_bar_0 : (((XP 222).take 5).all (ckB 222)) = true := by decide +kernel
set_option maxRecDepth 20000 in
theorem ck_X12_bar_1 : ((((XP 222).drop 5).take 2).all (ckB 222)) = true := by decide +kernel
set_option maxRecDepth 20000 in
theorem ck_X12_bar_2 : ((((XP 222).drop 5).drop 2).all (ckB 222)) = true := by decide +kernel
theorem ck_X12_bar : ckM 222 = true := (all_split 5 ck_X12_bar_0 (all_split 2 ck_X12_bar_1 ck_X12_bar_2))
set_option maxRecDepth 20000 in
theorem ck_X12_give_0 : (((XP 223).take 5).all (ckB 223)) = true := by decide +kernel
set_option maxRecDepth 20000 in
theorem ck_X12_give_1 : ((((XP 223).drop 5).take 1).all (ckB 223)) = true := by decide +kernel
set_option maxRecDepth 20000 in
theorem ck_X12_give_2 : ((((XP 223).drop 5).drop 1).all (ckB 223)) = true := by decide +kernel
theorem ck_X12_give : ckM 223 = true := (all_split 5 ck_X12_give_0 (all_split 1 ck_X12_give_1 ck_X12_give_2))
set_option maxRecDepth 20000 in
theorem ck_X12_valueOf_0 : (((XP 224).take 3).all (ckB 224)) = true := by decide +kernel
set_option maxRecDepth 20000 in
theorem ck_X12_valueOf_1 : (((XP 224).drop 3).all (ckB 224)) = true := by decide +kernel
theorem ck_X12_valueOf : ckM 224 = true := (all_split 3 ck_X12_valueOf_0 ck_X12_valueOf_1)
theorem ck_X12_value : ckM 225 = true := by decide +kernel
theorem ck_X12_given : ckM 226 = true := by decide +kernel
set_option maxRecDepth 20000 in
theorem ck_X12_peek_0 : (((XP 227).take 4).all (ckB 227)) = true := by decide +kernel
set_option maxRecDepth 20000 in
theorem ck_X12_peek_1 : (((XP 227).drop 4).all (ckB 227)) = true := by decide +kernel
theorem ck_X12_peek : ckM 227 = true := (all_split 4 ck_X12_peek_0 ck_X12_peek_1)
theorem ck_X12_place : ckM 228 = true := by decide +kernel
theorem ck_X12_loadOf : ckM 229 = true := by decide +kernel
theorem ck_X12_bulkOf : ckM 230 = true := by decide +kernel
theorem ck_X12_worthOf : ckM 231 = true := by decide +kernel
theorem ck_X12_lidOf : ckM 232 = true := by decide +kernel
set_option maxRecDepth 20000 in
theorem ck_X12_said_0 : (((XP 233).take 6).all (ckB 233)) = true := by decide +kernel
set_option maxRecDepth 20000 in
theorem ck_X12_said_1 : (((XP 233).drop 6).all (ckB 233)) = true := by decide +kernel
theorem ck_X12_said : ckM 233 = true := (all_split 6 ck_X12_said_0 ck_X12_said_1)
theorem ck_X12_says : ckM 234 = true := by decide +kernel
set_option maxRecDepth 20000 in
theorem ck_X12_follow_0 : (((XP 235).take 5).all (ckB 235)) = true := by decide +kernel
set_option maxRecDepth 20000 in
theorem ck_X12_follow_1 : (((XP 235).drop 5).all (ckB 235)) = true := by decide +kernel
theorem ck_X12_follow : ckM 235 = true := (all_split 5 ck_X12_follow_0 ck_X12_follow_1)
theorem ck_X12_hasOwn : ckM 236 = true := by decide +kernel
theorem ck_X12_mark : ckM 237 = true := by decide +kernel
set_option maxRecDepth 20000 in
theorem ck_X12_remark_0 : (((XP 238).take 6).all (ckB 238)) = true := by decide +kernel
set_option maxRecDepth 20000 in
theorem ck_X12_remark_1 : (((XP 238).drop 6).all (ckB 238)) = true := by decide +kernel
theorem ck_X12_remark : ckM 238 = true := (all_split 6 ck_X12_remark_0 ck_X12_remark_1)
theorem ck_X12_open : ckM 239 = true := by decide +kernel
set_option maxRecDepth 20000 in
theorem ck_X12_among_0 : (((XP 240).take 5).all (ckB 240)) = true := by decide +kernel
set_option maxRecDepth 20000 in
theorem ck_X12_among_1 : ((((XP 240).drop 5).take 7).all (ckB 240)) = true := by decide +kernel
set_option maxRecDepth 20000 in
theorem ck_X12_among_2 : (((((XP 240).drop 5).drop 7).take 3).all (ckB 240)) = true := by decide +kernel
set_option maxRecDepth 20000 in
theorem ck_X12_among_3 : ((((((XP 240).drop 5).drop 7).drop 3).take 4).all (ckB 240)) = true := by decide +kernel
set_option maxRecDepth 20000 in
theorem ck_X12_among_4 : ((((((XP 240).drop 5).drop 7).drop 3).drop 4).all (ckB 240)) = true := by decide +kernel
theorem ck_X12_among : ckM 240 = true := (all_split 5 ck_X12_among_0 (all_split 7 ck_X12_among_1 (all_split 3 ck_X12_among_2 (all_split 4 ck_X12_among_3 ck_X12_among_4))))
set_option maxRecDepth 20000 in
theorem ck_X12_pair_0 : (((XP 241).take 6).all (ckB 241)) = true := by decide +kernel
set_option maxRecDepth 20000 in
theorem ck_X12_pair_1 : ((((XP 241).drop 6).take 5).all (ckB 241)) = true := by decide +kernel
