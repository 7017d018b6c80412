/-! entries checked -/
set_option maxRecDepth 20000 in
theorem ck_X12_isAhead_0 : (((XP 294).take 4).all (ckB 294)) = true := by decide +kernel
set_option maxRecDepth 20000 in
theorem ck_X12_isAhead_1 : ((((XP 294).drop 4).take 5).all (ckB 294)) = true := by decide +kernel
set_option maxRecDepth 20000 in
theorem ck_X12_isAhead_2 : ((((XP 294).drop 4).drop 5).all (ckB 294)) = true := by decide +kernel
theorem ck_X12_isAhead : ckM 294 = true := (all_split 4 ck_X12_isAhead_0 (all_split 5 ck_X12_isAhead_1 ck_X12_isAhead_2))
set_option maxRecDepth 20000 in
theorem ck_X12_rank_0 : (((XP 295).take 4).all (ckB 295)) = true := by decide +kernel
set_option maxRecDepth 20000 in
theorem ck_X12_rank_1 : ((((XP 295).drop 4).take 3).all (ckB 295)) = true := by decide +kernel
set_option maxRecDepth 20000 in
theorem ck_X12_rank_2 : (((((XP 295).drop 4).drop 3).take 2).all (ckB 295)) = true := by decide +kernel
set_option maxRecDepth 20000 in
theorem ck_X12_rank_3 : ((((((XP 295).drop 4).drop 3).drop 2).take 3).all (ckB 295)) = true := by decide +kernel
set_option maxRecDepth 20000 in
theorem ck_X12_rank_4 : (((((((XP 295).drop 4).drop 3).drop 2).drop 3).take 1).all (ckB 295)) = true := by decide +kernel
set_option maxRecDepth 20000 in
theorem ck_X12_rank_5 : (((((((XP 295).drop 4).drop 3).drop 2).drop 3).drop 1).all (ckB 295)) = true := by decide +kernel
theorem ck_X12_rank : ckM 295 = true := (all_split 4 ck_X12_rank_0 (all_split 3 ck_X12_rank_1 (all_split 2 ck_X12_rank_2 (all_split 3 ck_X12_rank_3 (all_split 1 ck_X12_rank_4 ck_X12_rank_5)))))
theorem ck_X12_filledIn : ckM 296 = true := by decide +kernel
theorem ck_X12_sumOf : ckM 297 = true := by decide +kernel
theorem ck_X12_total : ckM 298 = true := by decide +kernel
theorem ck_X12_mean : ckM 299 = true := by decide +kernel
theorem ck_X12_add : ckM 300 = true := by decide +kernel
set_option maxRecDepth 20000 in
theorem ck_X12_make_0 : (((XP 301).take 8).all (ckB 301)) = true := by decide +kernel
set_option maxRecDepth 20000 in
theorem ck_X12_make_1 : ((((XP 301).drop 8).take 2).all (ckB 301)) = true := by decide +kernel
set_option maxRecDepth 20000 in
theorem ck_X12_make_2 : (((((XP 301).drop 8).drop 2).take 8).all (ckB 301)) = true := by decide +kernel
set_option maxRecDepth 20000 in
theorem ck_X12_make_3 : (((((XP 301).drop 8).drop 2).drop 8).all (ckB 301)) = true := by decide +kernel
theorem ck_X12_make : ckM 301 = true := (all_split 8 ck_X12_make_0 (all_split 2 ck_X12_make_1 (all_split 8 ck_X12_make_2 ck_X12_make_3)))
theorem ck_X12_word : ckM 302 = true := by decide +kernel
theorem ck_X12_digest : ckM 303 = true := by decide +kernel
theorem ck_X12_sentence : ckM 304 = true := by decide +kernel
theorem ck_X12_count : ckM 305 = true := by decide +kernel
theorem ck_X12_fault : ckM 306 = true := by decide +kernel
theorem ck_X12_clear : ckM 307 = true := by decide +kernel
set_option maxRecDepth 20000 in
theorem ck_J13_bitCount_95d88_0 : ((XP 308).all (ckB 308)) = true := by decide +kernel
theorem ck_J13_bitCount_95d88 : ckM 308 = true := ck_J13_bitCount_95d88_0
theorem ck_J9_max_7cf53 : ckM 309 = true := by decide +kernel
set_option maxRecDepth 20000 in
theorem ck_L_law_0 : (((XP 310).take 3).all (ckB 310)) = true := by decide +kernel
set_option maxRecDepth 20000 in
theorem ck_L_law_1 : ((((XP 310).drop 3).take 1).all (ckB 310)) = true := by decide +kernel
set_option maxRecDepth 20000 in
theorem ck_L_law_2 : (((((XP 310).drop 3).drop 1).take 1).all (ckB 310)) = true := by decide +kernel
set_option maxRecDepth 20000 in
theorem ck_L_law_3 : ((((((XP 310).drop 3).drop 1).drop 1).take 1).all (ckB 310)) = true := by decide +kernel
set_option maxRecDepth 20000 in
theorem ck_L_law_4 : (((((((XP 310).drop 3).drop 1).drop 1).drop 1).take 1).all (ckB 310)) = true := by decide +kernel
set_option maxRecDepth 20000 in
theorem ck_L_law_5 : ((((((((XP 310).drop 3).drop 1).drop 1).drop 1).drop 1).take 1).all (ckB 310)) = true := by decide +kernel
set_option maxRecDepth 20000 in
theorem ck_L_law_6 : (((((((((XP 310).drop 3).drop 1).drop 1).drop 1).drop 1).drop 1).take 1).all (ckB 310)) = true := by decide +kernel
set_option maxRecDepth 20000 in
theorem ck_L_law_7 : ((((((((((XP 310).drop 3).drop 1).drop 1).drop 1).drop 1).drop 1).drop 1).take 1).all (ckB 310)) = true := by decide +kernel
set_option maxRecDepth 20000 in
theorem ck_L_law_8 : (((((((((((XP 310).drop 3).drop 1).drop 1).drop 1).drop 1).drop 1).drop 1).drop 1).take 1).all (ckB 310)) = true := by decide +kernel
set_option maxRecDepth 20000 in
theorem ck_L_law_9 : ((((((((((((XP 310).drop 3).drop 1).drop 1).drop 1).drop 1).drop 1).drop 1).drop 1).drop 1).take 1).all (ckB 310)) = true := by decide +kernel
set_option maxRecDepth 20000 in
theorem ck_L_law_10 : (((((((((((((XP 310).drop 3).drop 1).drop 1).drop 1).drop 1).drop 1).drop 1).drop 1).drop 1).drop 1).take 1).all (ckB 310)) = true := by decide +kernel
set_option maxRecDepth 20000 in
theorem ck_L_law_11 : ((((((((((((((XP 310).drop 3).drop 1).drop 1).drop 1).drop 1).drop 1).drop 1).drop 1).drop 1).drop 1).drop 1).take 1).all (ckB 310)) = true := by decide +kernel
set_option maxRecDepth 20000 in
theorem ck_L_law_12 : (((((((((((((((XP 310).drop 3).drop 1).drop 1).drop 1).drop 1).drop 1).drop 1).drop 1).drop 1).drop 1).drop 1).drop 1).take 1).all (ckB 310)) = true := by decide +kernel
set_option maxRecDepth 20000 in
theorem ck_L_law_13 : ((((((((((((((((XP 310).drop 3).drop 1).drop 1).drop 1).drop 1).drop 1).drop 1).drop 1).drop 1).drop 1).drop 1).drop 1).drop 1).take 1).all (ckB 310)) = true := by decide +kernel
set_option maxRecDepth 20000 in
theorem ck_L_law_14 : (((((((((((((((((XP 310).drop 3).drop 1).drop 1).drop 1).drop 1).drop 1).drop 1).drop 1).drop 1).drop 1).drop 1).drop 1).drop 1).drop 1).take 1).all (ckB 310)) = true := by decide +kernel
set_option maxRecDepth 20000 in
theorem ck_L_law_15 : ((((((((((((((((((XP 310).drop 3).drop 1).drop 1).drop 1).drop 1).drop 1).drop 1).drop 1).drop 1).drop 1).drop 1).drop 1).drop 1).drop 1).drop 1).take 1).all (ckB 310)) = true := by decide +kernel
set_option maxRecDepth 20000 in
theorem ck_L_law_16 : (((((((((((((((((((XP 310).drop 3).drop 1).drop 1).drop 1).drop 1).drop 1).drop 1).drop 1).drop 1).drop 1).drop 1).drop 1).drop 1).drop 1).drop 1).drop 1).take 5).all (ckB 310)) = true := by decide +kernel
set_option maxRecDepth 20000 in
theorem ck_L_law_17 : ((((((((((((((((((((XP 310).drop 3).drop 1).drop 1).drop 1).drop 1).drop 1).drop 1).drop 1).drop 1).drop 1).drop 1).drop 1).drop 1).drop 1).drop 1).drop 1).drop 5).take 1).all (ckB 310)) = true := by decide +kernel
set_option maxRecDepth 20000 in
theorem ck_L_law_18 : (((((((((((((((((((((XP 310).drop 3).drop 1).drop 1).drop 1).drop 1).drop 1).drop 1).drop 1).drop 1).drop 1).drop 1).drop 1).drop 1).drop 1).drop 1).drop 1).drop 5).drop 1).take 5).all (ckB 310)) = true := by decide +kernel
set_option maxRecDepth 20000 in
theorem ck_L_law_19 : ((((((((((((((((((((((XP 310).drop 3).drop 1).drop 1).drop 1).drop 1).drop 1).drop 1).drop 1).drop 1).drop 1).drop 1).drop 1).drop 1).drop 1).drop 1).drop 1).drop 5).drop 1).drop 5).take 2).all (ckB 310)) = true := by decide +kernel
set_option maxRecDepth 20000 in
theorem ck_L_law_20 : (((((((((((((((((((((((XP 310).drop 3).drop 1).drop 1).drop 1).drop 1).drop 1).drop 1).drop 1).drop 1).drop 1).drop 1).drop 1).drop 1).drop 1).drop 1).drop 1).drop 5).drop 1).drop 5).drop 2).take 2).all (ckB 310)) = true := by decide +kernel
set_option maxRecDepth 20000 in
theorem ck_L_law_21 : ((((((((((((((((((((((((XP 310).drop 3).drop 1).drop 1).drop 1).drop 1).drop 1).drop 1).drop 1).drop 1).drop 1).drop 1).drop 1).drop 1).drop 1).drop 1).drop 1).drop 5).drop 1).drop 5).drop 2).drop 2).take 1).all (ckB 310)) = true := by decide +kernel
set_option maxRecDepth 20000 in
theorem ck_L_law_22 : (((((((((((((((((((((((((XP 310).drop 3).drop 1).drop 1).drop 1).drop 1).drop 1).drop 1).drop 1).drop 1).drop 1).drop 1).drop 1).drop 1).drop 1).drop 1).drop 1).drop 5).drop 1).drop 5).drop 2).drop 2).drop 1).take 1).all (ckB 310)) = true := by decide +kernel
set_option maxRecDepth 20000 in
theorem ck_L_law_23 : ((((((((((((((((((((((((((XP 310).drop 3).drop 1).drop 1).drop 1).drop 1).drop 1).drop 1).drop 1).drop 1).drop 1).drop 1).drop 1).drop 1).drop 1).drop 1).drop 1).drop 5).drop 1).drop 5).drop 2).drop 2).drop 1).drop 1).take 1).all (ckB 310)) = true := by decide +kernel
set_option maxRecDepth 20000 in
theorem ck_L_law_24 : (((((((((((((((((((((((((((XP 310).drop 3).drop 1).drop 1).drop 1).drop 1).drop 1).drop 1).drop 1).drop 1).drop 1).drop 1).drop 1).drop 1).drop 1).drop 1).drop 1).drop 5).drop 1).drop 5).drop 2).drop 2).drop 1).drop 1).drop 1).take 1).all (ckB 310)) = true := by decide +kernel
set_option maxRecDepth 20000 in
theorem ck_L_law_25 : ((((((((((((((((((((((((((((XP 310).drop 3).drop 1).drop 1).drop 1).drop 1).drop 1).drop 1).drop 1).drop 1).drop 1).drop 1).drop 1).drop 1).drop 1).drop 1).drop 1).drop 5).drop 1).drop 5).drop 2).drop 2).drop 1).drop 1).drop 1).drop 1).take 1).all (ckB 310)) = true := by decide +kernel
set_option maxRecDepth 20000 in
theorem ck_L_law_26 : (((((((((((((((((((((((((((((XP 310).drop 3).drop 1).drop 1).drop 1).drop 1).drop 1).drop 1).drop 1).drop 1).drop 1).drop 1).drop 1).drop 1).drop 1).drop 1).drop 1).drop 5).drop 1).drop 5).drop 2).drop 2).drop 1).drop 1).drop 1).drop 1).drop 1).take 1).all (ckB 310)) = true := by decide +kernel
set_option maxRecDepth 20000 in
theorem ck_L_law_27 : ((((((((((((((((((((((((((((((XP 310).drop 3).drop 1).drop 1).drop 1).drop 1).drop 1).drop 1).drop 1).drop 1).drop 1).drop 1).drop 1).drop 1).drop 1).drop 1).drop 1).drop 5).drop 1).drop 5).drop 2).drop 2).drop 1).drop 1).drop 1).drop 1).drop 1).drop 1).take 1).all (ckB 310)) = true := by decide +kernel
set_option maxRecDepth 20000 in
theorem ck_L_law_28 : (((((((((((((((((((((((((((((((XP 310).drop 3).drop 1).drop 1).drop 1).drop 1).drop 1).drop 1).drop 1).drop 1).drop 1).drop 1).drop 1).drop 1).drop 1).drop 1).drop 1).drop 5).drop 1).drop 5).drop 2).drop 2).drop 1).drop 1).drop 1).drop 1).drop 1).drop 1).drop 1).take 1).all (ckB 310)) = true := by decide +kernel
set_option maxRecDepth 20000 in
theorem ck_L_law_29 : ((((((((((((((((((((((((((((((((XP 310).drop 3).drop 1).drop 1).drop 1).drop 1).drop 1).drop 1).drop 1).drop 1).drop 1).drop 1).drop 1).drop 1).drop 1).drop 1).drop 1).drop 5).drop 1).drop 5).drop 2).drop 2).drop 1).drop 1).drop 1).drop 1).drop 1).drop 1).drop 1).drop 1).take 1).all (ckB 310)) = true := by decide +kernel
