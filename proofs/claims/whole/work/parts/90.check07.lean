/-! entries checked -/
theorem ck_X12_goBack : ckM 265 = true := (all_split 4 ck_X12_goBack_0 (all_split 3 ck_X12_goBack_1 ck_X12_goBack_2))
theorem ck_X12_along : ckM 266 = true := by decide +kernel
set_option maxRecDepth 20000 in
theorem ck_X12_next_0 : (((XP 267).take 4).all (ckB 267)) = true := by decide +kernel
set_option maxRecDepth 20000 in
theorem ck_X12_next_1 : (((XP 267).drop 4).all (ckB 267)) = true := by decide +kernel
theorem ck_X12_next : ckM 267 = true := (all_split 4 ck_X12_next_0 ck_X12_next_1)
theorem ck_X12_isRoom : ckM 268 = true := by decide +kernel
theorem ck_X12_lead : ckM 269 = true := by decide +kernel
set_option maxRecDepth 20000 in
theorem ck_X12_exit_0 : (((XP 270).take 4).all (ckB 270)) = true := by decide +kernel
set_option maxRecDepth 20000 in
theorem ck_X12_exit_1 : ((((XP 270).drop 4).take 5).all (ckB 270)) = true := by decide +kernel
set_option maxRecDepth 20000 in
theorem ck_X12_exit_2 : ((((XP 270).drop 4).drop 5).all (ckB 270)) = true := by decide +kernel
theorem ck_X12_exit : ckM 270 = true := (all_split 4 ck_X12_exit_0 (all_split 5 ck_X12_exit_1 ck_X12_exit_2))
set_option maxRecDepth 20000 in
theorem ck_X12_door_0 : (((XP 271).take 7).all (ckB 271)) = true := by decide +kernel
set_option maxRecDepth 20000 in
theorem ck_X12_door_1 : ((((XP 271).drop 7).take 2).all (ckB 271)) = true := by decide +kernel
set_option maxRecDepth 20000 in
theorem ck_X12_door_2 : (((((XP 271).drop 7).drop 2).take 2).all (ckB 271)) = true := by decide +kernel
set_option maxRecDepth 20000 in
theorem ck_X12_door_3 : (((((XP 271).drop 7).drop 2).drop 2).all (ckB 271)) = true := by decide +kernel
theorem ck_X12_door : ckM 271 = true := (all_split 7 ck_X12_door_0 (all_split 2 ck_X12_door_1 (all_split 2 ck_X12_door_2 ck_X12_door_3)))
theorem ck_X12_leads : ckM 272 = true := by decide +kernel
theorem ck_X12_sort : ckM 273 = true := by decide +kernel
theorem ck_X12_goes : ckM 274 = true := by decide +kernel
set_option maxRecDepth 20000 in
theorem ck_X12_routeBack_0 : (((XP 275).take 5).all (ckB 275)) = true := by decide +kernel
set_option maxRecDepth 20000 in
theorem ck_X12_routeBack_1 : ((((XP 275).drop 5).take 4).all (ckB 275)) = true := by decide +kernel
set_option maxRecDepth 20000 in
theorem ck_X12_routeBack_2 : ((((XP 275).drop 5).drop 4).all (ckB 275)) = true := by decide +kernel
theorem ck_X12_routeBack : ckM 275 = true := (all_split 5 ck_X12_routeBack_0 (all_split 4 ck_X12_routeBack_1 ck_X12_routeBack_2))
theorem ck_X12_route : ckM 276 = true := by decide +kernel
set_option maxRecDepth 20000 in
theorem ck_X12_first__0 : (((XP 277).take 5).all (ckB 277)) = true := by decide +kernel
set_option maxRecDepth 20000 in
theorem ck_X12_first__1 : (((XP 277).drop 5).all (ckB 277)) = true := by decide +kernel
theorem ck_X12_first_ : ckM 277 = true := (all_split 5 ck_X12_first__0 ck_X12_first__1)
theorem ck_X12_isShelf : ckM 278 = true := by decide +kernel
theorem ck_X12_takes : ckM 279 = true := by decide +kernel
set_option maxRecDepth 20000 in
theorem ck_X12_shelf_0 : (((XP 280).take 5).all (ckB 280)) = true := by decide +kernel
set_option maxRecDepth 20000 in
theorem ck_X12_shelf_1 : (((XP 280).drop 5).all (ckB 280)) = true := by decide +kernel
theorem ck_X12_shelf : ckM 280 = true := (all_split 5 ck_X12_shelf_0 ck_X12_shelf_1)
set_option maxRecDepth 20000 in
theorem ck_X12_stand_0 : (((XP 281).take 4).all (ckB 281)) = true := by decide +kernel
set_option maxRecDepth 20000 in
theorem ck_X12_stand_1 : (((XP 281).drop 4).all (ckB 281)) = true := by decide +kernel
theorem ck_X12_stand : ckM 281 = true := (all_split 4 ck_X12_stand_0 ck_X12_stand_1)
theorem ck_X12_stands : ckM 282 = true := by decide +kernel
set_option maxRecDepth 20000 in
theorem ck_X12_haul_0 : (((XP 283).take 4).all (ckB 283)) = true := by decide +kernel
set_option maxRecDepth 20000 in
theorem ck_X12_haul_1 : ((((XP 283).drop 4).take 3).all (ckB 283)) = true := by decide +kernel
set_option maxRecDepth 20000 in
theorem ck_X12_haul_2 : (((((XP 283).drop 4).drop 3).take 3).all (ckB 283)) = true := by decide +kernel
set_option maxRecDepth 20000 in
theorem ck_X12_haul_3 : (((((XP 283).drop 4).drop 3).drop 3).all (ckB 283)) = true := by decide +kernel
theorem ck_X12_haul : ckM 283 = true := (all_split 4 ck_X12_haul_0 (all_split 3 ck_X12_haul_1 (all_split 3 ck_X12_haul_2 ck_X12_haul_3)))
theorem ck_X12_came : ckM 284 = true := by decide +kernel
theorem ck_X12_isTable : ckM 285 = true := by decide +kernel
set_option maxRecDepth 20000 in
theorem ck_X12_table_0 : (((XP 286).take 6).all (ckB 286)) = true := by decide +kernel
set_option maxRecDepth 20000 in
theorem ck_X12_table_1 : ((((XP 286).drop 6).take 4).all (ckB 286)) = true := by decide +kernel
set_option maxRecDepth 20000 in
theorem ck_X12_table_2 : (((((XP 286).drop 6).drop 4).take 3).all (ckB 286)) = true := by decide +kernel
set_option maxRecDepth 20000 in
theorem ck_X12_table_3 : (((((XP 286).drop 6).drop 4).drop 3).all (ckB 286)) = true := by decide +kernel
theorem ck_X12_table : ckM 286 = true := (all_split 6 ck_X12_table_0 (all_split 4 ck_X12_table_1 (all_split 3 ck_X12_table_2 ck_X12_table_3)))
theorem ck_X12_isColumn : ckM 287 = true := by decide +kernel
theorem ck_X12_isCell : ckM 288 = true := by decide +kernel
theorem ck_X12_cellAt : ckM 289 = true := by decide +kernel
set_option maxRecDepth 20000 in
theorem ck_X12_fill_0 : (((XP 290).take 2).all (ckB 290)) = true := by decide +kernel
set_option maxRecDepth 20000 in
theorem ck_X12_fill_1 : ((((XP 290).drop 2).take 3).all (ckB 290)) = true := by decide +kernel
set_option maxRecDepth 20000 in
theorem ck_X12_fill_2 : ((((XP 290).drop 2).drop 3).all (ckB 290)) = true := by decide +kernel
theorem ck_X12_fill : ckM 290 = true := (all_split 2 ck_X12_fill_0 (all_split 3 ck_X12_fill_1 ck_X12_fill_2))
theorem ck_X12_blank : ckM 291 = true := by decide +kernel
theorem ck_X12_read : ckM 292 = true := by decide +kernel
set_option maxRecDepth 20000 in
theorem ck_X12_choose_0 : (((XP 293).take 4).all (ckB 293)) = true := by decide +kernel
set_option maxRecDepth 20000 in
theorem ck_X12_choose_1 : (((XP 293).drop 4).all (ckB 293)) = true := by decide +kernel
theorem ck_X12_choose : ckM 293 = true := (all_split 4 ck_X12_choose_0 ck_X12_choose_1)
