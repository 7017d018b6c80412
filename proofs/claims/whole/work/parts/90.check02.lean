/-! entries checked -/
theorem ck_X8_add : ckM 89 = true := ck_X8_add_0
theorem ck_X8_has : ckM 90 = true := by decide +kernel
theorem ck_X8_all : ckM 91 = true := by decide +kernel
theorem ck_X8_holders : ckM 92 = true := by decide +kernel
theorem ck_X8_isRoom : ckM 93 = true := by decide +kernel
theorem ck_X8_haveRoom : ckM 94 = true := by decide +kernel
theorem ck_X8_isCarrier : ckM 95 = true := by decide +kernel
theorem ck_X8_isHolder : ckM 96 = true := by decide +kernel
theorem ck_X8_hasLid : ckM 97 = true := by decide +kernel
theorem ck_X8_isFixed : ckM 98 = true := by decide +kernel
theorem ck_X8_liesInOne : ckM 99 = true := by decide +kernel
theorem ck_X8_mayLieIn : ckM 100 = true := by decide +kernel
theorem ck_X8_worth : ckM 101 = true := by decide +kernel
theorem ck_X8_lid : ckM 102 = true := by decide +kernel
theorem ck_X9_init : ckM 103 = true := by decide +kernel
set_option maxRecDepth 20000 in
theorem ck_X9_add_0 : (((XP 104).take 3).all (ckB 104)) = true := by decide +kernel
set_option maxRecDepth 20000 in
theorem ck_X9_add_1 : (((XP 104).drop 3).all (ckB 104)) = true := by decide +kernel
theorem ck_X9_add : ckM 104 = true := (all_split 3 ck_X9_add_0 ck_X9_add_1)
theorem ck_X9_has : ckM 105 = true := by decide +kernel
theorem ck_X9_emptyCell : ckM 106 = true := by decide +kernel
theorem ck_X9_knows : ckM 107 = true := by decide +kernel
theorem ck_X9_takes : ckM 108 = true := by decide +kernel
theorem ck_X9_isFor : ckM 109 = true := by decide +kernel
theorem ck_X9_tellUsual : ckM 110 = true := by decide +kernel
theorem ck_X9_tellGiven : ckM 111 = true := by decide +kernel
theorem ck_X9_givenBy : ckM 112 = true := by decide +kernel
theorem ck_X9_givenCell : ckM 113 = true := by decide +kernel
theorem ck_X9_isGivenOtherwise : ckM 114 = true := by decide +kernel
set_option maxRecDepth 20000 in
theorem ck_X9_valueOf_0 : (((XP 115).take 3).all (ckB 115)) = true := by decide +kernel
set_option maxRecDepth 20000 in
theorem ck_X9_valueOf_1 : (((XP 115).drop 3).all (ckB 115)) = true := by decide +kernel
theorem ck_X9_valueOf : ckM 115 = true := (all_split 3 ck_X9_valueOf_0 ck_X9_valueOf_1)
theorem ck_X10_init : ckM 116 = true := by decide +kernel
theorem ck_X10_begin : ckM 117 = true := by decide +kernel
set_option maxRecDepth 20000 in
theorem ck_X10_step_0 : (((XP 118).take 2).all (ckB 118)) = true := by decide +kernel
set_option maxRecDepth 20000 in
theorem ck_X10_step_1 : (((XP 118).drop 2).all (ckB 118)) = true := by decide +kernel
theorem ck_X10_step : ckM 118 = true := (all_split 2 ck_X10_step_0 ck_X10_step_1)
set_option maxRecDepth 20000 in
theorem ck_X11_init_0 : (((XP 119).take 1).all (ckB 119)) = true := by decide +kernel
set_option maxRecDepth 20000 in
theorem ck_X11_init_1 : (((XP 119).drop 1).all (ckB 119)) = true := by decide +kernel
theorem ck_X11_init : ckM 119 = true := (all_split 1 ck_X11_init_0 ck_X11_init_1)
theorem ck_X11_beginAnew : ckM 120 = true := by decide +kernel
theorem ck_X11_faulted : ckM 121 = true := by decide +kernel
theorem ck_X11_against : ckM 122 = true := by decide +kernel
theorem ck_X11_inRange : ckM 123 = true := by decide +kernel
theorem ck_X11_kind : ckM 124 = true := by decide +kernel
theorem ck_X11_is : ckM 125 = true := by decide +kernel
theorem ck_X11_property : ckM 126 = true := by decide +kernel
set_option maxRecDepth 20000 in
theorem ck_X11_usual_0 : (((XP 127).take 4).all (ckB 127)) = true := by decide +kernel
set_option maxRecDepth 20000 in
theorem ck_X11_usual_1 : (((XP 127).drop 4).all (ckB 127)) = true := by decide +kernel
theorem ck_X11_usual : ckM 127 = true := (all_split 4 ck_X11_usual_0 ck_X11_usual_1)
theorem ck_X11_thing : ckM 128 = true := by decide +kernel
set_option maxRecDepth 20000 in
theorem ck_X11_put_0 : (((XP 129).take 6).all (ckB 129)) = true := by decide +kernel
set_option maxRecDepth 20000 in
theorem ck_X11_put_1 : (((XP 129).drop 6).all (ckB 129)) = true := by decide +kernel
theorem ck_X11_put : ckM 129 = true := (all_split 6 ck_X11_put_0 ck_X11_put_1)
set_option maxRecDepth 20000 in
theorem ck_X11_bar_0 : (((XP 130).take 6).all (ckB 130)) = true := by decide +kernel
set_option maxRecDepth 20000 in
theorem ck_X11_bar_1 : (((XP 130).drop 6).all (ckB 130)) = true := by decide +kernel
theorem ck_X11_bar : ckM 130 = true := (all_split 6 ck_X11_bar_0 ck_X11_bar_1)
set_option maxRecDepth 20000 in
theorem ck_X11_give_0 : (((XP 131).take 5).all (ckB 131)) = true := by decide +kernel
set_option maxRecDepth 20000 in
theorem ck_X11_give_1 : (((XP 131).drop 5).all (ckB 131)) = true := by decide +kernel
theorem ck_X11_give : ckM 131 = true := (all_split 5 ck_X11_give_0 ck_X11_give_1)
theorem ck_X11_value : ckM 132 = true := by decide +kernel
