/-! each entry checked -/
theorem all_split {α : Type} {l : List α} {f : α → Bool} (n : Nat) (h1 : (l.take n).all f = true) (h2 : (l.drop n).all f = true) : l.all f = true := by
  rw [← List.take_append_drop n l, List.all_append, h1, h2]
  rfl
theorem ck_X0_init : ckM 0 = true := by decide +kernel
theorem ck_X0_begin : ckM 1 = true := by decide +kernel
theorem ck_X0_add : ckM 2 = true := by decide +kernel
theorem ck_X0_has : ckM 3 = true := by decide +kernel
theorem ck_X0_fits : ckM 4 = true := by decide +kernel
theorem ck_X0_baseOf : ckM 5 = true := by decide +kernel
set_option maxRecDepth 20000 in
theorem ck_X1_init_0 : ((XP 6).all (ckB 6)) = true := by decide +kernel
theorem ck_X1_init : ckM 6 = true := ck_X1_init_0
theorem ck_X1_begin : ckM 7 = true := by decide +kernel
theorem ck_X1_homeAt : ckM 8 = true := by decide +kernel
theorem ck_X1_isLaid : ckM 9 = true := by decide +kernel
theorem ck_X1_liesIn : ckM 10 = true := by decide +kernel
theorem ck_X1_hasAllHomes : ckM 11 = true := by decide +kernel
theorem ck_X1_isWithin : ckM 12 = true := by decide +kernel
theorem ck_X1_lay : ckM 13 = true := by decide +kernel
theorem ck_X1_lift : ckM 14 = true := by decide +kernel
set_option maxRecDepth 20000 in
theorem ck_X1_againstPut_0 : (((XP 15).take 2).all (ckB 15)) = true := by decide +kernel
set_option maxRecDepth 20000 in
theorem ck_X1_againstPut_1 : (((XP 15).drop 2).all (ckB 15)) = true := by decide +kernel
theorem ck_X1_againstPut : ckM 15 = true := (all_split 2 ck_X1_againstPut_0 ck_X1_againstPut_1)
theorem ck_X1_isCrowded : ckM 16 = true := by decide +kernel
theorem ck_X1_againstPairs : ckM 17 = true := by decide +kernel
theorem ck_X1_partner : ckM 18 = true := by decide +kernel
theorem ck_X1_againstBar : ckM 19 = true := by decide +kernel
theorem ck_X1_shut : ckM 20 = true := by decide +kernel
set_option maxRecDepth 20000 in
theorem ck_X1_againstAmong_0 : (((XP 21).take 2).all (ckB 21)) = true := by decide +kernel
set_option maxRecDepth 20000 in
theorem ck_X1_againstAmong_1 : (((XP 21).drop 2).all (ckB 21)) = true := by decide +kernel
theorem ck_X1_againstAmong : ckM 21 = true := (all_split 2 ck_X1_againstAmong_0 ck_X1_againstAmong_1)
theorem ck_X1_earliestBarInto : ckM 22 = true := by decide +kernel
theorem ck_X1_narrow : ckM 23 = true := by decide +kernel
theorem ck_X1_setOf : ckM 24 = true := by decide +kernel
theorem ck_X1_isUnsettled : ckM 25 = true := by decide +kernel
theorem ck_X1_unsettled : ckM 26 = true := by decide +kernel
set_option maxRecDepth 20000 in
theorem ck_X1_againstPairing_0 : (((XP 27).take 5).all (ckB 27)) = true := by decide +kernel
set_option maxRecDepth 20000 in
theorem ck_X1_againstPairing_1 : (((XP 27).drop 5).all (ckB 27)) = true := by decide +kernel
theorem ck_X1_againstPairing : ckM 27 = true := (all_split 5 ck_X1_againstPairing_0 ck_X1_againstPairing_1)
theorem ck_X1_addPair : ckM 28 = true := by decide +kernel
theorem ck_X1_hasMost : ckM 29 = true := by decide +kernel
theorem ck_X1_tellMost : ckM 30 = true := by decide +kernel
theorem ck_X1_putBehind : ckM 31 = true := by decide +kernel
theorem ck_X1_bulk : ckM 32 = true := by decide +kernel
theorem ck_X1_bulkAlone : ckM 33 = true := by decide +kernel
theorem ck_X1_load : ckM 34 = true := by decide +kernel
theorem ck_X2_init : ckM 35 = true := by decide +kernel
theorem ck_X2_add : ckM 36 = true := by decide +kernel
theorem ck_X2_has : ckM 37 = true := by decide +kernel
theorem ck_X2_rowOf : ckM 38 = true := by decide +kernel
theorem ck_X2_holds : ckM 39 = true := by decide +kernel
set_option maxRecDepth 20000 in
theorem ck_X2_join_0 : (((XP 40).take 2).all (ckB 40)) = true := by decide +kernel
set_option maxRecDepth 20000 in
theorem ck_X2_join_1 : (((XP 40).drop 2).all (ckB 40)) = true := by decide +kernel
theorem ck_X2_join : ckM 40 = true := (all_split 2 ck_X2_join_0 ck_X2_join_1)
theorem ck_X2_merge : ckM 41 = true := by decide +kernel
theorem ck_X2_againstRelate : ckM 42 = true := by decide +kernel
set_option maxRecDepth 20000 in
theorem ck_X2_earliestDeny_0 : (((XP 43).take 5).all (ckB 43)) = true := by decide +kernel
set_option maxRecDepth 20000 in
theorem ck_X2_earliestDeny_1 : ((((XP 43).drop 5).take 1).all (ckB 43)) = true := by decide +kernel
set_option maxRecDepth 20000 in
theorem ck_X2_earliestDeny_2 : ((((XP 43).drop 5).drop 1).all (ckB 43)) = true := by decide +kernel
theorem ck_X2_earliestDeny : ckM 43 = true := (all_split 5 ck_X2_earliestDeny_0 (all_split 1 ck_X2_earliestDeny_1 ck_X2_earliestDeny_2))
set_option maxRecDepth 20000 in
theorem ck_X2_earliestRelate_0 : (((XP 44).take 5).all (ckB 44)) = true := by decide +kernel
set_option maxRecDepth 20000 in
theorem ck_X2_earliestRelate_1 : (((XP 44).drop 5).all (ckB 44)) = true := by decide +kernel
theorem ck_X2_earliestRelate : ckM 44 = true := (all_split 5 ck_X2_earliestRelate_0 ck_X2_earliestRelate_1)
theorem ck_X2_heldBy : ckM 45 = true := by decide +kernel
set_option maxRecDepth 20000 in
theorem ck_X2_togetherBy_0 : (((XP 46).take 3).all (ckB 46)) = true := by decide +kernel
set_option maxRecDepth 20000 in
theorem ck_X2_togetherBy_1 : ((((XP 46).drop 3).take 1).all (ckB 46)) = true := by decide +kernel
set_option maxRecDepth 20000 in
theorem ck_X2_togetherBy_2 : ((((XP 46).drop 3).drop 1).all (ckB 46)) = true := by decide +kernel
theorem ck_X2_togetherBy : ckM 46 = true := (all_split 3 ck_X2_togetherBy_0 (all_split 1 ck_X2_togetherBy_1 ck_X2_togetherBy_2))
set_option maxRecDepth 20000 in
theorem ck_X2_walkFrom_0 : (((XP 47).take 4).all (ckB 47)) = true := by decide +kernel
set_option maxRecDepth 20000 in
theorem ck_X2_walkFrom_1 : (((XP 47).drop 4).all (ckB 47)) = true := by decide +kernel
theorem ck_X2_walkFrom : ckM 47 = true := (all_split 4 ck_X2_walkFrom_0 ck_X2_walkFrom_1)
theorem ck_X2_couples : ckM 48 = true := by decide +kernel
theorem ck_X3_init : ckM 49 = true := by decide +kernel
theorem ck_X3_begin : ckM 50 = true := by decide +kernel
theorem ck_X3_write : ckM 51 = true := by decide +kernel
theorem ck_X3_sortOf : ckM 52 = true := by decide +kernel
theorem ck_X3_leadsTo : ckM 53 = true := by decide +kernel
theorem ck_X3_isTold : ckM 54 = true := by decide +kernel
theorem ck_X3_toldIn : ckM 55 = true := by decide +kernel
theorem ck_X3_opposite : ckM 56 = true := by decide +kernel
theorem ck_X3_tellExit : ckM 57 = true := by decide +kernel
theorem ck_X3_againstDoor : ckM 58 = true := by decide +kernel
theorem ck_X3_tellDoor : ckM 59 = true := by decide +kernel
theorem ck_X3_isPassable : ckM 60 = true := by decide +kernel
theorem ck_X3_walkFrom : ckM 61 = true := by decide +kernel
theorem ck_X4_init : ckM 62 = true := by decide +kernel
theorem ck_X4_areFull : ckM 63 = true := by decide +kernel
theorem ck_X4_add : ckM 64 = true := by decide +kernel
theorem ck_X4_earliest : ckM 65 = true := by decide +kernel
theorem ck_X5_init : ckM 66 = true := by decide +kernel
theorem ck_X5_ways : ckM 67 = true := by decide +kernel
theorem ck_X5_thingAt : ckM 68 = true := by decide +kernel
theorem ck_X5_takeLeastWay : ckM 69 = true := by decide +kernel
set_option maxRecDepth 20000 in
theorem ck_X5_layFrom_0 : (((XP 70).take 2).all (ckB 70)) = true := by decide +kernel
set_option maxRecDepth 20000 in
theorem ck_X5_layFrom_1 : (((XP 70).drop 2).all (ckB 70)) = true := by decide +kernel
theorem ck_X5_layFrom : ckM 70 = true := (all_split 2 ck_X5_layFrom_0 ck_X5_layFrom_1)
theorem ck_X5_lets : ckM 71 = true := by decide +kernel
theorem ck_X6_init : ckM 72 = true := by decide +kernel
theorem ck_X6_begin : ckM 73 = true := by decide +kernel
theorem ck_X6_spans : ckM 74 = true := by decide +kernel
theorem ck_X7_init : ckM 75 = true := by decide +kernel
theorem ck_X7_begin : ckM 76 = true := by decide +kernel
theorem ck_X7_hasCell : ckM 77 = true := by decide +kernel
theorem ck_X7_isBlank : ckM 78 = true := by decide +kernel
theorem ck_X7_told : ckM 79 = true := by decide +kernel
theorem ck_X7_write : ckM 80 = true := by decide +kernel
theorem ck_X7_wipe : ckM 81 = true := by decide +kernel
theorem ck_X7_rowWith : ckM 82 = true := by decide +kernel
set_option maxRecDepth 20000 in
theorem ck_X7_order_0 : (((XP 83).take 6).all (ckB 83)) = true := by decide +kernel
set_option maxRecDepth 20000 in
theorem ck_X7_order_1 : (((XP 83).drop 6).all (ckB 83)) = true := by decide +kernel
theorem ck_X7_order : ckM 83 = true := (all_split 6 ck_X7_order_0 ck_X7_order_1)
theorem ck_X7_isAhead : ckM 84 = true := by decide +kernel
set_option maxRecDepth 20000 in
theorem ck_X7_swap_0 : (((XP 85).take 1).all (ckB 85)) = true := by decide +kernel
set_option maxRecDepth 20000 in
theorem ck_X7_swap_1 : ((((XP 85).drop 1).take 1).all (ckB 85)) = true := by decide +kernel
set_option maxRecDepth 20000 in
theorem ck_X7_swap_2 : ((((XP 85).drop 1).drop 1).all (ckB 85)) = true := by decide +kernel
theorem ck_X7_swap : ckM 85 = true := (all_split 1 ck_X7_swap_0 (all_split 1 ck_X7_swap_1 ck_X7_swap_2))
theorem ck_X7_sum : ckM 86 = true := by decide +kernel
theorem ck_X7_filledIn : ckM 87 = true := by decide +kernel
theorem ck_X8_init : ckM 88 = true := by decide +kernel
set_option maxRecDepth 20000 in
theorem ck_X8_add_0 : ((XP 89).all (ckB 89)) = true := by decide +kernel
theorem ck_X8_add : ckM 89 = true := ck_X8_add_0
theorem ck_X8_has : ckM 90 = true := by decide +kernel
theorem ck_X8_all : ckM 91 = true := by decide +kernel
theorem ck_X8_holders : ckM 92 = true := by decide +kernel
theorem ck_X8_isRoom : ckM 93 = true := by decide +kernel
theorem ck_X8_haveRoom : ckM 94 = true := by decide +kernel
theorem ck_X8_isCarrier : ckM 95 = true := by decide +kernel
theorem ck_X8_isHolder : ckM 96 = true := by decide +kernel
theorem ck_X8_hasLid : ckM 97 = true := by decide +kernel
theorem ck_X8_isFixed : ckM 98 = true := by decide +kernel
theorem ck_X8_liesInOne : ckM 99 = true := by decide +kernel
theorem ck_X8_mayLieIn : ckM 100 = true := by decide +kernel
theorem ck_X8_worth : ckM 101 = true := by decide +kernel
theorem ck_X8_lid : ckM 102 = true := by decide +kernel
theorem ck_X9_init : ckM 103 = true := by decide +kernel
set_option maxRecDepth 20000 in
theorem ck_X9_add_0 : (((XP 104).take 3).all (ckB 104)) = true := by decide +kernel
set_option maxRecDepth 20000 in
theorem ck_X9_add_1 : (((XP 104).drop 3).all (ckB 104)) = true := by decide +kernel
theorem ck_X9_add : ckM 104 = true := (all_split 3 ck_X9_add_0 ck_X9_add_1)
theorem ck_X9_has : ckM 105 = true := by decide +kernel
theorem ck_X9_emptyCell : ckM 106 = true := by decide +kernel
theorem ck_X9_knows : ckM 107 = true := by decide +kernel
theorem ck_X9_takes : ckM 108 = true := by decide +kernel
theorem ck_X9_isFor : ckM 109 = true := by decide +kernel
theorem ck_X9_tellUsual : ckM 110 = true := by decide +kernel
theorem ck_X9_tellGiven : ckM 111 = true := by decide +kernel
theorem ck_X9_givenBy : ckM 112 = true := by decide +kernel
theorem ck_X9_givenCell : ckM 113 = true := by decide +kernel
theorem ck_X9_isGivenOtherwise : ckM 114 = true := by decide +kernel
set_option maxRecDepth 20000 in
theorem ck_X9_valueOf_0 : (((XP 115).take 3).all (ckB 115)) = true := by decide +kernel
set_option maxRecDepth 20000 in
theorem ck_X9_valueOf_1 : (((XP 115).drop 3).all (ckB 115)) = true := by decide +kernel
theorem ck_X9_valueOf : ckM 115 = true := (all_split 3 ck_X9_valueOf_0 ck_X9_valueOf_1)
theorem ck_X10_init : ckM 116 = true := by decide +kernel
theorem ck_X10_begin : ckM 117 = true := by decide +kernel
set_option maxRecDepth 20000 in
theorem ck_X10_step_0 : (((XP 118).take 2).all (ckB 118)) = true := by decide +kernel
set_option maxRecDepth 20000 in
theorem ck_X10_step_1 : (((XP 118).drop 2).all (ckB 118)) = true := by decide +kernel
theorem ck_X10_step : ckM 118 = true := (all_split 2 ck_X10_step_0 ck_X10_step_1)
set_option maxRecDepth 20000 in
theorem ck_X11_init_0 : (((XP 119).take 1).all (ckB 119)) = true := by decide +kernel
set_option maxRecDepth 20000 in
theorem ck_X11_init_1 : (((XP 119).drop 1).all (ckB 119)) = true := by decide +kernel
theorem ck_X11_init : ckM 119 = true := (all_split 1 ck_X11_init_0 ck_X11_init_1)
theorem ck_X11_beginAnew : ckM 120 = true := by decide +kernel
theorem ck_X11_faulted : ckM 121 = true := by decide +kernel
theorem ck_X11_against : ckM 122 = true := by decide +kernel
theorem ck_X11_inRange : ckM 123 = true := by decide +kernel
theorem ck_X11_kind : ckM 124 = true := by decide +kernel
theorem ck_X11_is : ckM 125 = true := by decide +kernel
theorem ck_X11_property : ckM 126 = true := by decide +kernel
set_option maxRecDepth 20000 in
theorem ck_X11_usual_0 : (((XP 127).take 4).all (ckB 127)) = true := by decide +kernel
set_option maxRecDepth 20000 in
theorem ck_X11_usual_1 : (((XP 127).drop 4).all (ckB 127)) = true := by decide +kernel
theorem ck_X11_usual : ckM 127 = true := (all_split 4 ck_X11_usual_0 ck_X11_usual_1)
theorem ck_X11_thing : ckM 128 = true := by decide +kernel
set_option maxRecDepth 20000 in
theorem ck_X11_put_0 : (((XP 129).take 6).all (ckB 129)) = true := by decide +kernel
set_option maxRecDepth 20000 in
theorem ck_X11_put_1 : (((XP 129).drop 6).all (ckB 129)) = true := by decide +kernel
theorem ck_X11_put : ckM 129 = true := (all_split 6 ck_X11_put_0 ck_X11_put_1)
set_option maxRecDepth 20000 in
theorem ck_X11_bar_0 : (((XP 130).take 6).all (ckB 130)) = true := by decide +kernel
set_option maxRecDepth 20000 in
theorem ck_X11_bar_1 : (((XP 130).drop 6).all (ckB 130)) = true := by decide +kernel
theorem ck_X11_bar : ckM 130 = true := (all_split 6 ck_X11_bar_0 ck_X11_bar_1)
set_option maxRecDepth 20000 in
theorem ck_X11_give_0 : (((XP 131).take 5).all (ckB 131)) = true := by decide +kernel
set_option maxRecDepth 20000 in
theorem ck_X11_give_1 : (((XP 131).drop 5).all (ckB 131)) = true := by decide +kernel
theorem ck_X11_give : ckM 131 = true := (all_split 5 ck_X11_give_0 ck_X11_give_1)
theorem ck_X11_value : ckM 132 = true := by decide +kernel
theorem ck_X11_given : ckM 133 = true := by decide +kernel
theorem ck_X11_peek : ckM 134 = true := by decide +kernel
theorem ck_X11_place : ckM 135 = true := by decide +kernel
theorem ck_X11_says : ckM 136 = true := by decide +kernel
set_option maxRecDepth 20000 in
theorem ck_X11_saying_0 : (((XP 137).take 9).all (ckB 137)) = true := by decide +kernel
set_option maxRecDepth 20000 in
theorem ck_X11_saying_1 : (((XP 137).drop 9).all (ckB 137)) = true := by decide +kernel
theorem ck_X11_saying : ckM 137 = true := (all_split 9 ck_X11_saying_0 ck_X11_saying_1)
theorem ck_X11_stride : ckM 138 = true := by decide +kernel
set_option maxRecDepth 20000 in
theorem ck_X11_follow_0 : (((XP 139).take 6).all (ckB 139)) = true := by decide +kernel
set_option maxRecDepth 20000 in
theorem ck_X11_follow_1 : (((XP 139).drop 6).all (ckB 139)) = true := by decide +kernel
theorem ck_X11_follow : ckM 139 = true := (all_split 6 ck_X11_follow_0 ck_X11_follow_1)
theorem ck_X11_mark : ckM 140 = true := by decide +kernel
set_option maxRecDepth 20000 in
theorem ck_X11_remark_0 : (((XP 141).take 7).all (ckB 141)) = true := by decide +kernel
set_option maxRecDepth 20000 in
theorem ck_X11_remark_1 : (((XP 141).drop 7).all (ckB 141)) = true := by decide +kernel
theorem ck_X11_remark : ckM 141 = true := (all_split 7 ck_X11_remark_0 ck_X11_remark_1)
theorem ck_X11_open : ckM 142 = true := by decide +kernel
set_option maxRecDepth 20000 in
theorem ck_X11_among_0 : (((XP 143).take 3).all (ckB 143)) = true := by decide +kernel
set_option maxRecDepth 20000 in
theorem ck_X11_among_1 : ((((XP 143).drop 3).take 4).all (ckB 143)) = true := by decide +kernel
set_option maxRecDepth 20000 in
theorem ck_X11_among_2 : ((((XP 143).drop 3).drop 4).all (ckB 143)) = true := by decide +kernel
theorem ck_X11_among : ckM 143 = true := (all_split 3 ck_X11_among_0 (all_split 4 ck_X11_among_1 ck_X11_among_2))
set_option maxRecDepth 20000 in
theorem ck_X11_pair_0 : (((XP 144).take 6).all (ckB 144)) = true := by decide +kernel
set_option maxRecDepth 20000 in
theorem ck_X11_pair_1 : (((XP 144).drop 6).all (ckB 144)) = true := by decide +kernel
theorem ck_X11_pair : ckM 144 = true := (all_split 6 ck_X11_pair_0 ck_X11_pair_1)
set_option maxRecDepth 20000 in
theorem ck_X11_most_0 : (((XP 145).take 7).all (ckB 145)) = true := by decide +kernel
set_option maxRecDepth 20000 in
theorem ck_X11_most_1 : (((XP 145).drop 7).all (ckB 145)) = true := by decide +kernel
theorem ck_X11_most : ckM 145 = true := (all_split 7 ck_X11_most_0 ck_X11_most_1)
set_option maxRecDepth 20000 in
theorem ck_X11_settle_0 : (((XP 146).take 5).all (ckB 146)) = true := by decide +kernel
set_option maxRecDepth 20000 in
theorem ck_X11_settle_1 : (((XP 146).drop 5).all (ckB 146)) = true := by decide +kernel
theorem ck_X11_settle : ckM 146 = true := (all_split 5 ck_X11_settle_0 ck_X11_settle_1)
theorem ck_X11_set : ckM 147 = true := by decide +kernel
theorem ck_X11_relation : ckM 148 = true := by decide +kernel
set_option maxRecDepth 20000 in
theorem ck_X11_relate_0 : (((XP 149).take 5).all (ckB 149)) = true := by decide +kernel
set_option maxRecDepth 20000 in
theorem ck_X11_relate_1 : (((XP 149).drop 5).all (ckB 149)) = true := by decide +kernel
theorem ck_X11_relate : ckM 149 = true := (all_split 5 ck_X11_relate_0 ck_X11_relate_1)
set_option maxRecDepth 20000 in
theorem ck_X11_deny_0 : (((XP 150).take 5).all (ckB 150)) = true := by decide +kernel
set_option maxRecDepth 20000 in
theorem ck_X11_deny_1 : (((XP 150).drop 5).all (ckB 150)) = true := by decide +kernel
theorem ck_X11_deny : ckM 150 = true := (all_split 5 ck_X11_deny_0 ck_X11_deny_1)
theorem ck_X11_related : ckM 151 = true := by decide +kernel
theorem ck_X11_along : ckM 152 = true := by decide +kernel
theorem ck_X11_next : ckM 153 = true := by decide +kernel
theorem ck_X11_areRelatable : ckM 154 = true := by decide +kernel
set_option maxRecDepth 20000 in
theorem ck_X11_exit_0 : (((XP 155).take 4).all (ckB 155)) = true := by decide +kernel
set_option maxRecDepth 20000 in
theorem ck_X11_exit_1 : (((XP 155).drop 4).all (ckB 155)) = true := by decide +kernel
theorem ck_X11_exit : ckM 155 = true := (all_split 4 ck_X11_exit_0 ck_X11_exit_1)
set_option maxRecDepth 20000 in
theorem ck_X11_door_0 : (((XP 156).take 6).all (ckB 156)) = true := by decide +kernel
set_option maxRecDepth 20000 in
theorem ck_X11_door_1 : (((XP 156).drop 6).all (ckB 156)) = true := by decide +kernel
theorem ck_X11_door : ckM 156 = true := (all_split 6 ck_X11_door_0 ck_X11_door_1)
theorem ck_X11_leads : ckM 157 = true := by decide +kernel
theorem ck_X11_sort : ckM 158 = true := by decide +kernel
theorem ck_X11_route : ckM 159 = true := by decide +kernel
theorem ck_X11_first : ckM 160 = true := by decide +kernel
theorem ck_X11_shelf : ckM 161 = true := by decide +kernel
set_option maxRecDepth 20000 in
theorem ck_X11_stand_0 : (((XP 162).take 4).all (ckB 162)) = true := by decide +kernel
set_option maxRecDepth 20000 in
theorem ck_X11_stand_1 : (((XP 162).drop 4).all (ckB 162)) = true := by decide +kernel
theorem ck_X11_stand : ckM 162 = true := (all_split 4 ck_X11_stand_0 ck_X11_stand_1)
theorem ck_X11_shelfTakes : ckM 163 = true := by decide +kernel
theorem ck_X11_stands : ckM 164 = true := by decide +kernel
set_option maxRecDepth 20000 in
theorem ck_X11_haul_0 : (((XP 165).take 5).all (ckB 165)) = true := by decide +kernel
set_option maxRecDepth 20000 in
theorem ck_X11_haul_1 : ((((XP 165).drop 5).take 3).all (ckB 165)) = true := by decide +kernel
set_option maxRecDepth 20000 in
theorem ck_X11_haul_2 : ((((XP 165).drop 5).drop 3).all (ckB 165)) = true := by decide +kernel
theorem ck_X11_haul : ckM 165 = true := (all_split 5 ck_X11_haul_0 (all_split 3 ck_X11_haul_1 ck_X11_haul_2))
theorem ck_X11_came : ckM 166 = true := by decide +kernel
theorem ck_X11_table : ckM 167 = true := by decide +kernel
theorem ck_X11_areLanes : ckM 168 = true := by decide +kernel
theorem ck_X11_fill : ckM 169 = true := by decide +kernel
theorem ck_X11_blank : ckM 170 = true := by decide +kernel
theorem ck_X11_read : ckM 171 = true := by decide +kernel
theorem ck_X11_choose : ckM 172 = true := by decide +kernel
theorem ck_X11_rank : ckM 173 = true := by decide +kernel
theorem ck_X11_total : ckM 174 = true := by decide +kernel
theorem ck_X11_mean : ckM 175 = true := by decide +kernel
set_option maxRecDepth 20000 in
theorem ck_X11_make_0 : (((XP 176).take 5).all (ckB 176)) = true := by decide +kernel
set_option maxRecDepth 20000 in
theorem ck_X11_make_1 : (((XP 176).drop 5).all (ckB 176)) = true := by decide +kernel
theorem ck_X11_make : ckM 176 = true := (all_split 5 ck_X11_make_0 ck_X11_make_1)
theorem ck_X11_addWord : ckM 177 = true := by decide +kernel
theorem ck_X11_addWordsOfThing : ckM 178 = true := by decide +kernel
theorem ck_X11_addWordsOfRoom : ckM 179 = true := by decide +kernel
theorem ck_X11_word : ckM 180 = true := by decide +kernel
theorem ck_X11_digest : ckM 181 = true := by decide +kernel
theorem ck_X11_sentence : ckM 182 = true := by decide +kernel
theorem ck_X11_count : ckM 183 = true := by decide +kernel
theorem ck_X11_fault : ckM 184 = true := by decide +kernel
theorem ck_X11_clear : ckM 185 = true := by decide +kernel
theorem ck_X11_bit : ckM 186 = true := by decide +kernel
theorem ck_X11_toldBy : ckM 187 = true := by decide +kernel
set_option maxRecDepth 20000 in
theorem ck_X12_init_0 : ((XP 188).all (ckB 188)) = true := by decide +kernel
theorem ck_X12_init : ckM 188 = true := ck_X12_init_0
theorem ck_X12_in : ckM 189 = true := by decide +kernel
theorem ck_X12_faulty : ckM 190 = true := by decide +kernel
set_option maxRecDepth 20000 in
theorem ck_X12_begin_0 : (((XP 191).take 4).all (ckB 191)) = true := by decide +kernel
set_option maxRecDepth 20000 in
theorem ck_X12_begin_1 : ((((XP 191).drop 4).take 3).all (ckB 191)) = true := by decide +kernel
set_option maxRecDepth 20000 in
theorem ck_X12_begin_2 : ((((XP 191).drop 4).drop 3).all (ckB 191)) = true := by decide +kernel
theorem ck_X12_begin : ckM 191 = true := (all_split 4 ck_X12_begin_0 (all_split 3 ck_X12_begin_1 ck_X12_begin_2))
theorem ck_X12_isKind : ckM 192 = true := by decide +kernel
theorem ck_X12_isProperty : ckM 193 = true := by decide +kernel
theorem ck_X12_comesTo : ckM 194 = true := by decide +kernel
theorem ck_X12_baseOf : ckM 195 = true := by decide +kernel
theorem ck_X12_kind : ckM 196 = true := by decide +kernel
theorem ck_X12_is : ckM 197 = true := by decide +kernel
set_option maxRecDepth 20000 in
theorem ck_X12_property_0 : (((XP 198).take 4).all (ckB 198)) = true := by decide +kernel
set_option maxRecDepth 20000 in
theorem ck_X12_property_1 : ((((XP 198).drop 4).take 4).all (ckB 198)) = true := by decide +kernel
set_option maxRecDepth 20000 in
theorem ck_X12_property_2 : ((((XP 198).drop 4).drop 4).all (ckB 198)) = true := by decide +kernel
theorem ck_X12_property : ckM 198 = true := (all_split 4 ck_X12_property_0 (all_split 4 ck_X12_property_1 ck_X12_property_2))
theorem ck_X12_cell : ckM 199 = true := by decide +kernel
theorem ck_X12_isUnknown : ckM 200 = true := by decide +kernel
theorem ck_X12_isStored : ckM 201 = true := by decide +kernel
set_option maxRecDepth 20000 in
theorem ck_X12_usual_0 : (((XP 202).take 4).all (ckB 202)) = true := by decide +kernel
set_option maxRecDepth 20000 in
theorem ck_X12_usual_1 : (((XP 202).drop 4).all (ckB 202)) = true := by decide +kernel
theorem ck_X12_usual : ckM 202 = true := (all_split 4 ck_X12_usual_0 ck_X12_usual_1)
theorem ck_X12_isThing : ckM 203 = true := by decide +kernel
theorem ck_X12_base : ckM 204 = true := by decide +kernel
theorem ck_X12_isCarrier : ckM 205 = true := by decide +kernel
theorem ck_X12_isHolder : ckM 206 = true := by decide +kernel
theorem ck_X12_isFixed : ckM 207 = true := by decide +kernel
theorem ck_X12_isBackdrop : ckM 208 = true := by decide +kernel
set_option maxRecDepth 20000 in
theorem ck_X12_thing_0 : (((XP 209).take 3).all (ckB 209)) = true := by decide +kernel
set_option maxRecDepth 20000 in
theorem ck_X12_thing_1 : (((XP 209).drop 3).all (ckB 209)) = true := by decide +kernel
theorem ck_X12_thing : ckM 209 = true := (all_split 3 ck_X12_thing_0 ck_X12_thing_1)
theorem ck_X12_tell : ckM 210 = true := by decide +kernel
theorem ck_X12_against : ckM 211 = true := by decide +kernel
theorem ck_X12_first : ckM 212 = true := by decide +kernel
theorem ck_X12_latestAmong : ckM 213 = true := by decide +kernel
theorem ck_X12_isWithin : ckM 214 = true := by decide +kernel
theorem ck_X12_placeOf : ckM 215 = true := by decide +kernel
theorem ck_X12_nth : ckM 216 = true := by decide +kernel
theorem ck_X12_held : ckM 217 = true := by decide +kernel
set_option maxRecDepth 20000 in
theorem ck_X12_pairAgainst_0 : (((XP 218).take 4).all (ckB 218)) = true := by decide +kernel
set_option maxRecDepth 20000 in
theorem ck_X12_pairAgainst_1 : (((XP 218).drop 4).all (ckB 218)) = true := by decide +kernel
theorem ck_X12_pairAgainst : ckM 218 = true := (all_split 4 ck_X12_pairAgainst_0 ck_X12_pairAgainst_1)
set_option maxRecDepth 20000 in
theorem ck_X12_putAgainst_0 : (((XP 219).take 2).all (ckB 219)) = true := by decide +kernel
set_option maxRecDepth 20000 in
theorem ck_X12_putAgainst_1 : ((((XP 219).drop 2).take 1).all (ckB 219)) = true := by decide +kernel
set_option maxRecDepth 20000 in
theorem ck_X12_putAgainst_2 : ((((XP 219).drop 2).drop 1).all (ckB 219)) = true := by decide +kernel
theorem ck_X12_putAgainst : ckM 219 = true := (all_split 2 ck_X12_putAgainst_0 (all_split 1 ck_X12_putAgainst_1 ck_X12_putAgainst_2))
theorem ck_X12_lies : ckM 220 = true := by decide +kernel
set_option maxRecDepth 20000 in
theorem ck_X12_put_0 : (((XP 221).take 5).all (ckB 221)) = true := by decide +kernel
set_option maxRecDepth 20000 in
theorem ck_X12_put_1 : ((((XP 221).drop 5).take 4).all (ckB 221)) = true := by decide +kernel
set_option maxRecDepth 20000 in
theorem ck_X12_put_2 : ((((XP 221).drop 5).drop 4).all (ckB 221)) = true := by decide +kernel
theorem ck_X12_put : ckM 221 = true := (all_split 5 ck_X12_put_0 (all_split 4 ck_X12_put_1 ck_X12_put_2))
set_option maxRecDepth 20000 in
theorem ck_X12_bar_0 : (((XP 222).take 5).all (ckB 222)) = true := by decide +kernel
set_option maxRecDepth 20000 in
theorem ck_X12_bar_1 : ((((XP 222).drop 5).take 2).all (ckB 222)) = true := by decide +kernel
set_option maxRecDepth 20000 in
theorem ck_X12_bar_2 : ((((XP 222).drop 5).drop 2).all (ckB 222)) = true := by decide +kernel
theorem ck_X12_bar : ckM 222 = true := (all_split 5 ck_X12_bar_0 (all_split 2 ck_X12_bar_1 ck_X12_bar_2))
set_option maxRecDepth 20000 in
theorem ck_X12_give_0 : (((XP 223).take 5).all (ckB 223)) = true := by decide +kernel
set_option maxRecDepth 20000 in
theorem ck_X12_give_1 : ((((XP 223).drop 5).take 1).all (ckB 223)) = true := by decide +kernel
set_option maxRecDepth 20000 in
theorem ck_X12_give_2 : ((((XP 223).drop 5).drop 1).all (ckB 223)) = true := by decide +kernel
theorem ck_X12_give : ckM 223 = true := (all_split 5 ck_X12_give_0 (all_split 1 ck_X12_give_1 ck_X12_give_2))
set_option maxRecDepth 20000 in
theorem ck_X12_valueOf_0 : (((XP 224).take 3).all (ckB 224)) = true := by decide +kernel
set_option maxRecDepth 20000 in
theorem ck_X12_valueOf_1 : (((XP 224).drop 3).all (ckB 224)) = true := by decide +kernel
theorem ck_X12_valueOf : ckM 224 = true := (all_split 3 ck_X12_valueOf_0 ck_X12_valueOf_1)
theorem ck_X12_value : ckM 225 = true := by decide +kernel
theorem ck_X12_given : ckM 226 = true := by decide +kernel
set_option maxRecDepth 20000 in
theorem ck_X12_peek_0 : (((XP 227).take 4).all (ckB 227)) = true := by decide +kernel
set_option maxRecDepth 20000 in
theorem ck_X12_peek_1 : (((XP 227).drop 4).all (ckB 227)) = true := by decide +kernel
theorem ck_X12_peek : ckM 227 = true := (all_split 4 ck_X12_peek_0 ck_X12_peek_1)
theorem ck_X12_place : ckM 228 = true := by decide +kernel
theorem ck_X12_loadOf : ckM 229 = true := by decide +kernel
theorem ck_X12_bulkOf : ckM 230 = true := by decide +kernel
theorem ck_X12_worthOf : ckM 231 = true := by decide +kernel
theorem ck_X12_lidOf : ckM 232 = true := by decide +kernel
set_option maxRecDepth 20000 in
theorem ck_X12_said_0 : (((XP 233).take 6).all (ckB 233)) = true := by decide +kernel
set_option maxRecDepth 20000 in
theorem ck_X12_said_1 : (((XP 233).drop 6).all (ckB 233)) = true := by decide +kernel
theorem ck_X12_said : ckM 233 = true := (all_split 6 ck_X12_said_0 ck_X12_said_1)
theorem ck_X12_says : ckM 234 = true := by decide +kernel
set_option maxRecDepth 20000 in
theorem ck_X12_follow_0 : (((XP 235).take 5).all (ckB 235)) = true := by decide +kernel
set_option maxRecDepth 20000 in
theorem ck_X12_follow_1 : (((XP 235).drop 5).all (ckB 235)) = true := by decide +kernel
theorem ck_X12_follow : ckM 235 = true := (all_split 5 ck_X12_follow_0 ck_X12_follow_1)
theorem ck_X12_hasOwn : ckM 236 = true := by decide +kernel
theorem ck_X12_mark : ckM 237 = true := by decide +kernel
set_option maxRecDepth 20000 in
theorem ck_X12_remark_0 : (((XP 238).take 6).all (ckB 238)) = true := by decide +kernel
set_option maxRecDepth 20000 in
theorem ck_X12_remark_1 : (((XP 238).drop 6).all (ckB 238)) = true := by decide +kernel
theorem ck_X12_remark : ckM 238 = true := (all_split 6 ck_X12_remark_0 ck_X12_remark_1)
theorem ck_X12_open : ckM 239 = true := by decide +kernel
set_option maxRecDepth 20000 in
theorem ck_X12_among_0 : (((XP 240).take 5).all (ckB 240)) = true := by decide +kernel
set_option maxRecDepth 20000 in
theorem ck_X12_among_1 : ((((XP 240).drop 5).take 7).all (ckB 240)) = true := by decide +kernel
set_option maxRecDepth 20000 in
theorem ck_X12_among_2 : (((((XP 240).drop 5).drop 7).take 3).all (ckB 240)) = true := by decide +kernel
set_option maxRecDepth 20000 in
theorem ck_X12_among_3 : ((((((XP 240).drop 5).drop 7).drop 3).take 4).all (ckB 240)) = true := by decide +kernel
set_option maxRecDepth 20000 in
theorem ck_X12_among_4 : ((((((XP 240).drop 5).drop 7).drop 3).drop 4).all (ckB 240)) = true := by decide +kernel
theorem ck_X12_among : ckM 240 = true := (all_split 5 ck_X12_among_0 (all_split 7 ck_X12_among_1 (all_split 3 ck_X12_among_2 (all_split 4 ck_X12_among_3 ck_X12_among_4))))
set_option maxRecDepth 20000 in
theorem ck_X12_pair_0 : (((XP 241).take 6).all (ckB 241)) = true := by decide +kernel
set_option maxRecDepth 20000 in
theorem ck_X12_pair_1 : ((((XP 241).drop 6).take 5).all (ckB 241)) = true := by decide +kernel
set_option maxRecDepth 20000 in
theorem ck_X12_pair_2 : (((((XP 241).drop 6).drop 5).take 4).all (ckB 241)) = true := by decide +kernel
set_option maxRecDepth 20000 in
theorem ck_X12_pair_3 : (((((XP 241).drop 6).drop 5).drop 4).all (ckB 241)) = true := by decide +kernel
theorem ck_X12_pair : ckM 241 = true := (all_split 6 ck_X12_pair_0 (all_split 5 ck_X12_pair_1 (all_split 4 ck_X12_pair_2 ck_X12_pair_3)))
set_option maxRecDepth 20000 in
theorem ck_X12_most_0 : (((XP 242).take 6).all (ckB 242)) = true := by decide +kernel
set_option maxRecDepth 20000 in
theorem ck_X12_most_1 : ((((XP 242).drop 6).take 2).all (ckB 242)) = true := by decide +kernel
set_option maxRecDepth 20000 in
theorem ck_X12_most_2 : ((((XP 242).drop 6).drop 2).all (ckB 242)) = true := by decide +kernel
theorem ck_X12_most : ckM 242 = true := (all_split 6 ck_X12_most_0 (all_split 2 ck_X12_most_1 ck_X12_most_2))
theorem ck_X12_isUnsettled : ckM 243 = true := by decide +kernel
theorem ck_X12_unsettled : ckM 244 = true := by decide +kernel
set_option maxRecDepth 20000 in
theorem ck_X12_keeps_0 : (((XP 245).take 5).all (ckB 245)) = true := by decide +kernel
set_option maxRecDepth 20000 in
theorem ck_X12_keeps_1 : ((((XP 245).drop 5).take 6).all (ckB 245)) = true := by decide +kernel
set_option maxRecDepth 20000 in
theorem ck_X12_keeps_2 : (((((XP 245).drop 5).drop 6).take 2).all (ckB 245)) = true := by decide +kernel
set_option maxRecDepth 20000 in
theorem ck_X12_keeps_3 : (((((XP 245).drop 5).drop 6).drop 2).all (ckB 245)) = true := by decide +kernel
theorem ck_X12_keeps : ckM 245 = true := (all_split 5 ck_X12_keeps_0 (all_split 6 ck_X12_keeps_1 (all_split 2 ck_X12_keeps_2 ck_X12_keeps_3)))
theorem ck_X12_lowest : ckM 246 = true := by decide +kernel
theorem ck_X12_many : ckM 247 = true := by decide +kernel
set_option maxRecDepth 20000 in
theorem ck_X12_goesOn_0 : (((XP 248).take 2).all (ckB 248)) = true := by decide +kernel
set_option maxRecDepth 20000 in
theorem ck_X12_goesOn_1 : (((XP 248).drop 2).all (ckB 248)) = true := by decide +kernel
theorem ck_X12_goesOn : ckM 248 = true := (all_split 2 ck_X12_goesOn_0 ck_X12_goesOn_1)
set_option maxRecDepth 20000 in
theorem ck_X12_settle_0 : (((XP 249).take 6).all (ckB 249)) = true := by decide +kernel
set_option maxRecDepth 20000 in
theorem ck_X12_settle_1 : ((((XP 249).drop 6).take 7).all (ckB 249)) = true := by decide +kernel
set_option maxRecDepth 20000 in
theorem ck_X12_settle_2 : ((((XP 249).drop 6).drop 7).all (ckB 249)) = true := by decide +kernel
theorem ck_X12_settle : ckM 249 = true := (all_split 6 ck_X12_settle_0 (all_split 7 ck_X12_settle_1 ck_X12_settle_2))
theorem ck_X12_set : ckM 250 = true := by decide +kernel
theorem ck_X12_isRelation : ckM 251 = true := by decide +kernel
set_option maxRecDepth 20000 in
theorem ck_X12_groupUp_0 : (((XP 252).take 3).all (ckB 252)) = true := by decide +kernel
set_option maxRecDepth 20000 in
theorem ck_X12_groupUp_1 : ((((XP 252).drop 3).take 1).all (ckB 252)) = true := by decide +kernel
set_option maxRecDepth 20000 in
theorem ck_X12_groupUp_2 : ((((XP 252).drop 3).drop 1).all (ckB 252)) = true := by decide +kernel
theorem ck_X12_groupUp : ckM 252 = true := (all_split 3 ck_X12_groupUp_0 (all_split 1 ck_X12_groupUp_1 ck_X12_groupUp_2))
theorem ck_X12_told : ckM 253 = true := by decide +kernel
theorem ck_X12_earlier : ckM 254 = true := by decide +kernel
set_option maxRecDepth 20000 in
theorem ck_X12_hasBy_0 : (((XP 255).take 3).all (ckB 255)) = true := by decide +kernel
set_option maxRecDepth 20000 in
theorem ck_X12_hasBy_1 : (((XP 255).drop 3).all (ckB 255)) = true := by decide +kernel
theorem ck_X12_hasBy : ckM 255 = true := (all_split 3 ck_X12_hasBy_0 ck_X12_hasBy_1)
theorem ck_X12_has : ckM 256 = true := by decide +kernel
set_option maxRecDepth 20000 in
theorem ck_X12_deniedBy_0 : (((XP 257).take 1).all (ckB 257)) = true := by decide +kernel
set_option maxRecDepth 20000 in
theorem ck_X12_deniedBy_1 : ((((XP 257).drop 1).take 1).all (ckB 257)) = true := by decide +kernel
set_option maxRecDepth 20000 in
theorem ck_X12_deniedBy_2 : (((((XP 257).drop 1).drop 1).take 4).all (ckB 257)) = true := by decide +kernel
set_option maxRecDepth 20000 in
theorem ck_X12_deniedBy_3 : (((((XP 257).drop 1).drop 1).drop 4).all (ckB 257)) = true := by decide +kernel
theorem ck_X12_deniedBy : ckM 257 = true := (all_split 1 ck_X12_deniedBy_0 (all_split 1 ck_X12_deniedBy_1 (all_split 4 ck_X12_deniedBy_2 ck_X12_deniedBy_3)))
set_option maxRecDepth 20000 in
theorem ck_X12_oneOnly_0 : (((XP 258).take 5).all (ckB 258)) = true := by decide +kernel
set_option maxRecDepth 20000 in
theorem ck_X12_oneOnly_1 : (((XP 258).drop 5).all (ckB 258)) = true := by decide +kernel
theorem ck_X12_oneOnly : ckM 258 = true := (all_split 5 ck_X12_oneOnly_0 ck_X12_oneOnly_1)
theorem ck_X12_relation : ckM 259 = true := by decide +kernel
theorem ck_X12_isCouple : ckM 260 = true := by decide +kernel
set_option maxRecDepth 20000 in
theorem ck_X12_relate_0 : (((XP 261).take 6).all (ckB 261)) = true := by decide +kernel
set_option maxRecDepth 20000 in
theorem ck_X12_relate_1 : (((XP 261).drop 6).all (ckB 261)) = true := by decide +kernel
theorem ck_X12_relate : ckM 261 = true := (all_split 6 ck_X12_relate_0 ck_X12_relate_1)
set_option maxRecDepth 20000 in
theorem ck_X12_deny_0 : (((XP 262).take 6).all (ckB 262)) = true := by decide +kernel
set_option maxRecDepth 20000 in
theorem ck_X12_deny_1 : (((XP 262).drop 6).all (ckB 262)) = true := by decide +kernel
theorem ck_X12_deny : ckM 262 = true := (all_split 6 ck_X12_deny_0 ck_X12_deny_1)
theorem ck_X12_related : ckM 263 = true := by decide +kernel
set_option maxRecDepth 20000 in
theorem ck_X12_couples_0 : (((XP 264).take 3).all (ckB 264)) = true := by decide +kernel
set_option maxRecDepth 20000 in
theorem ck_X12_couples_1 : ((((XP 264).drop 3).take 5).all (ckB 264)) = true := by decide +kernel
set_option maxRecDepth 20000 in
theorem ck_X12_couples_2 : (((((XP 264).drop 3).drop 5).take 1).all (ckB 264)) = true := by decide +kernel
set_option maxRecDepth 20000 in
theorem ck_X12_couples_3 : (((((XP 264).drop 3).drop 5).drop 1).all (ckB 264)) = true := by decide +kernel
theorem ck_X12_couples : ckM 264 = true := (all_split 3 ck_X12_couples_0 (all_split 5 ck_X12_couples_1 (all_split 1 ck_X12_couples_2 ck_X12_couples_3)))
set_option maxRecDepth 20000 in
theorem ck_X12_goBack_0 : (((XP 265).take 4).all (ckB 265)) = true := by decide +kernel
set_option maxRecDepth 20000 in
theorem ck_X12_goBack_1 : ((((XP 265).drop 4).take 3).all (ckB 265)) = true := by decide +kernel
set_option maxRecDepth 20000 in
theorem ck_X12_goBack_2 : ((((XP 265).drop 4).drop 3).all (ckB 265)) = true := by decide +kernel
theorem ck_X12_goBack : ckM 265 = true := (all_split 4 ck_X12_goBack_0 (all_split 3 ck_X12_goBack_1 ck_X12_goBack_2))
theorem ck_X12_along : ckM 266 = true := by decide +kernel
set_option maxRecDepth 20000 in
theorem ck_X12_next_0 : (((XP 267).take 4).all (ckB 267)) = true := by decide +kernel
set_option maxRecDepth 20000 in
theorem ck_X12_next_1 : (((XP 267).drop 4).all (ckB 267)) = true := by decide +kernel
theorem ck_X12_next : ckM 267 = true := (all_split 4 ck_X12_next_0 ck_X12_next_1)
theorem ck_X12_isRoom : ckM 268 = true := by decide +kernel
theorem ck_X12_lead : ckM 269 = true := by decide +kernel
set_option maxRecDepth 20000 in
theorem ck_X12_exit_0 : (((XP 270).take 4).all (ckB 270)) = true := by decide +kernel
set_option maxRecDepth 20000 in
theorem ck_X12_exit_1 : ((((XP 270).drop 4).take 5).all (ckB 270)) = true := by decide +kernel
set_option maxRecDepth 20000 in
theorem ck_X12_exit_2 : ((((XP 270).drop 4).drop 5).all (ckB 270)) = true := by decide +kernel
theorem ck_X12_exit : ckM 270 = true := (all_split 4 ck_X12_exit_0 (all_split 5 ck_X12_exit_1 ck_X12_exit_2))
set_option maxRecDepth 20000 in
theorem ck_X12_door_0 : (((XP 271).take 7).all (ckB 271)) = true := by decide +kernel
set_option maxRecDepth 20000 in
theorem ck_X12_door_1 : ((((XP 271).drop 7).take 2).all (ckB 271)) = true := by decide +kernel
set_option maxRecDepth 20000 in
theorem ck_X12_door_2 : (((((XP 271).drop 7).drop 2).take 2).all (ckB 271)) = true := by decide +kernel
set_option maxRecDepth 20000 in
theorem ck_X12_door_3 : (((((XP 271).drop 7).drop 2).drop 2).all (ckB 271)) = true := by decide +kernel
theorem ck_X12_door : ckM 271 = true := (all_split 7 ck_X12_door_0 (all_split 2 ck_X12_door_1 (all_split 2 ck_X12_door_2 ck_X12_door_3)))
theorem ck_X12_leads : ckM 272 = true := by decide +kernel
theorem ck_X12_sort : ckM 273 = true := by decide +kernel
theorem ck_X12_goes : ckM 274 = true := by decide +kernel
set_option maxRecDepth 20000 in
theorem ck_X12_routeBack_0 : (((XP 275).take 5).all (ckB 275)) = true := by decide +kernel
set_option maxRecDepth 20000 in
theorem ck_X12_routeBack_1 : ((((XP 275).drop 5).take 4).all (ckB 275)) = true := by decide +kernel
set_option maxRecDepth 20000 in
theorem ck_X12_routeBack_2 : ((((XP 275).drop 5).drop 4).all (ckB 275)) = true := by decide +kernel
theorem ck_X12_routeBack : ckM 275 = true := (all_split 5 ck_X12_routeBack_0 (all_split 4 ck_X12_routeBack_1 ck_X12_routeBack_2))
theorem ck_X12_route : ckM 276 = true := by decide +kernel
set_option maxRecDepth 20000 in
theorem ck_X12_first__0 : (((XP 277).take 5).all (ckB 277)) = true := by decide +kernel
set_option maxRecDepth 20000 in
theorem ck_X12_first__1 : (((XP 277).drop 5).all (ckB 277)) = true := by decide +kernel
theorem ck_X12_first_ : ckM 277 = true := (all_split 5 ck_X12_first__0 ck_X12_first__1)
theorem ck_X12_isShelf : ckM 278 = true := by decide +kernel
theorem ck_X12_takes : ckM 279 = true := by decide +kernel
set_option maxRecDepth 20000 in
theorem ck_X12_shelf_0 : (((XP 280).take 5).all (ckB 280)) = true := by decide +kernel
set_option maxRecDepth 20000 in
theorem ck_X12_shelf_1 : (((XP 280).drop 5).all (ckB 280)) = true := by decide +kernel
theorem ck_X12_shelf : ckM 280 = true := (all_split 5 ck_X12_shelf_0 ck_X12_shelf_1)
set_option maxRecDepth 20000 in
theorem ck_X12_stand_0 : (((XP 281).take 4).all (ckB 281)) = true := by decide +kernel
set_option maxRecDepth 20000 in
theorem ck_X12_stand_1 : (((XP 281).drop 4).all (ckB 281)) = true := by decide +kernel
theorem ck_X12_stand : ckM 281 = true := (all_split 4 ck_X12_stand_0 ck_X12_stand_1)
theorem ck_X12_stands : ckM 282 = true := by decide +kernel
set_option maxRecDepth 20000 in
theorem ck_X12_haul_0 : (((XP 283).take 4).all (ckB 283)) = true := by decide +kernel
set_option maxRecDepth 20000 in
theorem ck_X12_haul_1 : ((((XP 283).drop 4).take 3).all (ckB 283)) = true := by decide +kernel
set_option maxRecDepth 20000 in
theorem ck_X12_haul_2 : (((((XP 283).drop 4).drop 3).take 3).all (ckB 283)) = true := by decide +kernel
set_option maxRecDepth 20000 in
theorem ck_X12_haul_3 : (((((XP 283).drop 4).drop 3).drop 3).all (ckB 283)) = true := by decide +kernel
theorem ck_X12_haul : ckM 283 = true := (all_split 4 ck_X12_haul_0 (all_split 3 ck_X12_haul_1 (all_split 3 ck_X12_haul_2 ck_X12_haul_3)))
theorem ck_X12_came : ckM 284 = true := by decide +kernel
theorem ck_X12_isTable : ckM 285 = true := by decide +kernel
set_option maxRecDepth 20000 in
theorem ck_X12_table_0 : (((XP 286).take 6).all (ckB 286)) = true := by decide +kernel
set_option maxRecDepth 20000 in
theorem ck_X12_table_1 : ((((XP 286).drop 6).take 4).all (ckB 286)) = true := by decide +kernel
set_option maxRecDepth 20000 in
theorem ck_X12_table_2 : (((((XP 286).drop 6).drop 4).take 3).all (ckB 286)) = true := by decide +kernel
set_option maxRecDepth 20000 in
theorem ck_X12_table_3 : (((((XP 286).drop 6).drop 4).drop 3).all (ckB 286)) = true := by decide +kernel
theorem ck_X12_table : ckM 286 = true := (all_split 6 ck_X12_table_0 (all_split 4 ck_X12_table_1 (all_split 3 ck_X12_table_2 ck_X12_table_3)))
theorem ck_X12_isColumn : ckM 287 = true := by decide +kernel
theorem ck_X12_isCell : ckM 288 = true := by decide +kernel
theorem ck_X12_cellAt : ckM 289 = true := by decide +kernel
set_option maxRecDepth 20000 in
theorem ck_X12_fill_0 : (((XP 290).take 2).all (ckB 290)) = true := by decide +kernel
set_option maxRecDepth 20000 in
theorem ck_X12_fill_1 : ((((XP 290).drop 2).take 3).all (ckB 290)) = true := by decide +kernel
set_option maxRecDepth 20000 in
theorem ck_X12_fill_2 : ((((XP 290).drop 2).drop 3).all (ckB 290)) = true := by decide +kernel
theorem ck_X12_fill : ckM 290 = true := (all_split 2 ck_X12_fill_0 (all_split 3 ck_X12_fill_1 ck_X12_fill_2))
theorem ck_X12_blank : ckM 291 = true := by decide +kernel
theorem ck_X12_read : ckM 292 = true := by decide +kernel
set_option maxRecDepth 20000 in
theorem ck_X12_choose_0 : (((XP 293).take 4).all (ckB 293)) = true := by decide +kernel
set_option maxRecDepth 20000 in
theorem ck_X12_choose_1 : (((XP 293).drop 4).all (ckB 293)) = true := by decide +kernel
theorem ck_X12_choose : ckM 293 = true := (all_split 4 ck_X12_choose_0 ck_X12_choose_1)
set_option maxRecDepth 20000 in
theorem ck_X12_isAhead_0 : (((XP 294).take 4).all (ckB 294)) = true := by decide +kernel
set_option maxRecDepth 20000 in
theorem ck_X12_isAhead_1 : ((((XP 294).drop 4).take 5).all (ckB 294)) = true := by decide +kernel
set_option maxRecDepth 20000 in
theorem ck_X12_isAhead_2 : ((((XP 294).drop 4).drop 5).all (ckB 294)) = true := by decide +kernel
theorem ck_X12_isAhead : ckM 294 = true := (all_split 4 ck_X12_isAhead_0 (all_split 5 ck_X12_isAhead_1 ck_X12_isAhead_2))
set_option maxRecDepth 20000 in
theorem ck_X12_rank_0 : (((XP 295).take 4).all (ckB 295)) = true := by decide +kernel
set_option maxRecDepth 20000 in
theorem ck_X12_rank_1 : ((((XP 295).drop 4).take 3).all (ckB 295)) = true := by decide +kernel
set_option maxRecDepth 20000 in
theorem ck_X12_rank_2 : (((((XP 295).drop 4).drop 3).take 2).all (ckB 295)) = true := by decide +kernel
set_option maxRecDepth 20000 in
theorem ck_X12_rank_3 : ((((((XP 295).drop 4).drop 3).drop 2).take 3).all (ckB 295)) = true := by decide +kernel
set_option maxRecDepth 20000 in
theorem ck_X12_rank_4 : (((((((XP 295).drop 4).drop 3).drop 2).drop 3).take 1).all (ckB 295)) = true := by decide +kernel
set_option maxRecDepth 20000 in
theorem ck_X12_rank_5 : (((((((XP 295).drop 4).drop 3).drop 2).drop 3).drop 1).all (ckB 295)) = true := by decide +kernel
theorem ck_X12_rank : ckM 295 = true := (all_split 4 ck_X12_rank_0 (all_split 3 ck_X12_rank_1 (all_split 2 ck_X12_rank_2 (all_split 3 ck_X12_rank_3 (all_split 1 ck_X12_rank_4 ck_X12_rank_5)))))
theorem ck_X12_filledIn : ckM 296 = true := by decide +kernel
theorem ck_X12_sumOf : ckM 297 = true := by decide +kernel
theorem ck_X12_total : ckM 298 = true := by decide +kernel
theorem ck_X12_mean : ckM 299 = true := by decide +kernel
theorem ck_X12_add : ckM 300 = true := by decide +kernel
set_option maxRecDepth 20000 in
theorem ck_X12_make_0 : (((XP 301).take 8).all (ckB 301)) = true := by decide +kernel
set_option maxRecDepth 20000 in
theorem ck_X12_make_1 : ((((XP 301).drop 8).take 2).all (ckB 301)) = true := by decide +kernel
set_option maxRecDepth 20000 in
theorem ck_X12_make_2 : (((((XP 301).drop 8).drop 2).take 8).all (ckB 301)) = true := by decide +kernel
set_option maxRecDepth 20000 in
theorem ck_X12_make_3 : (((((XP 301).drop 8).drop 2).drop 8).all (ckB 301)) = true := by decide +kernel
theorem ck_X12_make : ckM 301 = true := (all_split 8 ck_X12_make_0 (all_split 2 ck_X12_make_1 (all_split 8 ck_X12_make_2 ck_X12_make_3)))
theorem ck_X12_word : ckM 302 = true := by decide +kernel
theorem ck_X12_digest : ckM 303 = true := by decide +kernel
theorem ck_X12_sentence : ckM 304 = true := by decide +kernel
theorem ck_X12_count : ckM 305 = true := by decide +kernel
theorem ck_X12_fault : ckM 306 = true := by decide +kernel
theorem ck_X12_clear : ckM 307 = true := by decide +kernel
set_option maxRecDepth 20000 in
theorem ck_J13_bitCount_95d88_0 : ((XP 308).all (ckB 308)) = true := by decide +kernel
theorem ck_J13_bitCount_95d88 : ckM 308 = true := ck_J13_bitCount_95d88_0
theorem ck_J9_max_7cf53 : ckM 309 = true := by decide +kernel
set_option maxRecDepth 20000 in
theorem ck_L_law_0 : (((XP 310).take 3).all (ckB 310)) = true := by decide +kernel
set_option maxRecDepth 20000 in
theorem ck_L_law_1 : ((((XP 310).drop 3).take 1).all (ckB 310)) = true := by decide +kernel
set_option maxRecDepth 20000 in
theorem ck_L_law_2 : (((((XP 310).drop 3).drop 1).take 1).all (ckB 310)) = true := by decide +kernel
set_option maxRecDepth 20000 in
theorem ck_L_law_3 : ((((((XP 310).drop 3).drop 1).drop 1).take 1).all (ckB 310)) = true := by decide +kernel
set_option maxRecDepth 20000 in
theorem ck_L_law_4 : (((((((XP 310).drop 3).drop 1).drop 1).drop 1).take 1).all (ckB 310)) = true := by decide +kernel
set_option maxRecDepth 20000 in
theorem ck_L_law_5 : ((((((((XP 310).drop 3).drop 1).drop 1).drop 1).drop 1).take 1).all (ckB 310)) = true := by decide +kernel
set_option maxRecDepth 20000 in
theorem ck_L_law_6 : (((((((((XP 310).drop 3).drop 1).drop 1).drop 1).drop 1).drop 1).take 1).all (ckB 310)) = true := by decide +kernel
set_option maxRecDepth 20000 in
theorem ck_L_law_7 : ((((((((((XP 310).drop 3).drop 1).drop 1).drop 1).drop 1).drop 1).drop 1).take 1).all (ckB 310)) = true := by decide +kernel
set_option maxRecDepth 20000 in
theorem ck_L_law_8 : (((((((((((XP 310).drop 3).drop 1).drop 1).drop 1).drop 1).drop 1).drop 1).drop 1).take 1).all (ckB 310)) = true := by decide +kernel
set_option maxRecDepth 20000 in
theorem ck_L_law_9 : ((((((((((((XP 310).drop 3).drop 1).drop 1).drop 1).drop 1).drop 1).drop 1).drop 1).drop 1).take 1).all (ckB 310)) = true := by decide +kernel
set_option maxRecDepth 20000 in
theorem ck_L_law_10 : (((((((((((((XP 310).drop 3).drop 1).drop 1).drop 1).drop 1).drop 1).drop 1).drop 1).drop 1).drop 1).take 1).all (ckB 310)) = true := by decide +kernel
set_option maxRecDepth 20000 in
theorem ck_L_law_11 : ((((((((((((((XP 310).drop 3).drop 1).drop 1).drop 1).drop 1).drop 1).drop 1).drop 1).drop 1).drop 1).drop 1).take 1).all (ckB 310)) = true := by decide +kernel
set_option maxRecDepth 20000 in
theorem ck_L_law_12 : (((((((((((((((XP 310).drop 3).drop 1).drop 1).drop 1).drop 1).drop 1).drop 1).drop 1).drop 1).drop 1).drop 1).drop 1).take 1).all (ckB 310)) = true := by decide +kernel
set_option maxRecDepth 20000 in
theorem ck_L_law_13 : ((((((((((((((((XP 310).drop 3).drop 1).drop 1).drop 1).drop 1).drop 1).drop 1).drop 1).drop 1).drop 1).drop 1).drop 1).drop 1).take 1).all (ckB 310)) = true := by decide +kernel
set_option maxRecDepth 20000 in
theorem ck_L_law_14 : (((((((((((((((((XP 310).drop 3).drop 1).drop 1).drop 1).drop 1).drop 1).drop 1).drop 1).drop 1).drop 1).drop 1).drop 1).drop 1).drop 1).take 1).all (ckB 310)) = true := by decide +kernel
set_option maxRecDepth 20000 in
theorem ck_L_law_15 : ((((((((((((((((((XP 310).drop 3).drop 1).drop 1).drop 1).drop 1).drop 1).drop 1).drop 1).drop 1).drop 1).drop 1).drop 1).drop 1).drop 1).drop 1).take 1).all (ckB 310)) = true := by decide +kernel
set_option maxRecDepth 20000 in
theorem ck_L_law_16 : (((((((((((((((((((XP 310).drop 3).drop 1).drop 1).drop 1).drop 1).drop 1).drop 1).drop 1).drop 1).drop 1).drop 1).drop 1).drop 1).drop 1).drop 1).drop 1).take 5).all (ckB 310)) = true := by decide +kernel
set_option maxRecDepth 20000 in
theorem ck_L_law_17 : ((((((((((((((((((((XP 310).drop 3).drop 1).drop 1).drop 1).drop 1).drop 1).drop 1).drop 1).drop 1).drop 1).drop 1).drop 1).drop 1).drop 1).drop 1).drop 1).drop 5).take 1).all (ckB 310)) = true := by decide +kernel
set_option maxRecDepth 20000 in
theorem ck_L_law_18 : (((((((((((((((((((((XP 310).drop 3).drop 1).drop 1).drop 1).drop 1).drop 1).drop 1).drop 1).drop 1).drop 1).drop 1).drop 1).drop 1).drop 1).drop 1).drop 1).drop 5).drop 1).take 5).all (ckB 310)) = true := by decide +kernel
set_option maxRecDepth 20000 in
theorem ck_L_law_19 : ((((((((((((((((((((((XP 310).drop 3).drop 1).drop 1).drop 1).drop 1).drop 1).drop 1).drop 1).drop 1).drop 1).drop 1).drop 1).drop 1).drop 1).drop 1).drop 1).drop 5).drop 1).drop 5).take 2).all (ckB 310)) = true := by decide +kernel
set_option maxRecDepth 20000 in
theorem ck_L_law_20 : (((((((((((((((((((((((XP 310).drop 3).drop 1).drop 1).drop 1).drop 1).drop 1).drop 1).drop 1).drop 1).drop 1).drop 1).drop 1).drop 1).drop 1).drop 1).drop 1).drop 5).drop 1).drop 5).drop 2).take 2).all (ckB 310)) = true := by decide +kernel
set_option maxRecDepth 20000 in
theorem ck_L_law_21 : ((((((((((((((((((((((((XP 310).drop 3).drop 1).drop 1).drop 1).drop 1).drop 1).drop 1).drop 1).drop 1).drop 1).drop 1).drop 1).drop 1).drop 1).drop 1).drop 1).drop 5).drop 1).drop 5).drop 2).drop 2).take 1).all (ckB 310)) = true := by decide +kernel
set_option maxRecDepth 20000 in
theorem ck_L_law_22 : (((((((((((((((((((((((((XP 310).drop 3).drop 1).drop 1).drop 1).drop 1).drop 1).drop 1).drop 1).drop 1).drop 1).drop 1).drop 1).drop 1).drop 1).drop 1).drop 1).drop 5).drop 1).drop 5).drop 2).drop 2).drop 1).take 1).all (ckB 310)) = true := by decide +kernel
set_option maxRecDepth 20000 in
theorem ck_L_law_23 : ((((((((((((((((((((((((((XP 310).drop 3).drop 1).drop 1).drop 1).drop 1).drop 1).drop 1).drop 1).drop 1).drop 1).drop 1).drop 1).drop 1).drop 1).drop 1).drop 1).drop 5).drop 1).drop 5).drop 2).drop 2).drop 1).drop 1).take 1).all (ckB 310)) = true := by decide +kernel
set_option maxRecDepth 20000 in
theorem ck_L_law_24 : (((((((((((((((((((((((((((XP 310).drop 3).drop 1).drop 1).drop 1).drop 1).drop 1).drop 1).drop 1).drop 1).drop 1).drop 1).drop 1).drop 1).drop 1).drop 1).drop 1).drop 5).drop 1).drop 5).drop 2).drop 2).drop 1).drop 1).drop 1).take 1).all (ckB 310)) = true := by decide +kernel
set_option maxRecDepth 20000 in
theorem ck_L_law_25 : ((((((((((((((((((((((((((((XP 310).drop 3).drop 1).drop 1).drop 1).drop 1).drop 1).drop 1).drop 1).drop 1).drop 1).drop 1).drop 1).drop 1).drop 1).drop 1).drop 1).drop 5).drop 1).drop 5).drop 2).drop 2).drop 1).drop 1).drop 1).drop 1).take 1).all (ckB 310)) = true := by decide +kernel
set_option maxRecDepth 20000 in
theorem ck_L_law_26 : (((((((((((((((((((((((((((((XP 310).drop 3).drop 1).drop 1).drop 1).drop 1).drop 1).drop 1).drop 1).drop 1).drop 1).drop 1).drop 1).drop 1).drop 1).drop 1).drop 1).drop 5).drop 1).drop 5).drop 2).drop 2).drop 1).drop 1).drop 1).drop 1).drop 1).take 1).all (ckB 310)) = true := by decide +kernel
set_option maxRecDepth 20000 in
theorem ck_L_law_27 : ((((((((((((((((((((((((((((((XP 310).drop 3).drop 1).drop 1).drop 1).drop 1).drop 1).drop 1).drop 1).drop 1).drop 1).drop 1).drop 1).drop 1).drop 1).drop 1).drop 1).drop 5).drop 1).drop 5).drop 2).drop 2).drop 1).drop 1).drop 1).drop 1).drop 1).drop 1).take 1).all (ckB 310)) = true := by decide +kernel
set_option maxRecDepth 20000 in
theorem ck_L_law_28 : (((((((((((((((((((((((((((((((XP 310).drop 3).drop 1).drop 1).drop 1).drop 1).drop 1).drop 1).drop 1).drop 1).drop 1).drop 1).drop 1).drop 1).drop 1).drop 1).drop 1).drop 5).drop 1).drop 5).drop 2).drop 2).drop 1).drop 1).drop 1).drop 1).drop 1).drop 1).drop 1).take 1).all (ckB 310)) = true := by decide +kernel
set_option maxRecDepth 20000 in
theorem ck_L_law_29 : ((((((((((((((((((((((((((((((((XP 310).drop 3).drop 1).drop 1).drop 1).drop 1).drop 1).drop 1).drop 1).drop 1).drop 1).drop 1).drop 1).drop 1).drop 1).drop 1).drop 1).drop 5).drop 1).drop 5).drop 2).drop 2).drop 1).drop 1).drop 1).drop 1).drop 1).drop 1).drop 1).drop 1).take 1).all (ckB 310)) = true := by decide +kernel
set_option maxRecDepth 20000 in
theorem ck_L_law_30 : (((((((((((((((((((((((((((((((((XP 310).drop 3).drop 1).drop 1).drop 1).drop 1).drop 1).drop 1).drop 1).drop 1).drop 1).drop 1).drop 1).drop 1).drop 1).drop 1).drop 1).drop 5).drop 1).drop 5).drop 2).drop 2).drop 1).drop 1).drop 1).drop 1).drop 1).drop 1).drop 1).drop 1).drop 1).take 5).all (ckB 310)) = true := by decide +kernel
set_option maxRecDepth 20000 in
theorem ck_L_law_31 : ((((((((((((((((((((((((((((((((((XP 310).drop 3).drop 1).drop 1).drop 1).drop 1).drop 1).drop 1).drop 1).drop 1).drop 1).drop 1).drop 1).drop 1).drop 1).drop 1).drop 1).drop 5).drop 1).drop 5).drop 2).drop 2).drop 1).drop 1).drop 1).drop 1).drop 1).drop 1).drop 1).drop 1).drop 1).drop 5).take 5).all (ckB 310)) = true := by decide +kernel
set_option maxRecDepth 20000 in
theorem ck_L_law_32 : (((((((((((((((((((((((((((((((((((XP 310).drop 3).drop 1).drop 1).drop 1).drop 1).drop 1).drop 1).drop 1).drop 1).drop 1).drop 1).drop 1).drop 1).drop 1).drop 1).drop 1).drop 5).drop 1).drop 5).drop 2).drop 2).drop 1).drop 1).drop 1).drop 1).drop 1).drop 1).drop 1).drop 1).drop 1).drop 5).drop 5).take 1).all (ckB 310)) = true := by decide +kernel
set_option maxRecDepth 20000 in
theorem ck_L_law_33 : ((((((((((((((((((((((((((((((((((((XP 310).drop 3).drop 1).drop 1).drop 1).drop 1).drop 1).drop 1).drop 1).drop 1).drop 1).drop 1).drop 1).drop 1).drop 1).drop 1).drop 1).drop 5).drop 1).drop 5).drop 2).drop 2).drop 1).drop 1).drop 1).drop 1).drop 1).drop 1).drop 1).drop 1).drop 1).drop 5).drop 5).drop 1).take 1).all (ckB 310)) = true := by decide +kernel
set_option maxRecDepth 20000 in
theorem ck_L_law_34 : (((((((((((((((((((((((((((((((((((((XP 310).drop 3).drop 1).drop 1).drop 1).drop 1).drop 1).drop 1).drop 1).drop 1).drop 1).drop 1).drop 1).drop 1).drop 1).drop 1).drop 1).drop 5).drop 1).drop 5).drop 2).drop 2).drop 1).drop 1).drop 1).drop 1).drop 1).drop 1).drop 1).drop 1).drop 1).drop 5).drop 5).drop 1).drop 1).take 1).all (ckB 310)) = true := by decide +kernel
set_option maxRecDepth 20000 in
theorem ck_L_law_35 : ((((((((((((((((((((((((((((((((((((((XP 310).drop 3).drop 1).drop 1).drop 1).drop 1).drop 1).drop 1).drop 1).drop 1).drop 1).drop 1).drop 1).drop 1).drop 1).drop 1).drop 1).drop 5).drop 1).drop 5).drop 2).drop 2).drop 1).drop 1).drop 1).drop 1).drop 1).drop 1).drop 1).drop 1).drop 1).drop 5).drop 5).drop 1).drop 1).drop 1).take 1).all (ckB 310)) = true := by decide +kernel
set_option maxRecDepth 20000 in
theorem ck_L_law_36 : (((((((((((((((((((((((((((((((((((((((XP 310).drop 3).drop 1).drop 1).drop 1).drop 1).drop 1).drop 1).drop 1).drop 1).drop 1).drop 1).drop 1).drop 1).drop 1).drop 1).drop 1).drop 5).drop 1).drop 5).drop 2).drop 2).drop 1).drop 1).drop 1).drop 1).drop 1).drop 1).drop 1).drop 1).drop 1).drop 5).drop 5).drop 1).drop 1).drop 1).drop 1).take 2).all (ckB 310)) = true := by decide +kernel
set_option maxRecDepth 20000 in
theorem ck_L_law_37 : ((((((((((((((((((((((((((((((((((((((((XP 310).drop 3).drop 1).drop 1).drop 1).drop 1).drop 1).drop 1).drop 1).drop 1).drop 1).drop 1).drop 1).drop 1).drop 1).drop 1).drop 1).drop 5).drop 1).drop 5).drop 2).drop 2).drop 1).drop 1).drop 1).drop 1).drop 1).drop 1).drop 1).drop 1).drop 1).drop 5).drop 5).drop 1).drop 1).drop 1).drop 1).drop 2).take 1).all (ckB 310)) = true := by decide +kernel
set_option maxRecDepth 20000 in
theorem ck_L_law_38 : (((((((((((((((((((((((((((((((((((((((((XP 310).drop 3).drop 1).drop 1).drop 1).drop 1).drop 1).drop 1).drop 1).drop 1).drop 1).drop 1).drop 1).drop 1).drop 1).drop 1).drop 1).drop 5).drop 1).drop 5).drop 2).drop 2).drop 1).drop 1).drop 1).drop 1).drop 1).drop 1).drop 1).drop 1).drop 1).drop 5).drop 5).drop 1).drop 1).drop 1).drop 1).drop 2).drop 1).take 1).all (ckB 310)) = true := by decide +kernel
set_option maxRecDepth 20000 in
theorem ck_L_law_39 : ((((((((((((((((((((((((((((((((((((((((((XP 310).drop 3).drop 1).drop 1).drop 1).drop 1).drop 1).drop 1).drop 1).drop 1).drop 1).drop 1).drop 1).drop 1).drop 1).drop 1).drop 1).drop 5).drop 1).drop 5).drop 2).drop 2).drop 1).drop 1).drop 1).drop 1).drop 1).drop 1).drop 1).drop 1).drop 1).drop 5).drop 5).drop 1).drop 1).drop 1).drop 1).drop 2).drop 1).drop 1).take 1).all (ckB 310)) = true := by decide +kernel
set_option maxRecDepth 20000 in
theorem ck_L_law_40 : (((((((((((((((((((((((((((((((((((((((((((XP 310).drop 3).drop 1).drop 1).drop 1).drop 1).drop 1).drop 1).drop 1).drop 1).drop 1).drop 1).drop 1).drop 1).drop 1).drop 1).drop 1).drop 5).drop 1).drop 5).drop 2).drop 2).drop 1).drop 1).drop 1).drop 1).drop 1).drop 1).drop 1).drop 1).drop 1).drop 5).drop 5).drop 1).drop 1).drop 1).drop 1).drop 2).drop 1).drop 1).drop 1).take 1).all (ckB 310)) = true := by decide +kernel
set_option maxRecDepth 20000 in
theorem ck_L_law_41 : ((((((((((((((((((((((((((((((((((((((((((((XP 310).drop 3).drop 1).drop 1).drop 1).drop 1).drop 1).drop 1).drop 1).drop 1).drop 1).drop 1).drop 1).drop 1).drop 1).drop 1).drop 1).drop 5).drop 1).drop 5).drop 2).drop 2).drop 1).drop 1).drop 1).drop 1).drop 1).drop 1).drop 1).drop 1).drop 1).drop 5).drop 5).drop 1).drop 1).drop 1).drop 1).drop 2).drop 1).drop 1).drop 1).drop 1).take 5).all (ckB 310)) = true := by decide +kernel
set_option maxRecDepth 20000 in
theorem ck_L_law_42 : (((((((((((((((((((((((((((((((((((((((((((((XP 310).drop 3).drop 1).drop 1).drop 1).drop 1).drop 1).drop 1).drop 1).drop 1).drop 1).drop 1).drop 1).drop 1).drop 1).drop 1).drop 1).drop 5).drop 1).drop 5).drop 2).drop 2).drop 1).drop 1).drop 1).drop 1).drop 1).drop 1).drop 1).drop 1).drop 1).drop 5).drop 5).drop 1).drop 1).drop 1).drop 1).drop 2).drop 1).drop 1).drop 1).drop 1).drop 5).take 1).all (ckB 310)) = true := by decide +kernel
set_option maxRecDepth 20000 in
theorem ck_L_law_43 : ((((((((((((((((((((((((((((((((((((((((((((((XP 310).drop 3).drop 1).drop 1).drop 1).drop 1).drop 1).drop 1).drop 1).drop 1).drop 1).drop 1).drop 1).drop 1).drop 1).drop 1).drop 1).drop 5).drop 1).drop 5).drop 2).drop 2).drop 1).drop 1).drop 1).drop 1).drop 1).drop 1).drop 1).drop 1).drop 1).drop 5).drop 5).drop 1).drop 1).drop 1).drop 1).drop 2).drop 1).drop 1).drop 1).drop 1).drop 5).drop 1).take 2).all (ckB 310)) = true := by decide +kernel
set_option maxRecDepth 20000 in
theorem ck_L_law_44 : (((((((((((((((((((((((((((((((((((((((((((((((XP 310).drop 3).drop 1).drop 1).drop 1).drop 1).drop 1).drop 1).drop 1).drop 1).drop 1).drop 1).drop 1).drop 1).drop 1).drop 1).drop 1).drop 5).drop 1).drop 5).drop 2).drop 2).drop 1).drop 1).drop 1).drop 1).drop 1).drop 1).drop 1).drop 1).drop 1).drop 5).drop 5).drop 1).drop 1).drop 1).drop 1).drop 2).drop 1).drop 1).drop 1).drop 1).drop 5).drop 1).drop 2).take 2).all (ckB 310)) = true := by decide +kernel
set_option maxRecDepth 20000 in
theorem ck_L_law_45 : ((((((((((((((((((((((((((((((((((((((((((((((((XP 310).drop 3).drop 1).drop 1).drop 1).drop 1).drop 1).drop 1).drop 1).drop 1).drop 1).drop 1).drop 1).drop 1).drop 1).drop 1).drop 1).drop 5).drop 1).drop 5).drop 2).drop 2).drop 1).drop 1).drop 1).drop 1).drop 1).drop 1).drop 1).drop 1).drop 1).drop 5).drop 5).drop 1).drop 1).drop 1).drop 1).drop 2).drop 1).drop 1).drop 1).drop 1).drop 5).drop 1).drop 2).drop 2).take 2).all (ckB 310)) = true := by decide +kernel
set_option maxRecDepth 20000 in
theorem ck_L_law_46 : ((((((((((((((((((((((((((((((((((((((((((((((((XP 310).drop 3).drop 1).drop 1).drop 1).drop 1).drop 1).drop 1).drop 1).drop 1).drop 1).drop 1).drop 1).drop 1).drop 1).drop 1).drop 1).drop 5).drop 1).drop 5).drop 2).drop 2).drop 1).drop 1).drop 1).drop 1).drop 1).drop 1).drop 1).drop 1).drop 1).drop 5).drop 5).drop 1).drop 1).drop 1).drop 1).drop 2).drop 1).drop 1).drop 1).drop 1).drop 5).drop 1).drop 2).drop 2).drop 2).all (ckB 310)) = true := by decide +kernel
theorem ck_L_law : ckM 310 = true := (all_split 3 ck_L_law_0 (all_split 1 ck_L_law_1 (all_split 1 ck_L_law_2 (all_split 1 ck_L_law_3 (all_split 1 ck_L_law_4 (all_split 1 ck_L_law_5 (all_split 1 ck_L_law_6 (all_split 1 ck_L_law_7 (all_split 1 ck_L_law_8 (all_split 1 ck_L_law_9 (all_split 1 ck_L_law_10 (all_split 1 ck_L_law_11 (all_split 1 ck_L_law_12 (all_split 1 ck_L_law_13 (all_split 1 ck_L_law_14 (all_split 1 ck_L_law_15 (all_split 5 ck_L_law_16 (all_split 1 ck_L_law_17 (all_split 5 ck_L_law_18 (all_split 2 ck_L_law_19 (all_split 2 ck_L_law_20 (all_split 1 ck_L_law_21 (all_split 1 ck_L_law_22 (all_split 1 ck_L_law_23 (all_split 1 ck_L_law_24 (all_split 1 ck_L_law_25 (all_split 1 ck_L_law_26 (all_split 1 ck_L_law_27 (all_split 1 ck_L_law_28 (all_split 1 ck_L_law_29 (all_split 5 ck_L_law_30 (all_split 5 ck_L_law_31 (all_split 1 ck_L_law_32 (all_split 1 ck_L_law_33 (all_split 1 ck_L_law_34 (all_split 1 ck_L_law_35 (all_split 2 ck_L_law_36 (all_split 1 ck_L_law_37 (all_split 1 ck_L_law_38 (all_split 1 ck_L_law_39 (all_split 1 ck_L_law_40 (all_split 5 ck_L_law_41 (all_split 1 ck_L_law_42 (all_split 2 ck_L_law_43 (all_split 2 ck_L_law_44 (all_split 2 ck_L_law_45 ck_L_law_46))))))))))))))))))))))))))))))))))))))))))))))
theorem ckr_0 (m : Nat) (h1 : 0 ≤ m) (h2 : m < 32) : ckM m = true := by
  rcases (by omega : m = 0 ∨ m = 1 ∨ m = 2 ∨ m = 3 ∨ m = 4 ∨ m = 5 ∨ m = 6 ∨ m = 7 ∨ m = 8 ∨ m = 9 ∨ m = 10 ∨ m = 11 ∨ m = 12 ∨ m = 13 ∨ m = 14 ∨ m = 15 ∨ m = 16 ∨ m = 17 ∨ m = 18 ∨ m = 19 ∨ m = 20 ∨ m = 21 ∨ m = 22 ∨ m = 23 ∨ m = 24 ∨ m = 25 ∨ m = 26 ∨ m = 27 ∨ m = 28 ∨ m = 29 ∨ m = 30 ∨ m = 31) with rfl | rfl | rfl | rfl | rfl | rfl | rfl | rfl | rfl | rfl | rfl | rfl | rfl | rfl | rfl | rfl | rfl | rfl | rfl | rfl | rfl | rfl | rfl | rfl | rfl | rfl | rfl | rfl | rfl | rfl | rfl | rfl
  · exact ck_X0_init
  · exact ck_X0_begin
  · exact ck_X0_add
  · exact ck_X0_has
  · exact ck_X0_fits
  · exact ck_X0_baseOf
  · exact ck_X1_init
  · exact ck_X1_begin
  · exact ck_X1_homeAt
  · exact ck_X1_isLaid
  · exact ck_X1_liesIn
  · exact ck_X1_hasAllHomes
  · exact ck_X1_isWithin
  · exact ck_X1_lay
  · exact ck_X1_lift
  · exact ck_X1_againstPut
  · exact ck_X1_isCrowded
  · exact ck_X1_againstPairs
  · exact ck_X1_partner
  · exact ck_X1_againstBar
  · exact ck_X1_shut
  · exact ck_X1_againstAmong
  · exact ck_X1_earliestBarInto
  · exact ck_X1_narrow
  · exact ck_X1_setOf
  · exact ck_X1_isUnsettled
  · exact ck_X1_unsettled
  · exact ck_X1_againstPairing
  · exact ck_X1_addPair
  · exact ck_X1_hasMost
  · exact ck_X1_tellMost
  · exact ck_X1_putBehind
theorem ckr_32 (m : Nat) (h1 : 32 ≤ m) (h2 : m < 64) : ckM m = true := by
  rcases (by omega : m = 32 ∨ m = 33 ∨ m = 34 ∨ m = 35 ∨ m = 36 ∨ m = 37 ∨ m = 38 ∨ m = 39 ∨ m = 40 ∨ m = 41 ∨ m = 42 ∨ m = 43 ∨ m = 44 ∨ m = 45 ∨ m = 46 ∨ m = 47 ∨ m = 48 ∨ m = 49 ∨ m = 50 ∨ m = 51 ∨ m = 52 ∨ m = 53 ∨ m = 54 ∨ m = 55 ∨ m = 56 ∨ m = 57 ∨ m = 58 ∨ m = 59 ∨ m = 60 ∨ m = 61 ∨ m = 62 ∨ m = 63) with rfl | rfl | rfl | rfl | rfl | rfl | rfl | rfl | rfl | rfl | rfl | rfl | rfl | rfl | rfl | rfl | rfl | rfl | rfl | rfl | rfl | rfl | rfl | rfl | rfl | rfl | rfl | rfl | rfl | rfl | rfl | rfl
  · exact ck_X1_bulk
  · exact ck_X1_bulkAlone
  · exact ck_X1_load
  · exact ck_X2_init
  · exact ck_X2_add
  · exact ck_X2_has
  · exact ck_X2_rowOf
  · exact ck_X2_holds
  · exact ck_X2_join
  · exact ck_X2_merge
  · exact ck_X2_againstRelate
  · exact ck_X2_earliestDeny
  · exact ck_X2_earliestRelate
  · exact ck_X2_heldBy
  · exact ck_X2_togetherBy
  · exact ck_X2_walkFrom
  · exact ck_X2_couples
  · exact ck_X3_init
  · exact ck_X3_begin
  · exact ck_X3_write
  · exact ck_X3_sortOf
  · exact ck_X3_leadsTo
  · exact ck_X3_isTold
  · exact ck_X3_toldIn
  · exact ck_X3_opposite
  · exact ck_X3_tellExit
  · exact ck_X3_againstDoor
  · exact ck_X3_tellDoor
  · exact ck_X3_isPassable
  · exact ck_X3_walkFrom
  · exact ck_X4_init
  · exact ck_X4_areFull
theorem ckr_64 (m : Nat) (h1 : 64 ≤ m) (h2 : m < 96) : ckM m = true := by
  rcases (by omega : m = 64 ∨ m = 65 ∨ m = 66 ∨ m = 67 ∨ m = 68 ∨ m = 69 ∨ m = 70 ∨ m = 71 ∨ m = 72 ∨ m = 73 ∨ m = 74 ∨ m = 75 ∨ m = 76 ∨ m = 77 ∨ m = 78 ∨ m = 79 ∨ m = 80 ∨ m = 81 ∨ m = 82 ∨ m = 83 ∨ m = 84 ∨ m = 85 ∨ m = 86 ∨ m = 87 ∨ m = 88 ∨ m = 89 ∨ m = 90 ∨ m = 91 ∨ m = 92 ∨ m = 93 ∨ m = 94 ∨ m = 95) with rfl | rfl | rfl | rfl | rfl | rfl | rfl | rfl | rfl | rfl | rfl | rfl | rfl | rfl | rfl | rfl | rfl | rfl | rfl | rfl | rfl | rfl | rfl | rfl | rfl | rfl | rfl | rfl | rfl | rfl | rfl | rfl
  · exact ck_X4_add
  · exact ck_X4_earliest
  · exact ck_X5_init
  · exact ck_X5_ways
  · exact ck_X5_thingAt
  · exact ck_X5_takeLeastWay
  · exact ck_X5_layFrom
  · exact ck_X5_lets
  · exact ck_X6_init
  · exact ck_X6_begin
  · exact ck_X6_spans
  · exact ck_X7_init
  · exact ck_X7_begin
  · exact ck_X7_hasCell
  · exact ck_X7_isBlank
  · exact ck_X7_told
  · exact ck_X7_write
  · exact ck_X7_wipe
  · exact ck_X7_rowWith
  · exact ck_X7_order
  · exact ck_X7_isAhead
  · exact ck_X7_swap
  · exact ck_X7_sum
  · exact ck_X7_filledIn
  · exact ck_X8_init
  · exact ck_X8_add
  · exact ck_X8_has
  · exact ck_X8_all
  · exact ck_X8_holders
  · exact ck_X8_isRoom
  · exact ck_X8_haveRoom
  · exact ck_X8_isCarrier
theorem ckr_96 (m : Nat) (h1 : 96 ≤ m) (h2 : m < 128) : ckM m = true := by
  rcases (by omega : m = 96 ∨ m = 97 ∨ m = 98 ∨ m = 99 ∨ m = 100 ∨ m = 101 ∨ m = 102 ∨ m = 103 ∨ m = 104 ∨ m = 105 ∨ m = 106 ∨ m = 107 ∨ m = 108 ∨ m = 109 ∨ m = 110 ∨ m = 111 ∨ m = 112 ∨ m = 113 ∨ m = 114 ∨ m = 115 ∨ m = 116 ∨ m = 117 ∨ m = 118 ∨ m = 119 ∨ m = 120 ∨ m = 121 ∨ m = 122 ∨ m = 123 ∨ m = 124 ∨ m = 125 ∨ m = 126 ∨ m = 127) with rfl | rfl | rfl | rfl | rfl | rfl | rfl | rfl | rfl | rfl | rfl | rfl | rfl | rfl | rfl | rfl | rfl | rfl | rfl | rfl | rfl | rfl | rfl | rfl | rfl | rfl | rfl | rfl | rfl | rfl | rfl | rfl
  · exact ck_X8_isHolder
  · exact ck_X8_hasLid
  · exact ck_X8_isFixed
  · exact ck_X8_liesInOne
  · exact ck_X8_mayLieIn
  · exact ck_X8_worth
  · exact ck_X8_lid
  · exact ck_X9_init
  · exact ck_X9_add
  · exact ck_X9_has
  · exact ck_X9_emptyCell
  · exact ck_X9_knows
  · exact ck_X9_takes
  · exact ck_X9_isFor
  · exact ck_X9_tellUsual
  · exact ck_X9_tellGiven
  · exact ck_X9_givenBy
  · exact ck_X9_givenCell
  · exact ck_X9_isGivenOtherwise
  · exact ck_X9_valueOf
  · exact ck_X10_init
  · exact ck_X10_begin
  · exact ck_X10_step
  · exact ck_X11_init
  · exact ck_X11_beginAnew
  · exact ck_X11_faulted
  · exact ck_X11_against
  · exact ck_X11_inRange
  · exact ck_X11_kind
  · exact ck_X11_is
  · exact ck_X11_property
  · exact ck_X11_usual
theorem ckr_128 (m : Nat) (h1 : 128 ≤ m) (h2 : m < 160) : ckM m = true := by
  rcases (by omega : m = 128 ∨ m = 129 ∨ m = 130 ∨ m = 131 ∨ m = 132 ∨ m = 133 ∨ m = 134 ∨ m = 135 ∨ m = 136 ∨ m = 137 ∨ m = 138 ∨ m = 139 ∨ m = 140 ∨ m = 141 ∨ m = 142 ∨ m = 143 ∨ m = 144 ∨ m = 145 ∨ m = 146 ∨ m = 147 ∨ m = 148 ∨ m = 149 ∨ m = 150 ∨ m = 151 ∨ m = 152 ∨ m = 153 ∨ m = 154 ∨ m = 155 ∨ m = 156 ∨ m = 157 ∨ m = 158 ∨ m = 159) with rfl | rfl | rfl | rfl | rfl | rfl | rfl | rfl | rfl | rfl | rfl | rfl | rfl | rfl | rfl | rfl | rfl | rfl | rfl | rfl | rfl | rfl | rfl | rfl | rfl | rfl | rfl | rfl | rfl | rfl | rfl | rfl
  · exact ck_X11_thing
  · exact ck_X11_put
  · exact ck_X11_bar
  · exact ck_X11_give
  · exact ck_X11_value
  · exact ck_X11_given
  · exact ck_X11_peek
  · exact ck_X11_place
  · exact ck_X11_says
  · exact ck_X11_saying
  · exact ck_X11_stride
  · exact ck_X11_follow
  · exact ck_X11_mark
  · exact ck_X11_remark
  · exact ck_X11_open
  · exact ck_X11_among
  · exact ck_X11_pair
  · exact ck_X11_most
  · exact ck_X11_settle
  · exact ck_X11_set
  · exact ck_X11_relation
  · exact ck_X11_relate
  · exact ck_X11_deny
  · exact ck_X11_related
  · exact ck_X11_along
  · exact ck_X11_next
  · exact ck_X11_areRelatable
  · exact ck_X11_exit
  · exact ck_X11_door
  · exact ck_X11_leads
  · exact ck_X11_sort
  · exact ck_X11_route
theorem ckr_160 (m : Nat) (h1 : 160 ≤ m) (h2 : m < 192) : ckM m = true := by
  rcases (by omega : m = 160 ∨ m = 161 ∨ m = 162 ∨ m = 163 ∨ m = 164 ∨ m = 165 ∨ m = 166 ∨ m = 167 ∨ m = 168 ∨ m = 169 ∨ m = 170 ∨ m = 171 ∨ m = 172 ∨ m = 173 ∨ m = 174 ∨ m = 175 ∨ m = 176 ∨ m = 177 ∨ m = 178 ∨ m = 179 ∨ m = 180 ∨ m = 181 ∨ m = 182 ∨ m = 183 ∨ m = 184 ∨ m = 185 ∨ m = 186 ∨ m = 187 ∨ m = 188 ∨ m = 189 ∨ m = 190 ∨ m = 191) with rfl | rfl | rfl | rfl | rfl | rfl | rfl | rfl | rfl | rfl | rfl | rfl | rfl | rfl | rfl | rfl | rfl | rfl | rfl | rfl | rfl | rfl | rfl | rfl | rfl | rfl | rfl | rfl | rfl | rfl | rfl | rfl
  · exact ck_X11_first
  · exact ck_X11_shelf
  · exact ck_X11_stand
  · exact ck_X11_shelfTakes
  · exact ck_X11_stands
  · exact ck_X11_haul
  · exact ck_X11_came
  · exact ck_X11_table
  · exact ck_X11_areLanes
  · exact ck_X11_fill
  · exact ck_X11_blank
  · exact ck_X11_read
  · exact ck_X11_choose
  · exact ck_X11_rank
  · exact ck_X11_total
  · exact ck_X11_mean
  · exact ck_X11_make
  · exact ck_X11_addWord
  · exact ck_X11_addWordsOfThing
  · exact ck_X11_addWordsOfRoom
  · exact ck_X11_word
  · exact ck_X11_digest
  · exact ck_X11_sentence
  · exact ck_X11_count
  · exact ck_X11_fault
  · exact ck_X11_clear
  · exact ck_X11_bit
  · exact ck_X11_toldBy
  · exact ck_X12_init
  · exact ck_X12_in
  · exact ck_X12_faulty
  · exact ck_X12_begin
theorem ckr_192 (m : Nat) (h1 : 192 ≤ m) (h2 : m < 224) : ckM m = true := by
  rcases (by omega : m = 192 ∨ m = 193 ∨ m = 194 ∨ m = 195 ∨ m = 196 ∨ m = 197 ∨ m = 198 ∨ m = 199 ∨ m = 200 ∨ m = 201 ∨ m = 202 ∨ m = 203 ∨ m = 204 ∨ m = 205 ∨ m = 206 ∨ m = 207 ∨ m = 208 ∨ m = 209 ∨ m = 210 ∨ m = 211 ∨ m = 212 ∨ m = 213 ∨ m = 214 ∨ m = 215 ∨ m = 216 ∨ m = 217 ∨ m = 218 ∨ m = 219 ∨ m = 220 ∨ m = 221 ∨ m = 222 ∨ m = 223) with rfl | rfl | rfl | rfl | rfl | rfl | rfl | rfl | rfl | rfl | rfl | rfl | rfl | rfl | rfl | rfl | rfl | rfl | rfl | rfl | rfl | rfl | rfl | rfl | rfl | rfl | rfl | rfl | rfl | rfl | rfl | rfl
  · exact ck_X12_isKind
  · exact ck_X12_isProperty
  · exact ck_X12_comesTo
  · exact ck_X12_baseOf
  · exact ck_X12_kind
  · exact ck_X12_is
  · exact ck_X12_property
  · exact ck_X12_cell
  · exact ck_X12_isUnknown
  · exact ck_X12_isStored
  · exact ck_X12_usual
  · exact ck_X12_isThing
  · exact ck_X12_base
  · exact ck_X12_isCarrier
  · exact ck_X12_isHolder
  · exact ck_X12_isFixed
  · exact ck_X12_isBackdrop
  · exact ck_X12_thing
  · exact ck_X12_tell
  · exact ck_X12_against
  · exact ck_X12_first
  · exact ck_X12_latestAmong
  · exact ck_X12_isWithin
  · exact ck_X12_placeOf
  · exact ck_X12_nth
  · exact ck_X12_held
  · exact ck_X12_pairAgainst
  · exact ck_X12_putAgainst
  · exact ck_X12_lies
  · exact ck_X12_put
  · exact ck_X12_bar
  · exact ck_X12_give
theorem ckr_224 (m : Nat) (h1 : 224 ≤ m) (h2 : m < 256) : ckM m = true := by
  rcases (by omega : m = 224 ∨ m = 225 ∨ m = 226 ∨ m = 227 ∨ m = 228 ∨ m = 229 ∨ m = 230 ∨ m = 231 ∨ m = 232 ∨ m = 233 ∨ m = 234 ∨ m = 235 ∨ m = 236 ∨ m = 237 ∨ m = 238 ∨ m = 239 ∨ m = 240 ∨ m = 241 ∨ m = 242 ∨ m = 243 ∨ m = 244 ∨ m = 245 ∨ m = 246 ∨ m = 247 ∨ m = 248 ∨ m = 249 ∨ m = 250 ∨ m = 251 ∨ m = 252 ∨ m = 253 ∨ m = 254 ∨ m = 255) with rfl | rfl | rfl | rfl | rfl | rfl | rfl | rfl | rfl | rfl | rfl | rfl | rfl | rfl | rfl | rfl | rfl | rfl | rfl | rfl | rfl | rfl | rfl | rfl | rfl | rfl | rfl | rfl | rfl | rfl | rfl | rfl
  · exact ck_X12_valueOf
  · exact ck_X12_value
  · exact ck_X12_given
  · exact ck_X12_peek
  · exact ck_X12_place
  · exact ck_X12_loadOf
  · exact ck_X12_bulkOf
  · exact ck_X12_worthOf
  · exact ck_X12_lidOf
  · exact ck_X12_said
  · exact ck_X12_says
  · exact ck_X12_follow
  · exact ck_X12_hasOwn
  · exact ck_X12_mark
  · exact ck_X12_remark
  · exact ck_X12_open
  · exact ck_X12_among
  · exact ck_X12_pair
  · exact ck_X12_most
  · exact ck_X12_isUnsettled
  · exact ck_X12_unsettled
  · exact ck_X12_keeps
  · exact ck_X12_lowest
  · exact ck_X12_many
  · exact ck_X12_goesOn
  · exact ck_X12_settle
  · exact ck_X12_set
  · exact ck_X12_isRelation
  · exact ck_X12_groupUp
  · exact ck_X12_told
  · exact ck_X12_earlier
  · exact ck_X12_hasBy
theorem ckr_256 (m : Nat) (h1 : 256 ≤ m) (h2 : m < 288) : ckM m = true := by
  rcases (by omega : m = 256 ∨ m = 257 ∨ m = 258 ∨ m = 259 ∨ m = 260 ∨ m = 261 ∨ m = 262 ∨ m = 263 ∨ m = 264 ∨ m = 265 ∨ m = 266 ∨ m = 267 ∨ m = 268 ∨ m = 269 ∨ m = 270 ∨ m = 271 ∨ m = 272 ∨ m = 273 ∨ m = 274 ∨ m = 275 ∨ m = 276 ∨ m = 277 ∨ m = 278 ∨ m = 279 ∨ m = 280 ∨ m = 281 ∨ m = 282 ∨ m = 283 ∨ m = 284 ∨ m = 285 ∨ m = 286 ∨ m = 287) with rfl | rfl | rfl | rfl | rfl | rfl | rfl | rfl | rfl | rfl | rfl | rfl | rfl | rfl | rfl | rfl | rfl | rfl | rfl | rfl | rfl | rfl | rfl | rfl | rfl | rfl | rfl | rfl | rfl | rfl | rfl | rfl
  · exact ck_X12_has
  · exact ck_X12_deniedBy
  · exact ck_X12_oneOnly
  · exact ck_X12_relation
  · exact ck_X12_isCouple
  · exact ck_X12_relate
  · exact ck_X12_deny
  · exact ck_X12_related
  · exact ck_X12_couples
  · exact ck_X12_goBack
  · exact ck_X12_along
  · exact ck_X12_next
  · exact ck_X12_isRoom
  · exact ck_X12_lead
  · exact ck_X12_exit
  · exact ck_X12_door
  · exact ck_X12_leads
  · exact ck_X12_sort
  · exact ck_X12_goes
  · exact ck_X12_routeBack
  · exact ck_X12_route
  · exact ck_X12_first_
  · exact ck_X12_isShelf
  · exact ck_X12_takes
  · exact ck_X12_shelf
  · exact ck_X12_stand
  · exact ck_X12_stands
  · exact ck_X12_haul
  · exact ck_X12_came
  · exact ck_X12_isTable
  · exact ck_X12_table
  · exact ck_X12_isColumn
theorem ckr_288 (m : Nat) (h1 : 288 ≤ m) (h2 : m < 311) : ckM m = true := by
  rcases (by omega : m = 288 ∨ m = 289 ∨ m = 290 ∨ m = 291 ∨ m = 292 ∨ m = 293 ∨ m = 294 ∨ m = 295 ∨ m = 296 ∨ m = 297 ∨ m = 298 ∨ m = 299 ∨ m = 300 ∨ m = 301 ∨ m = 302 ∨ m = 303 ∨ m = 304 ∨ m = 305 ∨ m = 306 ∨ m = 307 ∨ m = 308 ∨ m = 309 ∨ m = 310) with rfl | rfl | rfl | rfl | rfl | rfl | rfl | rfl | rfl | rfl | rfl | rfl | rfl | rfl | rfl | rfl | rfl | rfl | rfl | rfl | rfl | rfl | rfl
  · exact ck_X12_isCell
  · exact ck_X12_cellAt
  · exact ck_X12_fill
  · exact ck_X12_blank
  · exact ck_X12_read
  · exact ck_X12_choose
  · exact ck_X12_isAhead
  · exact ck_X12_rank
  · exact ck_X12_filledIn
  · exact ck_X12_sumOf
  · exact ck_X12_total
  · exact ck_X12_mean
  · exact ck_X12_add
  · exact ck_X12_make
  · exact ck_X12_word
  · exact ck_X12_digest
  · exact ck_X12_sentence
  · exact ck_X12_count
  · exact ck_X12_fault
  · exact ck_X12_clear
  · exact ck_J13_bitCount_95d88
  · exact ck_J9_max_7cf53
  · exact ck_L_law
theorem ck_all (m : Nat) (h : m < 311) : ckM m = true := by
  rcases (by omega : (0 ≤ m ∧ m < 32) ∨ (32 ≤ m ∧ m < 64) ∨ (64 ≤ m ∧ m < 96) ∨ (96 ≤ m ∧ m < 128) ∨ (128 ≤ m ∧ m < 160) ∨ (160 ≤ m ∧ m < 192) ∨ (192 ≤ m ∧ m < 224) ∨ (224 ≤ m ∧ m < 256) ∨ (256 ≤ m ∧ m < 288) ∨ (288 ≤ m ∧ m < 311)) with h | h | h | h | h | h | h | h | h | h
  · exact ckr_0 m h.1 h.2
  · exact ckr_32 m h.1 h.2
  · exact ckr_64 m h.1 h.2
  · exact ckr_96 m h.1 h.2
  · exact ckr_128 m h.1 h.2
  · exact ckr_160 m h.1 h.2
  · exact ckr_192 m h.1 h.2
  · exact ckr_224 m h.1 h.2
  · exact ckr_256 m h.1 h.2
  · exact ckr_288 m h.1 h.2
