/-! entries checked -/
theorem ck_X11_given : ckM 133 = true := by decide +kernel
theorem ck_X11_peek : ckM 134 = true := by decide +kernel
theorem ck_X11_place : ckM 135 = true := by decide +kernel
theorem ck_X11_says : ckM 136 = true := by decide +kernel
set_option maxRecDepth 20000 in
theorem ck_X11_saying_0 : (((XP 137).take 9).all (ckB 137)) = true := by decide +kernel
set_option maxRecDepth 20000 in
theorem ck_X11_saying_1 : (((XP 137).drop 9).all (ckB 137)) = true := by decide +kernel
theorem ck_X11_saying : ckM 137 = true := (all_split 9 ck_X11_saying_0 ck_X11_saying_1)
theorem ck_X11_stride : ckM 138 = true := by decide +kernel
set_option maxRecDepth 20000 in
theorem ck_X11_follow_0 : (((XP 139).take 6).all (ckB 139)) = true := by decide +kernel
set_option maxRecDepth 20000 in
theorem ck_X11_follow_1 : (((XP 139).drop 6).all (ckB 139)) = true := by decide +kernel
theorem ck_X11_follow : ckM 139 = true := (all_split 6 ck_X11_follow_0 ck_X11_follow_1)
theorem ck_X11_mark : ckM 140 = true := by decide +kernel
set_option maxRecDepth 20000 in
theorem ck_X11_remark_0 : (((XP 141).take 7).all (ckB 141)) = true := by decide +kernel
set_option maxRecDepth 20000 in
theorem ck_X11_remark_1 : (((XP 141).drop 7).all (ckB 141)) = true := by decide +kernel
theorem ck_X11_remark : ckM 141 = true := (all_split 7 ck_X11_remark_0 ck_X11_remark_1)
theorem ck_X11_open : ckM 142 = true := by decide +kernel
set_option maxRecDepth 20000 in
theorem ck_X11_among_0 : (((XP 143).take 3).all (ckB 143)) = true := by decide +kernel
set_option maxRecDepth 20000 in
theorem ck_X11_among_1 : ((((XP 143).drop 3).take 4).all (ckB 143)) = true := by decide +kernel
set_option maxRecDepth 20000 in
theorem ck_X11_among_2 : ((((XP 143).drop 3).drop 4).all (ckB 143)) = true := by decide +kernel
theorem ck_X11_among : ckM 143 = true := (all_split 3 ck_X11_among_0 (all_split 4 ck_X11_among_1 ck_X11_among_2))
set_option maxRecDepth 20000 in
theorem ck_X11_pair_0 : (((XP 144).take 6).all (ckB 144)) = true := by decide +kernel
set_option maxRecDepth 20000 in
theorem ck_X11_pair_1 : (((XP 144).drop 6).all (ckB 144)) = true := by decide +kernel
theorem ck_X11_pair : ckM 144 = true := (all_split 6 ck_X11_pair_0 ck_X11_pair_1)
set_option maxRecDepth 20000 in
theorem ck_X11_most_0 : (((XP 145).take 7).all (ckB 145)) = true := by decide +kernel
set_option maxRecDepth 20000 in
theorem ck_X11_most_1 : (((XP 145).drop 7).all (ckB 145)) = true := by decide +kernel
theorem ck_X11_most : ckM 145 = true := (all_split 7 ck_X11_most_0 ck_X11_most_1)
set_option maxRecDepth 20000 in
theorem ck_X11_settle_0 : (((XP 146).take 5).all (ckB 146)) = true := by decide +kernel
set_option maxRecDepth 20000 in
theorem ck_X11_settle_1 : (((XP 146).drop 5).all (ckB 146)) = true := by decide +kernel
theorem ck_X11_settle : ckM 146 = true := (all_split 5 ck_X11_settle_0 ck_X11_settle_1)
theorem ck_X11_set : ckM 147 = true := by decide +kernel
theorem ck_X11_relation : ckM 148 = true := by decide +kernel
set_option maxRecDepth 20000 in
theorem ck_X11_relate_0 : (((XP 149).take 5).all (ckB 149)) = true := by decide +kernel
set_option maxRecDepth 20000 in
theorem ck_X11_relate_1 : (((XP 149).drop 5).all (ckB 149)) = true := by decide +kernel
theorem ck_X11_relate : ckM 149 = true := (all_split 5 ck_X11_relate_0 ck_X11_relate_1)
set_option maxRecDepth 20000 in
theorem ck_X11_deny_0 : (((XP 150).take 5).all (ckB 150)) = true := by decide +kernel
set_option maxRecDepth 20000 in
theorem ck_X11_deny_1 : (((XP 150).drop 5).all (ckB 150)) = true := by decide +kernel
theorem ck_X11_deny : ckM 150 = true := (all_split 5 ck_X11_deny_0 ck_X11_deny_1)
theorem ck_X11_related : ckM 151 = true := by decide +kernel
theorem ck_X11_along : ckM 152 = true := by decide +kernel
theorem ck_X11_next : ckM 153 = true := by decide +kernel
theorem ck_X11_areRelatable : ckM 154 = true := by decide +kernel
set_option maxRecDepth 20000 in
theorem ck_X11_exit_0 : (((XP 155).take 4).all (ckB 155)) = true := by decide +kernel
set_option maxRecDepth 20000 in
theorem ck_X11_exit_1 : (((XP 155).drop 4).all (ckB 155)) = true := by decide +kernel
theorem ck_X11_exit : ckM 155 = true := (all_split 4 ck_X11_exit_0 ck_X11_exit_1)
set_option maxRecDepth 20000 in
theorem ck_X11_door_0 : (((XP 156).take 6).all (ckB 156)) = true := by decide +kernel
set_option maxRecDepth 20000 in
theorem ck_X11_door_1 : (((XP 156).drop 6).all (ckB 156)) = true := by decide +kernel
theorem ck_X11_door : ckM 156 = true := (all_split 6 ck_X11_door_0 ck_X11_door_1)
theorem ck_X11_leads : ckM 157 = true := by decide +kernel
theorem ck_X11_sort : ckM 158 = true := by decide +kernel
theorem ck_X11_route : ckM 159 = true := by decide +kernel
theorem ck_X11_first : ckM 160 = true := by decide +kernel
theorem ck_X11_shelf : ckM 161 = true := by decide +kernel
set_option maxRecDepth 20000 in
theorem ck_X11_stand_0 : (((XP 162).take 4).all (ckB 162)) = true := by decide +kernel
set_option maxRecDepth 20000 in
theorem ck_X11_stand_1 : (((XP 162).drop 4).all (ckB 162)) = true := by decide +kernel
theorem ck_X11_stand : ckM 162 = true := (all_split 4 ck_X11_stand_0 ck_X11_stand_1)
theorem ck_X11_shelfTakes : ckM 163 = true := by decide +kernel
theorem ck_X11_stands : ckM 164 = true := by decide +kernel
set_option maxRecDepth 20000 in
theorem ck_X11_haul_0 : (((XP 165).take 5).all (ckB 165)) = true := by decide +kernel
set_option maxRecDepth 20000 in
theorem ck_X11_haul_1 : ((((XP 165).drop 5).take 3).all (ckB 165)) = true := by decide +kernel
set_option maxRecDepth 20000 in
theorem ck_X11_haul_2 : ((((XP 165).drop 5).drop 3).all (ckB 165)) = true := by decide +kernel
