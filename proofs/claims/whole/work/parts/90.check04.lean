/-! entries checked -/
theorem ck_X11_haul : ckM 165 = true := (all_split 5 ck_X11_haul_0 (all_split 3 ck_X11_haul_1 ck_X11_haul_2))
theorem ck_X11_came : ckM 166 = true := by decide +kernel
theorem ck_X11_table : ckM 167 = true := by decide +kernel
theorem ck_X11_areLanes : ckM 168 = true := by decide +kernel
theorem ck_X11_fill : ckM 169 = true := by decide +kernel
theorem ck_X11_blank : ckM 170 = true := by decide +kernel
theorem ck_X11_read : ckM 171 = true := by decide +kernel
theorem ck_X11_choose : ckM 172 = true := by decide +kernel
theorem ck_X11_rank : ckM 173 = true := by decide +kernel
theorem ck_X11_total : ckM 174 = true := by decide +kernel
theorem ck_X11_mean : ckM 175 = true := by decide +kernel
set_option maxRecDepth 20000 in
theorem ck_X11_make_0 : (((XP 176).take 5).all (ckB 176)) = true := by decide +kernel
set_option maxRecDepth 20000 in
theorem ck_X11_make_1 : (((XP 176).drop 5).all (ckB 176)) = true := by decide +kernel
theorem ck_X11_make : ckM 176 = true := (all_split 5 ck_X11_make_0 ck_X11_make_1)
theorem ck_X11_addWord : ckM 177 = true := by decide +kernel
theorem ck_X11_addWordsOfThing : ckM 178 = true := by decide +kernel
theorem ck_X11_addWordsOfRoom : ckM 179 = true := by decide +kernel
theorem ck_X11_word : ckM 180 = true := by decide +kernel
theorem ck_X11_digest : ckM 181 = true := by decide +kernel
theorem ck_X11_sentence : ckM 182 = true := by decide +kernel
theorem ck_X11_count : ckM 183 = true := by decide +kernel
theorem ck_X11_fault : ckM 184 = true := by decide +kernel
theorem ck_X11_clear : ckM 185 = true := by decide +kernel
theorem ck_X11_bit : ckM 186 = true := by decide +kernel
theorem ck_X11_toldBy : ckM 187 = true := by decide +kernel
set_option maxRecDepth 20000 in
theorem ck_X12_init_0 : ((XP 188).all (ckB 188)) = true := by decide +kernel
theorem ck_X12_init : ckM 188 = true := ck_X12_init_0
theorem ck_X12_in : ckM 189 = true := by decide +kernel
theorem ck_X12_faulty : ckM 190 = true := by decide +kernel
set_option maxRecDepth 20000 in
theorem ck_X12_begin_0 : (((XP 191).take 4).all (ckB 191)) = true := by decide +kernel
set_option maxRecDepth 20000 in
theorem ck_X12_begin_1 : ((((XP 191).drop 4).take 3).all (ckB 191)) = true := by decide +kernel
set_option maxRecDepth 20000 in
theorem ck_X12_begin_2 : ((((XP 191).drop 4).drop 3).all (ckB 191)) = true := by decide +kernel
theorem ck_X12_begin : ckM 191 = true := (all_split 4 ck_X12_begin_0 (all_split 3 ck_X12_begin_1 ck_X12_begin_2))
theorem ck_X12_isKind : ckM 192 = true := by decide +kernel
theorem ck_X12_isProperty : ckM 193 = true := by decide +kernel
theorem ck_X12_comesTo : ckM 194 = true := by decide +kernel
theorem ck_X12_baseOf : ckM 195 = true := by decide +kernel
theorem ck_X12_kind : ckM 196 = true := by decide +kernel
theorem ck_X12_is : ckM 197 = true := by decide +kernel
set_option maxRecDepth 20000 in
theorem ck_X12_property_0 : (((XP 198).take 4).all (ckB 198)) = true := by decide +kernel
set_option maxRecDepth 20000 in
theorem ck_X12_property_1 : ((((XP 198).drop 4).take 4).all (ckB 198)) = true := by decide +kernel
set_option maxRecDepth 20000 in
theorem ck_X12_property_2 : ((((XP 198).drop 4).drop 4).all (ckB 198)) = true := by decide +kernel
theorem ck_X12_property : ckM 198 = true := (all_split 4 ck_X12_property_0 (all_split 4 ck_X12_property_1 ck_X12_property_2))
theorem ck_X12_cell : ckM 199 = true := by decide +kernel
theorem ck_X12_isUnknown : ckM 200 = true := by decide +kernel
theorem ck_X12_isStored : ckM 201 = true := by decide +kernel
set_option maxRecDepth 20000 in
theorem ck_X12_usual_0 : (((XP 202).take 4).all (ckB 202)) = true := by decide +kernel
set_option maxRecDepth 20000 in
theorem ck_X12_usual_1 : (((XP 202).drop 4).all (ckB 202)) = true := by decide +kernel
theorem ck_X12_usual : ckM 202 = true := (all_split 4 ck_X12_usual_0 ck_X12_usual_1)
theorem ck_X12_isThing : ckM 203 = true := by decide +kernel
theorem ck_X12_base : ckM 204 = true := by decide +kernel
theorem ck_X12_isCarrier : ckM 205 = true := by decide +kernel
theorem ck_X12_isHolder : ckM 206 = true := by decide +kernel
theorem ck_X12_isFixed : ckM 207 = true := by decide +kernel
theorem ck_X12_isBackdrop : ckM 208 = true := by decide +kernel
set_option maxRecDepth 20000 in
theorem ck_X12_thing_0 : (((XP 209).take 3).all (ckB 209)) = true := by decide +kernel
set_option maxRecDepth 20000 in
theorem ck_X12_thing_1 : (((XP 209).drop 3).all (ckB 209)) = true := by decide +kernel
theorem ck_X12_thing : ckM 209 = true := (all_split 3 ck_X12_thing_0 ck_X12_thing_1)
theorem ck_X12_tell : ckM 210 = true := by decide +kernel
theorem ck_X12_against : ckM 211 = true := by decide +kernel
