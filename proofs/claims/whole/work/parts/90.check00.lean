/-! each entry checked -/
theorem all_split {α : Type} {l : List α} {f : α → Bool} (n : Nat) (h1 : (l.take n).all f = true) (h2 : (l.drop n).all f = true) : l.all f = true := by
  rw [← List.take_append_drop n l, List.all_append, h1, h2]
  rfl
theorem ck_X0_init : ckM 0 = true := by decide +kernel
theorem ck_X0_begin : ckM 1 = true := by decide +kernel
theorem ck_X0_add : ckM 2 = true := by decide +kernel
theorem ck_X0_has : ckM 3 = true := by decide +kernel
theorem ck_X0_fits : ckM 4 = true := by decide +kernel
theorem ck_X0_baseOf : ckM 5 = true := by decide +kernel
set_option maxRecDepth 20000 in
theorem ck_X1_init_0 : ((XP 6).all (ckB 6)) = true := by decide +kernel
theorem ck_X1_init : ckM 6 = true := ck_X1_init_0
theorem ck_X1_begin : ckM 7 = true := by decide +kernel
theorem ck_X1_homeAt : ckM 8 = true := by decide +kernel
theorem ck_X1_isLaid : ckM 9 = true := by decide +kernel
theorem ck_X1_liesIn : ckM 10 = true := by decide +kernel
theorem ck_X1_hasAllHomes : ckM 11 = true := by decide +kernel
theorem ck_X1_isWithin : ckM 12 = true := by decide +kernel
theorem ck_X1_lay : ckM 13 = true := by decide +kernel
theorem ck_X1_lift : ckM 14 = true := by decide +kernel
set_option maxRecDepth 20000 in
theorem ck_X1_againstPut_0 : (((XP 15).take 2).all (ckB 15)) = true := by decide +kernel
set_option maxRecDepth 20000 in
theorem ck_X1_againstPut_1 : (((XP 15).drop 2).all (ckB 15)) = true := by decide +kernel
theorem ck_X1_againstPut : ckM 15 = true := (all_split 2 ck_X1_againstPut_0 ck_X1_againstPut_1)
theorem ck_X1_isCrowded : ckM 16 = true := by decide +kernel
theorem ck_X1_againstPairs : ckM 17 = true := by decide +kernel
theorem ck_X1_partner : ckM 18 = true := by decide +kernel
theorem ck_X1_againstBar : ckM 19 = true := by decide +kernel
theorem ck_X1_shut : ckM 20 = true := by decide +kernel
set_option maxRecDepth 20000 in
theorem ck_X1_againstAmong_0 : (((XP 21).take 2).all (ckB 21)) = true := by decide +kernel
set_option maxRecDepth 20000 in
theorem ck_X1_againstAmong_1 : (((XP 21).drop 2).all (ckB 21)) = true := by decide +kernel
theorem ck_X1_againstAmong : ckM 21 = true := (all_split 2 ck_X1_againstAmong_0 ck_X1_againstAmong_1)
theorem ck_X1_earliestBarInto : ckM 22 = true := by decide +kernel
theorem ck_X1_narrow : ckM 23 = true := by decide +kernel
theorem ck_X1_setOf : ckM 24 = true := by decide +kernel
theorem ck_X1_isUnsettled : ckM 25 = true := by decide +kernel
theorem ck_X1_unsettled : ckM 26 = true := by decide +kernel
set_option maxRecDepth 20000 in
theorem ck_X1_againstPairing_0 : (((XP 27).take 5).all (ckB 27)) = true := by decide +kernel
set_option maxRecDepth 20000 in
theorem ck_X1_againstPairing_1 : (((XP 27).drop 5).all (ckB 27)) = true := by decide +kernel
theorem ck_X1_againstPairing : ckM 27 = true := (all_split 5 ck_X1_againstPairing_0 ck_X1_againstPairing_1)
theorem ck_X1_addPair : ckM 28 = true := by decide +kernel
theorem ck_X1_hasMost : ckM 29 = true := by decide +kernel
theorem ck_X1_tellMost : ckM 30 = true := by decide +kernel
theorem ck_X1_putBehind : ckM 31 = true := by decide +kernel
theorem ck_X1_bulk : ckM 32 = true := by decide +kernel
theorem ck_X1_bulkAlone : ckM 33 = true := by decide +kernel
theorem ck_X1_load : ckM 34 = true := by decide +kernel
theorem ck_X2_init : ckM 35 = true := by decide +kernel
theorem ck_X2_add : ckM 36 = true := by decide +kernel
theorem ck_X2_has : ckM 37 = true := by decide +kernel
theorem ck_X2_rowOf : ckM 38 = true := by decide +kernel
theorem ck_X2_holds : ckM 39 = true := by decide +kernel
set_option maxRecDepth 20000 in
theorem ck_X2_join_0 : (((XP 40).take 2).all (ckB 40)) = true := by decide +kernel
set_option maxRecDepth 20000 in
theorem ck_X2_join_1 : (((XP 40).drop 2).all (ckB 40)) = true := by decide +kernel
theorem ck_X2_join : ckM 40 = true := (all_split 2 ck_X2_join_0 ck_X2_join_1)
theorem ck_X2_merge : ckM 41 = true := by decide +kernel
theorem ck_X2_againstRelate : ckM 42 = true := by decide +kernel
set_option maxRecDepth 20000 in
theorem ck_X2_earliestDeny_0 : (((XP 43).take 5).all (ckB 43)) = true := by decide +kernel
set_option maxRecDepth 20000 in
theorem ck_X2_earliestDeny_1 : ((((XP 43).drop 5).take 1).all (ckB 43)) = true := by decide +kernel
set_option maxRecDepth 20000 in
theorem ck_X2_earliestDeny_2 : ((((XP 43).drop 5).drop 1).all (ckB 43)) = true := by decide +kernel
theorem ck_X2_earliestDeny : ckM 43 = true := (all_split 5 ck_X2_earliestDeny_0 (all_split 1 ck_X2_earliestDeny_1 ck_X2_earliestDeny_2))
set_option maxRecDepth 20000 in
theorem ck_X2_earliestRelate_0 : (((XP 44).take 5).all (ckB 44)) = true := by decide +kernel
set_option maxRecDepth 20000 in
theorem ck_X2_earliestRelate_1 : (((XP 44).drop 5).all (ckB 44)) = true := by decide +kernel
