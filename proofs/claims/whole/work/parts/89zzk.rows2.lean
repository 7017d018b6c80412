/-! ranges of cells, once more -/
theorem cK_01 {k : Nat} {x : Int} (h : x = 0 ∨ x = 1) : cK k x := by
  unfold cK c32 c64
  split <;> omega
theorem ch_2_c {V : XM} (h : cV V) : cV (ch_2 V) := by
  unfold ch_2
  repeat (first | exact h | (refine xz_c ?_ (by decide)) | (refine xu_c ?_ (cK_01 (by omega))))
theorem ch_4_c {V : XM} (h : cV V) : cV (ch_4 V) := by
  unfold ch_4
  repeat (first | exact h | (refine xz_c ?_ (by decide)) | (refine xu_c ?_ (cK_01 (by omega))))
theorem ch_11_c {V : XM} (h : cV V) : cV (ch_11 V) := by
  unfold ch_11
  repeat (first | exact h | (refine xz_c ?_ (by decide)) | (refine xu_c ?_ (cK_01 (by omega))))
theorem ch_19_c {V : XM} (h : cV V) : cV (ch_19 V) := by
  unfold ch_19
  repeat (first | exact h | (refine xz_c ?_ (by decide)) | (refine xu_c ?_ (cK_01 (by omega))))
theorem ch_24_c {V : XM} (h : cV V) : cV (ch_24 V) := by
  unfold ch_24
  repeat (first | exact h | (refine xz_c ?_ (by decide)) | (refine xu_c ?_ (cK_01 (by omega))))
theorem ch_38_c {V : XM} (h : cV V) : cV (ch_38 V) := by
  unfold ch_38
  repeat (first | exact h | (refine xz_c ?_ (by decide)) | (refine xu_c ?_ (cK_01 (by omega))))
theorem ch_40_c {V : XM} (h : cV V) : cV (ch_40 V) := by
  unfold ch_40
  repeat (first | exact h | (refine xz_c ?_ (by decide)) | (refine xu_c ?_ (cK_01 (by omega))))
theorem ch_44_c {V : XM} (h : cV V) : cV (ch_44 V) := by
  unfold ch_44
  repeat (first | exact h | (refine xz_c ?_ (by decide)) | (refine xu_c ?_ (cK_01 (by omega))))
theorem ch_48_c {V : XM} (h : cV V) : cV (ch_48 V) := by
  unfold ch_48
  repeat (first | exact h | (refine xz_c ?_ (by decide)) | (refine xu_c ?_ (cK_01 (by omega))))
theorem ch_55_c {V : XM} (h : cV V) : cV (ch_55 V) := by
  unfold ch_55
  repeat (first | exact h | (refine xz_c ?_ (by decide)) | (refine xu_c ?_ (cK_01 (by omega))))
theorem ch_57_c {V : XM} (h : cV V) : cV (ch_57 V) := by
  unfold ch_57
  repeat (first | exact h | (refine xz_c ?_ (by decide)) | (refine xu_c ?_ (cK_01 (by omega))))
theorem ch_59_c {V : XM} (h : cV V) : cV (ch_59 V) := by
  unfold ch_59
  repeat (first | exact h | (refine xz_c ?_ (by decide)) | (refine xu_c ?_ (cK_01 (by omega))))
theorem ch_61_c {V : XM} (h : cV V) : cV (ch_61 V) := by
  unfold ch_61
  repeat (first | exact h | (refine xz_c ?_ (by decide)) | (refine xu_c ?_ (cK_01 (by omega))))
theorem ch_63_c {V : XM} (h : cV V) : cV (ch_63 V) := by
  unfold ch_63
  repeat (first | exact h | (refine xz_c ?_ (by decide)) | (refine xu_c ?_ (cK_01 (by omega))))
theorem ch_65_c {V : XM} (h : cV V) : cV (ch_65 V) := by
  unfold ch_65
  repeat (first | exact h | (refine xz_c ?_ (by decide)) | (refine xu_c ?_ (cK_01 (by omega))))
theorem ch_67_c {V : XM} (h : cV V) : cV (ch_67 V) := by
  unfold ch_67
  repeat (first | exact h | (refine xz_c ?_ (by decide)) | (refine xu_c ?_ (cK_01 (by omega))))
theorem ch_69_c {V : XM} (h : cV V) : cV (ch_69 V) := by
  unfold ch_69
  repeat (first | exact h | (refine xz_c ?_ (by decide)) | (refine xu_c ?_ (cK_01 (by omega))))
theorem ch_71_c {V : XM} (h : cV V) : cV (ch_71 V) := by
  unfold ch_71
  repeat (first | exact h | (refine xz_c ?_ (by decide)) | (refine xu_c ?_ (cK_01 (by omega))))
theorem ch_73_c {V : XM} (h : cV V) : cV (ch_73 V) := by
  unfold ch_73
  repeat (first | exact h | (refine xz_c ?_ (by decide)) | (refine xu_c ?_ (cK_01 (by omega))))
theorem ch_76_c {V : XM} (h : cV V) : cV (ch_76 V) := by
  unfold ch_76
  repeat (first | exact h | (refine xz_c ?_ (by decide)) | (refine xu_c ?_ (cK_01 (by omega))))
theorem ch_81_c {V : XM} (h : cV V) : cV (ch_81 V) := by
  unfold ch_81
  repeat (first | exact h | (refine xz_c ?_ (by decide)) | (refine xu_c ?_ (cK_01 (by omega))))
theorem ch_86_c {V : XM} (h : cV V) : cV (ch_86 V) := by
  unfold ch_86
  repeat (first | exact h | (refine xz_c ?_ (by decide)) | (refine xu_c ?_ (cK_01 (by omega))))
theorem ch_91_c {V : XM} (h : cV V) : cV (ch_91 V) := by
  unfold ch_91
  repeat (first | exact h | (refine xz_c ?_ (by decide)) | (refine xu_c ?_ (cK_01 (by omega))))
theorem ch_96_c {V : XM} (h : cV V) : cV (ch_96 V) := by
  unfold ch_96
  repeat (first | exact h | (refine xz_c ?_ (by decide)) | (refine xu_c ?_ (cK_01 (by omega))))
theorem ch_101_c {V : XM} (h : cV V) : cV (ch_101 V) := by
  unfold ch_101
  repeat (first | exact h | (refine xz_c ?_ (by decide)) | (refine xu_c ?_ (cK_01 (by omega))))
theorem ch_108_c {V : XM} (h : cV V) : cV (ch_108 V) := by
  unfold ch_108
  repeat (first | exact h | (refine xz_c ?_ (by decide)) | (refine xu_c ?_ (cK_01 (by omega))))
theorem B_1_c {V : XM} (h : cV V) : cV (B_1 V) := by
  unfold B_1
  repeat (first | exact h | (refine xz_c ?_ (by decide)) | (refine xu_c ?_ (cK_01 (by omega))) | (refine ch_2_c ?_) | (refine B_1_c ?_))
theorem B_2_c {V : XM} (h : cV V) : cV (B_2 V) := by
  unfold B_2
  repeat (first | exact h | (refine xz_c ?_ (by decide)) | (refine xu_c ?_ (cK_01 (by omega))) | (refine ch_4_c ?_) | (refine B_1_c ?_) | (refine B_2_c ?_))
theorem B_3_c {V : XM} (h : cV V) : cV (B_3 V) := by
  unfold B_3
  repeat (first | exact h | (refine xz_c ?_ (by decide)) | (refine xu_c ?_ (cK_01 (by omega))) | (refine ch_11_c ?_) | (refine B_2_c ?_) | (refine B_3_c ?_))
theorem B_4_c {V : XM} (h : cV V) : cV (B_4 V) := by
  unfold B_4
  repeat (first | exact h | (refine xz_c ?_ (by decide)) | (refine xu_c ?_ (cK_01 (by omega))) | (refine ch_19_c ?_) | (refine B_3_c ?_) | (refine B_4_c ?_))
theorem B_5_c {V : XM} (h : cV V) : cV (B_5 V) := by
  unfold B_5
  repeat (first | exact h | (refine xz_c ?_ (by decide)) | (refine xu_c ?_ (cK_01 (by omega))) | (refine ch_24_c ?_) | (refine B_4_c ?_) | (refine B_5_c ?_))
theorem B_6_c {V : XM} (h : cV V) : cV (B_6 V) := by
  unfold B_6
  repeat (first | exact h | (refine xz_c ?_ (by decide)) | (refine xu_c ?_ (cK_01 (by omega))) | (refine ch_38_c ?_) | (refine B_5_c ?_) | (refine B_6_c ?_))
theorem B_7_c {V : XM} (h : cV V) : cV (B_7 V) := by
  unfold B_7
  repeat (first | exact h | (refine xz_c ?_ (by decide)) | (refine xu_c ?_ (cK_01 (by omega))) | (refine ch_40_c ?_) | (refine B_6_c ?_) | (refine B_7_c ?_))
theorem B_8_c {V : XM} (h : cV V) : cV (B_8 V) := by
  unfold B_8
  repeat (first | exact h | (refine xz_c ?_ (by decide)) | (refine xu_c ?_ (cK_01 (by omega))) | (refine ch_44_c ?_) | (refine B_7_c ?_) | (refine B_8_c ?_))
theorem B_9_c {V : XM} (h : cV V) : cV (B_9 V) := by
  unfold B_9
  repeat (first | exact h | (refine xz_c ?_ (by decide)) | (refine xu_c ?_ (cK_01 (by omega))) | (refine ch_48_c ?_) | (refine B_8_c ?_) | (refine B_9_c ?_))
theorem B_10_c {V : XM} (h : cV V) : cV (B_10 V) := by
  unfold B_10
  repeat (first | exact h | (refine xz_c ?_ (by decide)) | (refine xu_c ?_ (cK_01 (by omega))) | (refine B_9_c ?_) | (refine B_10_c ?_))
theorem SH_0_c {V : XM} (h : cV V) : cV (SH_0 V) := by
  unfold SH_0
  repeat (first | exact h | (refine xz_c ?_ (by decide)) | (refine xu_c ?_ (cK_01 (by omega))) | (refine ch_55_c ?_))
theorem SH_1_c {V : XM} (h : cV V) : cV (SH_1 V) := by
  unfold SH_1
  repeat (first | exact h | (refine xz_c ?_ (by decide)) | (refine xu_c ?_ (cK_01 (by omega))) | (refine ch_57_c ?_))
theorem SH_2_c {V : XM} (h : cV V) : cV (SH_2 V) := by
  unfold SH_2
  repeat (first | exact h | (refine xz_c ?_ (by decide)) | (refine xu_c ?_ (cK_01 (by omega))) | (refine ch_59_c ?_))
theorem SH_3_c {V : XM} (h : cV V) : cV (SH_3 V) := by
  unfold SH_3
  repeat (first | exact h | (refine xz_c ?_ (by decide)) | (refine xu_c ?_ (cK_01 (by omega))) | (refine ch_61_c ?_))
theorem SH_4_c {V : XM} (h : cV V) : cV (SH_4 V) := by
  unfold SH_4
  repeat (first | exact h | (refine xz_c ?_ (by decide)) | (refine xu_c ?_ (cK_01 (by omega))) | (refine ch_63_c ?_))
theorem SH_5_c {V : XM} (h : cV V) : cV (SH_5 V) := by
  unfold SH_5
  repeat (first | exact h | (refine xz_c ?_ (by decide)) | (refine xu_c ?_ (cK_01 (by omega))) | (refine ch_65_c ?_))
theorem SH_6_c {V : XM} (h : cV V) : cV (SH_6 V) := by
  unfold SH_6
  repeat (first | exact h | (refine xz_c ?_ (by decide)) | (refine xu_c ?_ (cK_01 (by omega))) | (refine ch_67_c ?_))
theorem SH_7_c {V : XM} (h : cV V) : cV (SH_7 V) := by
  unfold SH_7
  repeat (first | exact h | (refine xz_c ?_ (by decide)) | (refine xu_c ?_ (cK_01 (by omega))) | (refine ch_69_c ?_))
theorem SH_8_c {V : XM} (h : cV V) : cV (SH_8 V) := by
  unfold SH_8
  repeat (first | exact h | (refine xz_c ?_ (by decide)) | (refine xu_c ?_ (cK_01 (by omega))) | (refine ch_71_c ?_))
theorem SH_9_c {V : XM} (h : cV V) : cV (SH_9 V) := by
  unfold SH_9
  repeat (first | exact h | (refine xz_c ?_ (by decide)) | (refine xu_c ?_ (cK_01 (by omega))) | (refine ch_73_c ?_))
theorem TA_a_c {V : XM} (h : cV V) : cV (TA_a V) := by
  unfold TA_a
  repeat (first | exact h | (refine xz_c ?_ (by decide)) | (refine xu_c ?_ (cK_01 (by omega))))
theorem TB_0_c {V : XM} (h : cV V) : cV (TB_0 V) := by
  unfold TB_0
  repeat (first | exact h | (refine xz_c ?_ (by decide)) | (refine xu_c ?_ (cK_01 (by omega))) | (refine ch_76_c ?_))
theorem TB_1_c {V : XM} (h : cV V) : cV (TB_1 V) := by
  unfold TB_1
  repeat (first | exact h | (refine xz_c ?_ (by decide)) | (refine xu_c ?_ (cK_01 (by omega))) | (refine ch_81_c ?_))
theorem TB_2_c {V : XM} (h : cV V) : cV (TB_2 V) := by
  unfold TB_2
  repeat (first | exact h | (refine xz_c ?_ (by decide)) | (refine xu_c ?_ (cK_01 (by omega))) | (refine ch_86_c ?_))
theorem TB_3_c {V : XM} (h : cV V) : cV (TB_3 V) := by
  unfold TB_3
  repeat (first | exact h | (refine xz_c ?_ (by decide)) | (refine xu_c ?_ (cK_01 (by omega))) | (refine ch_91_c ?_))
theorem TB_4_c {V : XM} (h : cV V) : cV (TB_4 V) := by
  unfold TB_4
  repeat (first | exact h | (refine xz_c ?_ (by decide)) | (refine xu_c ?_ (cK_01 (by omega))) | (refine ch_96_c ?_))
theorem TB_5_c {V : XM} (h : cV V) : cV (TB_5 V) := by
  unfold TB_5
  repeat (first | exact h | (refine xz_c ?_ (by decide)) | (refine xu_c ?_ (cK_01 (by omega))) | (refine ch_101_c ?_))
theorem TW_z_c {V : XM} (h : cV V) : cV (TW_z V) := by
  unfold TW_z
  repeat (first | exact h | (refine xz_c ?_ (by decide)) | (refine xu_c ?_ (cK_01 (by omega))))
