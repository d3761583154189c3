abbrev mL_cell : zM := (yL_cell, cL_cell, 2, (some .int), [])
theorem okL_cell : zMok mL_cell 2 := ⟨by decide, by decide, by decide +kernel⟩
theorem dL_cell_0 : decode cL_cell 0 = .ok (.aload_n 0, 1) := by decide +kernel
theorem dL_cell_1 : decode cL_cell 1 = .ok (.arraylength, 1) := by decide +kernel
theorem dL_cell_2 : decode cL_cell 2 = .ok (.ifCond .ne 7, 3) := by decide +kernel
theorem dL_cell_9 : decode cL_cell 9 = .ok (.aload_n 0, 1) := by decide +kernel
theorem dL_cell_10 : decode cL_cell 10 = .ok (.iload_n 1, 1) := by decide +kernel
theorem dL_cell_11 : decode cL_cell 11 = .ok (.aload_n 0, 1) := by decide +kernel
theorem dL_cell_12 : decode cL_cell 12 = .ok (.arraylength, 1) := by decide +kernel
theorem dL_cell_13 : decode cL_cell 13 = .ok (.irem, 1) := by decide +kernel
theorem dL_cell_14 : decode cL_cell 14 = .ok (.iaload, 1) := by decide +kernel
theorem dL_cell_15 : decode cL_cell 15 = .ok (.ldc 7, 2) := by decide +kernel
theorem ic_RL_7 : Cond.constant RL 7 (Int32.ofInt 100000) ∈ zgood := zmem1 675 (by decide +kernel) rfl
theorem dL_cell_17 : decode cL_cell 17 = .ok (.irem, 1) := by decide +kernel
theorem dL_cell_18 : decode cL_cell 18 = .ok (.invokestatic 8, 3) := by decide +kernel
theorem mw_RL_8 : ∀ x ∈ ([.methodLink RL 8 Lib.Math.abs.name, .static Lib.Math.abs.name, .initialized "java/lang/Math", .code Lib.Math.abs.name Lib.Math.abs.code 1 (some .int)] : List Cond), x ∈ zgood := zall [676, 677, 19, 678] (by decide +kernel) (by decide +kernel)
theorem dL_cell_21 : decode cL_cell 21 = .ok (.ireturn, 1) := by decide +kernel
theorem dL_cell_5 : decode cL_cell 5 = .ok (.iconst 0, 1) := by decide +kernel
theorem dL_cell_6 : decode cL_cell 6 = .ok (.goto 15, 3) := by decide +kernel
abbrev mL_score : zM := (yL_score, cL_score, 5, (some .int), [])
theorem okL_score : zMok mL_score 3 := ⟨by decide, by decide, by decide +kernel⟩
theorem dL_score_0 : decode cL_score 0 = .ok (.iconst 0, 1) := by decide +kernel
theorem dL_score_1 : decode cL_score 1 = .ok (.istore_n 3, 1) := by decide +kernel
theorem dL_score_2 : decode cL_score 2 = .ok (.iconst 0, 1) := by decide +kernel
theorem dL_score_3 : decode cL_score 3 = .ok (.istore 4, 2) := by decide +kernel
theorem dL_score_5 : decode cL_score 5 = .ok (.iload 4, 2) := by decide +kernel
theorem dL_score_7 : decode cL_score 7 = .ok (.aload_n 0, 1) := by decide +kernel
theorem dL_score_8 : decode cL_score 8 = .ok (.invokevirtual 98, 3) := by decide +kernel
theorem cw_RL_98 : zCwV RL 98 mX9_clueCount := zall [589, 590, 591, 31, 592] (by decide +kernel) (by decide +kernel)
theorem dL_score_11 : decode cL_score 11 = .ok (.if_icmp .ge 51, 3) := by decide +kernel
theorem dL_score_62 : decode cL_score 62 = .ok (.iload_n 3, 1) := by decide +kernel
theorem dL_score_63 : decode cL_score 63 = .ok (.ireturn, 1) := by decide +kernel
theorem dL_score_14 : decode cL_score 14 = .ok (.iload_n 3, 1) := by decide +kernel
theorem dL_score_15 : decode cL_score 15 = .ok (.aload_n 0, 1) := by decide +kernel
theorem dL_score_16 : decode cL_score 16 = .ok (.iload 4, 2) := by decide +kernel
theorem dL_score_18 : decode cL_score 18 = .ok (.invokevirtual 122, 3) := by decide +kernel
theorem cw_RL_122 : zCwV RL 122 mX9_isRead := zall [1030, 1031, 1032, 31, 1033] (by decide +kernel) (by decide +kernel)
theorem dL_score_21 : decode cL_score 21 = .ok (.ifCond .eq 32, 3) := by decide +kernel
theorem dL_score_53 : decode cL_score 53 = .ok (.iconst 0, 1) := by decide +kernel
theorem dL_score_54 : decode cL_score 54 = .ok (.iadd, 1) := by decide +kernel
theorem dL_score_55 : decode cL_score 55 = .ok (.istore_n 3, 1) := by decide +kernel
theorem dL_score_56 : decode cL_score 56 = .ok (.iinc 4 1, 3) := by decide +kernel
theorem dL_score_59 : decode cL_score 59 = .ok (.goto (-54), 3) := by decide +kernel
theorem dL_score_24 : decode cL_score 24 = .ok (.aload_n 0, 1) := by decide +kernel
theorem dL_score_25 : decode cL_score 25 = .ok (.iload 4, 2) := by decide +kernel
theorem dL_score_27 : decode cL_score 27 = .ok (.invokevirtual 128, 3) := by decide +kernel
theorem cw_RL_128 : zCwV RL 128 mX9_isAside := zall [1035, 1036, 1037, 31, 1038] (by decide +kernel) (by decide +kernel)
theorem dL_score_30 : decode cL_score 30 = .ok (.ifCond .ne 23, 3) := by decide +kernel
theorem dL_score_33 : decode cL_score 33 = .ok (.aload_n 0, 1) := by decide +kernel
theorem dL_score_34 : decode cL_score 34 = .ok (.iload_n 1, 1) := by decide +kernel
theorem dL_score_35 : decode cL_score 35 = .ok (.iload_n 2, 1) := by decide +kernel
theorem dL_score_36 : decode cL_score 36 = .ok (.iload 4, 2) := by decide +kernel
theorem dL_score_38 : decode cL_score 38 = .ok (.invokevirtual 140, 3) := by decide +kernel
theorem cw_RL_140 : zCwV RL 140 mX9_explains := zall [1085, 1086, 1087, 31, 1088] (by decide +kernel) (by decide +kernel)
theorem dL_score_41 : decode cL_score 41 = .ok (.ifCond .eq 12, 3) := by decide +kernel
theorem dL_score_44 : decode cL_score 44 = .ok (.aload_n 0, 1) := by decide +kernel
theorem dL_score_45 : decode cL_score 45 = .ok (.iload 4, 2) := by decide +kernel
theorem dL_score_47 : decode cL_score 47 = .ok (.invokevirtual 119, 3) := by decide +kernel
theorem cw_RL_119 : zCwV RL 119 mX9_weightOf := zall [1026, 1027, 1028, 31, 1029] (by decide +kernel) (by decide +kernel)
theorem dL_score_50 : decode cL_score 50 = .ok (.goto 4, 3) := by decide +kernel
abbrev mL_sum : zM := (yL_sum, cL_sum, 5, (some .long), [])
theorem okL_sum : zMok mL_sum 1 := ⟨by decide, by decide, by decide +kernel⟩
theorem dL_sum_0 : decode cL_sum 0 = .ok (.ldc2_w 96, 3) := by decide +kernel
theorem lk_RL_96 : Cond.constantLong RL 96 (Int64.ofInt 31) ∈ zgood := zmem1 1002 (by decide +kernel) rfl
theorem dL_sum_3 : decode cL_sum 3 = .ok (.aload_n 0, 1) := by decide +kernel
theorem dL_sum_4 : decode cL_sum 4 = .ok (.invokevirtual 98, 3) := by decide +kernel
theorem dL_sum_7 : decode cL_sum 7 = .ok (.i2l, 1) := by decide +kernel
theorem dL_sum_8 : decode cL_sum 8 = .ok (.lmul, 1) := by decide +kernel
theorem dL_sum_9 : decode cL_sum 9 = .ok (.aload_n 0, 1) := by decide +kernel
theorem dL_sum_10 : decode cL_sum 10 = .ok (.invokevirtual 101, 3) := by decide +kernel
theorem cw_RL_101 : zCwV RL 101 mX9_countingWeight := zall [1003, 1004, 1005, 31, 1006] (by decide +kernel) (by decide +kernel)
theorem dL_sum_13 : decode cL_sum 13 = .ok (.i2l, 1) := by decide +kernel
theorem dL_sum_14 : decode cL_sum 14 = .ok (.ladd, 1) := by decide +kernel
theorem dL_sum_15 : decode cL_sum 15 = .ok (.lstore_n 1, 1) := by decide +kernel
theorem dL_sum_16 : decode cL_sum 16 = .ok (.iconst 0, 1) := by decide +kernel
theorem dL_sum_17 : decode cL_sum 17 = .ok (.istore_n 3, 1) := by decide +kernel
theorem dL_sum_18 : decode cL_sum 18 = .ok (.iload_n 3, 1) := by decide +kernel
theorem dL_sum_19 : decode cL_sum 19 = .ok (.aload_n 0, 1) := by decide +kernel
theorem dL_sum_20 : decode cL_sum 20 = .ok (.invokevirtual 98, 3) := by decide +kernel
theorem dL_sum_23 : decode cL_sum 23 = .ok (.if_icmp .ge 87, 3) := by decide +kernel
theorem dL_sum_110 : decode cL_sum 110 = .ok (.iconst 0, 1) := by decide +kernel
theorem dL_sum_111 : decode cL_sum 111 = .ok (.istore_n 3, 1) := by decide +kernel
theorem dL_sum_112 : decode cL_sum 112 = .ok (.iload_n 3, 1) := by decide +kernel
theorem dL_sum_113 : decode cL_sum 113 = .ok (.aload_n 0, 1) := by decide +kernel
theorem dL_sum_114 : decode cL_sum 114 = .ok (.invokevirtual 133, 3) := by decide +kernel
theorem cw_RL_133 : zCwV RL 133 mX9_printerCount := zall [1040, 1041, 1042, 31, 1043] (by decide +kernel) (by decide +kernel)
theorem dL_sum_117 : decode cL_sum 117 = .ok (.if_icmp .ge 48, 3) := by decide +kernel
theorem dL_sum_165 : decode cL_sum 165 = .ok (.lload_n 1, 1) := by decide +kernel
theorem dL_sum_166 : decode cL_sum 166 = .ok (.lreturn, 1) := by decide +kernel
theorem dL_sum_120 : decode cL_sum 120 = .ok (.iconst 0, 1) := by decide +kernel
theorem dL_sum_121 : decode cL_sum 121 = .ok (.istore 4, 2) := by decide +kernel
theorem dL_sum_123 : decode cL_sum 123 = .ok (.iload 4, 2) := by decide +kernel
theorem dL_sum_125 : decode cL_sum 125 = .ok (.bipush 8, 2) := by decide +kernel
theorem dL_sum_127 : decode cL_sum 127 = .ok (.if_icmp .ge 32, 3) := by decide +kernel
theorem dL_sum_159 : decode cL_sum 159 = .ok (.iinc 3 1, 3) := by decide +kernel
theorem dL_sum_162 : decode cL_sum 162 = .ok (.goto (-50), 3) := by decide +kernel
theorem dL_sum_130 : decode cL_sum 130 = .ok (.ldc2_w 96, 3) := by decide +kernel
theorem dL_sum_133 : decode cL_sum 133 = .ok (.lload_n 1, 1) := by decide +kernel
theorem dL_sum_134 : decode cL_sum 134 = .ok (.lmul, 1) := by decide +kernel
theorem dL_sum_135 : decode cL_sum 135 = .ok (.aload_n 0, 1) := by decide +kernel
theorem dL_sum_136 : decode cL_sum 136 = .ok (.iload_n 3, 1) := by decide +kernel
theorem dL_sum_137 : decode cL_sum 137 = .ok (.iload 4, 2) := by decide +kernel
theorem dL_sum_139 : decode cL_sum 139 = .ok (.invokevirtual 136, 3) := by decide +kernel
theorem cw_RL_136 : zCwV RL 136 mX9_hasDevice := zall [1044, 1045, 1046, 31, 1047] (by decide +kernel) (by decide +kernel)
theorem dL_sum_142 : decode cL_sum 142 = .ok (.ifCond .eq 7, 3) := by decide +kernel
theorem dL_sum_149 : decode cL_sum 149 = .ok (.iconst 0, 1) := by decide +kernel
theorem dL_sum_150 : decode cL_sum 150 = .ok (.i2l, 1) := by decide +kernel
theorem dL_sum_151 : decode cL_sum 151 = .ok (.ladd, 1) := by decide +kernel
theorem dL_sum_152 : decode cL_sum 152 = .ok (.lstore_n 1, 1) := by decide +kernel
theorem dL_sum_153 : decode cL_sum 153 = .ok (.iinc 4 1, 3) := by decide +kernel
theorem dL_sum_156 : decode cL_sum 156 = .ok (.goto (-33), 3) := by decide +kernel
theorem dL_sum_145 : decode cL_sum 145 = .ok (.iconst 1, 1) := by decide +kernel
theorem dL_sum_146 : decode cL_sum 146 = .ok (.goto 4, 3) := by decide +kernel
theorem dL_sum_26 : decode cL_sum 26 = .ok (.ldc2_w 96, 3) := by decide +kernel
theorem dL_sum_29 : decode cL_sum 29 = .ok (.lload_n 1, 1) := by decide +kernel
theorem dL_sum_30 : decode cL_sum 30 = .ok (.lmul, 1) := by decide +kernel
theorem dL_sum_31 : decode cL_sum 31 = .ok (.aload_n 0, 1) := by decide +kernel
theorem dL_sum_32 : decode cL_sum 32 = .ok (.iload_n 3, 1) := by decide +kernel
theorem dL_sum_33 : decode cL_sum 33 = .ok (.invokevirtual 104, 3) := by decide +kernel
theorem cw_RL_104 : zCwV RL 104 mX9_pageOf := zall [1011, 1012, 1013, 31, 1014] (by decide +kernel) (by decide +kernel)
theorem dL_sum_36 : decode cL_sum 36 = .ok (.i2l, 1) := by decide +kernel
theorem dL_sum_37 : decode cL_sum 37 = .ok (.ladd, 1) := by decide +kernel
theorem dL_sum_38 : decode cL_sum 38 = .ok (.ldc2_w 107, 3) := by decide +kernel
theorem lk_RL_107 : Cond.constantLong RL 107 (Int64.ofInt 7) ∈ zgood := zmem1 1015 (by decide +kernel) rfl
theorem dL_sum_41 : decode cL_sum 41 = .ok (.aload_n 0, 1) := by decide +kernel
theorem dL_sum_42 : decode cL_sum 42 = .ok (.iload_n 3, 1) := by decide +kernel
theorem dL_sum_43 : decode cL_sum 43 = .ok (.invokevirtual 109, 3) := by decide +kernel
theorem cw_RL_109 : zCwV RL 109 mX9_kindOf := zall [1016, 1017, 1018, 31, 1019] (by decide +kernel) (by decide +kernel)
theorem dL_sum_46 : decode cL_sum 46 = .ok (.i2l, 1) := by decide +kernel
theorem dL_sum_47 : decode cL_sum 47 = .ok (.lmul, 1) := by decide +kernel
theorem dL_sum_48 : decode cL_sum 48 = .ok (.ladd, 1) := by decide +kernel
theorem dL_sum_49 : decode cL_sum 49 = .ok (.ldc2_w 112, 3) := by decide +kernel
theorem lk_RL_112 : Cond.constantLong RL 112 (Int64.ofInt 11) ∈ zgood := zmem1 1020 (by decide +kernel) rfl
theorem dL_sum_52 : decode cL_sum 52 = .ok (.aload_n 0, 1) := by decide +kernel
theorem dL_sum_53 : decode cL_sum 53 = .ok (.iload_n 3, 1) := by decide +kernel
theorem dL_sum_54 : decode cL_sum 54 = .ok (.invokevirtual 114, 3) := by decide +kernel
theorem cw_RL_114 : zCwV RL 114 mX9_valueOf := zall [1021, 1022, 1023, 31, 1024] (by decide +kernel) (by decide +kernel)
theorem dL_sum_57 : decode cL_sum 57 = .ok (.i2l, 1) := by decide +kernel
theorem dL_sum_58 : decode cL_sum 58 = .ok (.lmul, 1) := by decide +kernel
theorem dL_sum_59 : decode cL_sum 59 = .ok (.ladd, 1) := by decide +kernel
theorem dL_sum_60 : decode cL_sum 60 = .ok (.ldc2_w 117, 3) := by decide +kernel
theorem lk_RL_117 : Cond.constantLong RL 117 (Int64.ofInt 13) ∈ zgood := zmem1 1025 (by decide +kernel) rfl
theorem dL_sum_63 : decode cL_sum 63 = .ok (.aload_n 0, 1) := by decide +kernel
theorem dL_sum_64 : decode cL_sum 64 = .ok (.iload_n 3, 1) := by decide +kernel
theorem dL_sum_65 : decode cL_sum 65 = .ok (.invokevirtual 119, 3) := by decide +kernel
theorem dL_sum_68 : decode cL_sum 68 = .ok (.i2l, 1) := by decide +kernel
theorem dL_sum_69 : decode cL_sum 69 = .ok (.lmul, 1) := by decide +kernel
theorem dL_sum_70 : decode cL_sum 70 = .ok (.ladd, 1) := by decide +kernel
theorem dL_sum_71 : decode cL_sum 71 = .ok (.aload_n 0, 1) := by decide +kernel
theorem dL_sum_72 : decode cL_sum 72 = .ok (.iload_n 3, 1) := by decide +kernel
theorem dL_sum_73 : decode cL_sum 73 = .ok (.invokevirtual 122, 3) := by decide +kernel
theorem dL_sum_76 : decode cL_sum 76 = .ok (.ifCond .eq 9, 3) := by decide +kernel
theorem dL_sum_85 : decode cL_sum 85 = .ok (.lconst 0, 1) := by decide +kernel
theorem dL_sum_86 : decode cL_sum 86 = .ok (.ladd, 1) := by decide +kernel
theorem dL_sum_87 : decode cL_sum 87 = .ok (.aload_n 0, 1) := by decide +kernel
theorem dL_sum_88 : decode cL_sum 88 = .ok (.iload_n 3, 1) := by decide +kernel
theorem dL_sum_89 : decode cL_sum 89 = .ok (.invokevirtual 128, 3) := by decide +kernel
theorem dL_sum_92 : decode cL_sum 92 = .ok (.ifCond .eq 9, 3) := by decide +kernel
theorem dL_sum_101 : decode cL_sum 101 = .ok (.lconst 0, 1) := by decide +kernel
theorem dL_sum_102 : decode cL_sum 102 = .ok (.ladd, 1) := by decide +kernel
theorem dL_sum_103 : decode cL_sum 103 = .ok (.lstore_n 1, 1) := by decide +kernel
theorem dL_sum_104 : decode cL_sum 104 = .ok (.iinc 3 1, 3) := by decide +kernel
theorem dL_sum_107 : decode cL_sum 107 = .ok (.goto (-89), 3) := by decide +kernel
theorem dL_sum_95 : decode cL_sum 95 = .ok (.ldc2_w 131, 3) := by decide +kernel
theorem lk_RL_131 : Cond.constantLong RL 131 (Int64.ofInt 19) ∈ zgood := zmem1 1039 (by decide +kernel) rfl
theorem dL_sum_98 : decode cL_sum 98 = .ok (.goto 4, 3) := by decide +kernel
theorem dL_sum_79 : decode cL_sum 79 = .ok (.ldc2_w 126, 3) := by decide +kernel
theorem lk_RL_126 : Cond.constantLong RL 126 (Int64.ofInt 17) ∈ zgood := zmem1 1034 (by decide +kernel) rfl
theorem dL_sum_82 : decode cL_sum 82 = .ok (.goto 4, 3) := by decide +kernel
abbrev mL_isPrinter : zM := (yL_isPrinter, cL_isPrinter, 8, (some .boolean), [])
theorem okL_isPrinter : zMok mL_isPrinter 3 := ⟨by decide, by decide, by decide +kernel⟩
theorem dL_isPrinter_0 : decode cL_isPrinter 0 = .ok (.aload_n 0, 1) := by decide +kernel
theorem dL_isPrinter_1 : decode cL_isPrinter 1 = .ok (.iload_n 1, 1) := by decide +kernel
theorem dL_isPrinter_2 : decode cL_isPrinter 2 = .ok (.invokevirtual 144, 3) := by decide +kernel
theorem cw_RL_144 : zCwV RL 144 mX9_bestYear := zall [1061, 1062, 1063, 31, 1064] (by decide +kernel) (by decide +kernel)
theorem dL_isPrinter_5 : decode cL_isPrinter 5 = .ok (.istore_n 3, 1) := by decide +kernel
theorem dL_isPrinter_6 : decode cL_isPrinter 6 = .ok (.aload_n 0, 1) := by decide +kernel
theorem dL_isPrinter_7 : decode cL_isPrinter 7 = .ok (.iload_n 1, 1) := by decide +kernel
theorem dL_isPrinter_8 : decode cL_isPrinter 8 = .ok (.invokevirtual 147, 3) := by decide +kernel
theorem cw_RL_147 : zCwV RL 147 mX9_bestScore := zall [1065, 1066, 1067, 31, 1068] (by decide +kernel) (by decide +kernel)
theorem dL_isPrinter_11 : decode cL_isPrinter 11 = .ok (.istore 4, 2) := by decide +kernel
theorem dL_isPrinter_13 : decode cL_isPrinter 13 = .ok (.iconst 0, 1) := by decide +kernel
theorem dL_isPrinter_14 : decode cL_isPrinter 14 = .ok (.istore 5, 2) := by decide +kernel
theorem dL_isPrinter_16 : decode cL_isPrinter 16 = .ok (.aload_n 0, 1) := by decide +kernel
theorem dL_isPrinter_17 : decode cL_isPrinter 17 = .ok (.iload_n 1, 1) := by decide +kernel
theorem dL_isPrinter_18 : decode cL_isPrinter 18 = .ok (.iload_n 3, 1) := by decide +kernel
theorem dL_isPrinter_19 : decode cL_isPrinter 19 = .ok (.invokevirtual 150, 3) := by decide +kernel
theorem cw_RL_150 : zCwV RL 150 mX9_isActive := zall [1069, 1070, 1071, 31, 1072] (by decide +kernel) (by decide +kernel)
theorem dL_isPrinter_22 : decode cL_isPrinter 22 = .ok (.ifCond .eq 14, 3) := by decide +kernel
theorem dL_isPrinter_25 : decode cL_isPrinter 25 = .ok (.aload_n 0, 1) := by decide +kernel
theorem dL_isPrinter_26 : decode cL_isPrinter 26 = .ok (.iload_n 1, 1) := by decide +kernel
theorem dL_isPrinter_27 : decode cL_isPrinter 27 = .ok (.iload_n 3, 1) := by decide +kernel
theorem dL_isPrinter_28 : decode cL_isPrinter 28 = .ok (.invokestatic 153, 3) := by decide +kernel
theorem cw_RL_153 : zCwS RL 153 mL_score := zall [1082, 1083, 18, 1084] (by decide +kernel) (by decide +kernel)
theorem dL_isPrinter_31 : decode cL_isPrinter 31 = .ok (.iload 4, 2) := by decide +kernel
theorem dL_isPrinter_33 : decode cL_isPrinter 33 = .ok (.if_icmp .eq 5, 3) := by decide +kernel
theorem dL_isPrinter_38 : decode cL_isPrinter 38 = .ok (.sipush 1500, 3) := by decide +kernel
theorem dL_isPrinter_41 : decode cL_isPrinter 41 = .ok (.istore 6, 2) := by decide +kernel
theorem dL_isPrinter_43 : decode cL_isPrinter 43 = .ok (.iload 6, 2) := by decide +kernel
theorem dL_isPrinter_45 : decode cL_isPrinter 45 = .ok (.sipush 1550, 3) := by decide +kernel
theorem dL_isPrinter_48 : decode cL_isPrinter 48 = .ok (.if_icmp .ge 107, 3) := by decide +kernel
theorem dL_isPrinter_155 : decode cL_isPrinter 155 = .ok (.iload 5, 2) := by decide +kernel
theorem dL_isPrinter_157 : decode cL_isPrinter 157 = .ok (.aload_n 0, 1) := by decide +kernel
theorem dL_isPrinter_158 : decode cL_isPrinter 158 = .ok (.iload_n 1, 1) := by decide +kernel
theorem dL_isPrinter_159 : decode cL_isPrinter 159 = .ok (.invokevirtual 159, 3) := by decide +kernel
theorem cw_RL_159 : zCwV RL 159 mX9_bestYears := zall [1094, 1095, 1096, 31, 1097] (by decide +kernel) (by decide +kernel)
theorem dL_isPrinter_162 : decode cL_isPrinter 162 = .ok (.if_icmp .ne 7, 3) := by decide +kernel
theorem dL_isPrinter_165 : decode cL_isPrinter 165 = .ok (.iconst 1, 1) := by decide +kernel
theorem dL_isPrinter_166 : decode cL_isPrinter 166 = .ok (.goto 4, 3) := by decide +kernel
theorem dL_isPrinter_170 : decode cL_isPrinter 170 = .ok (.ireturn, 1) := by decide +kernel
theorem dL_isPrinter_51 : decode cL_isPrinter 51 = .ok (.aload_n 0, 1) := by decide +kernel
theorem dL_isPrinter_52 : decode cL_isPrinter 52 = .ok (.iload_n 1, 1) := by decide +kernel
theorem dL_isPrinter_53 : decode cL_isPrinter 53 = .ok (.iload 6, 2) := by decide +kernel
theorem dL_isPrinter_55 : decode cL_isPrinter 55 = .ok (.invokevirtual 150, 3) := by decide +kernel
theorem dL_isPrinter_58 : decode cL_isPrinter 58 = .ok (.ifCond .ne 16, 3) := by decide +kernel
theorem dL_isPrinter_74 : decode cL_isPrinter 74 = .ok (.aload_n 0, 1) := by decide +kernel
theorem dL_isPrinter_75 : decode cL_isPrinter 75 = .ok (.iload_n 1, 1) := by decide +kernel
theorem dL_isPrinter_76 : decode cL_isPrinter 76 = .ok (.iload 6, 2) := by decide +kernel
theorem dL_isPrinter_78 : decode cL_isPrinter 78 = .ok (.invokevirtual 157, 3) := by decide +kernel
theorem cw_RL_157 : zCwV RL 157 mX9_score := zall [1090, 1091, 1092, 31, 1093] (by decide +kernel) (by decide +kernel)
theorem dL_isPrinter_81 : decode cL_isPrinter 81 = .ok (.istore 7, 2) := by decide +kernel
theorem dL_isPrinter_83 : decode cL_isPrinter 83 = .ok (.iload 7, 2) := by decide +kernel
theorem dL_isPrinter_85 : decode cL_isPrinter 85 = .ok (.iload 4, 2) := by decide +kernel
theorem dL_isPrinter_87 : decode cL_isPrinter 87 = .ok (.if_icmp .gt 16, 3) := by decide +kernel
theorem dL_isPrinter_90 : decode cL_isPrinter 90 = .ok (.iload 7, 2) := by decide +kernel
theorem dL_isPrinter_92 : decode cL_isPrinter 92 = .ok (.iload 4, 2) := by decide +kernel
theorem dL_isPrinter_94 : decode cL_isPrinter 94 = .ok (.if_icmp .ne 11, 3) := by decide +kernel
theorem dL_isPrinter_105 : decode cL_isPrinter 105 = .ok (.iload 5, 2) := by decide +kernel
theorem dL_isPrinter_107 : decode cL_isPrinter 107 = .ok (.iload 7, 2) := by decide +kernel
theorem dL_isPrinter_109 : decode cL_isPrinter 109 = .ok (.iload 4, 2) := by decide +kernel
theorem dL_isPrinter_111 : decode cL_isPrinter 111 = .ok (.if_icmp .ne 7, 3) := by decide +kernel
theorem dL_isPrinter_118 : decode cL_isPrinter 118 = .ok (.iconst 0, 1) := by decide +kernel
theorem dL_isPrinter_119 : decode cL_isPrinter 119 = .ok (.iadd, 1) := by decide +kernel
theorem dL_isPrinter_120 : decode cL_isPrinter 120 = .ok (.istore 5, 2) := by decide +kernel
theorem dL_isPrinter_122 : decode cL_isPrinter 122 = .ok (.iload 6, 2) := by decide +kernel
theorem dL_isPrinter_124 : decode cL_isPrinter 124 = .ok (.sipush 1500, 3) := by decide +kernel
theorem dL_isPrinter_127 : decode cL_isPrinter 127 = .ok (.iload_n 2, 1) := by decide +kernel
theorem dL_isPrinter_128 : decode cL_isPrinter 128 = .ok (.bipush 50, 2) := by decide +kernel
theorem dL_isPrinter_130 : decode cL_isPrinter 130 = .ok (.irem, 1) := by decide +kernel
theorem dL_isPrinter_131 : decode cL_isPrinter 131 = .ok (.iadd, 1) := by decide +kernel
theorem dL_isPrinter_132 : decode cL_isPrinter 132 = .ok (.if_icmp .ne 17, 3) := by decide +kernel
theorem dL_isPrinter_149 : decode cL_isPrinter 149 = .ok (.iinc 6 1, 3) := by decide +kernel
theorem dL_isPrinter_152 : decode cL_isPrinter 152 = .ok (.goto (-109), 3) := by decide +kernel
theorem dL_isPrinter_135 : decode cL_isPrinter 135 = .ok (.iload 7, 2) := by decide +kernel
theorem dL_isPrinter_137 : decode cL_isPrinter 137 = .ok (.aload_n 0, 1) := by decide +kernel
theorem dL_isPrinter_138 : decode cL_isPrinter 138 = .ok (.iload_n 1, 1) := by decide +kernel
theorem dL_isPrinter_139 : decode cL_isPrinter 139 = .ok (.iload 6, 2) := by decide +kernel
theorem dL_isPrinter_141 : decode cL_isPrinter 141 = .ok (.invokestatic 153, 3) := by decide +kernel
theorem dL_isPrinter_144 : decode cL_isPrinter 144 = .ok (.if_icmp .eq 5, 3) := by decide +kernel
theorem dL_isPrinter_114 : decode cL_isPrinter 114 = .ok (.iconst 1, 1) := by decide +kernel
theorem dL_isPrinter_115 : decode cL_isPrinter 115 = .ok (.goto 4, 3) := by decide +kernel
theorem dL_isPrinter_97 : decode cL_isPrinter 97 = .ok (.iload 6, 2) := by decide +kernel
theorem dL_isPrinter_99 : decode cL_isPrinter 99 = .ok (.iload_n 3, 1) := by decide +kernel
theorem dL_isPrinter_100 : decode cL_isPrinter 100 = .ok (.if_icmp .ge 5, 3) := by decide +kernel
theorem dL_isPrinter_61 : decode cL_isPrinter 61 = .ok (.aload_n 0, 1) := by decide +kernel
theorem dL_isPrinter_62 : decode cL_isPrinter 62 = .ok (.iload_n 1, 1) := by decide +kernel
theorem dL_isPrinter_63 : decode cL_isPrinter 63 = .ok (.iload 6, 2) := by decide +kernel
theorem dL_isPrinter_65 : decode cL_isPrinter 65 = .ok (.invokevirtual 157, 3) := by decide +kernel
theorem dL_isPrinter_68 : decode cL_isPrinter 68 = .ok (.iconst (-1), 1) := by decide +kernel
theorem dL_isPrinter_69 : decode cL_isPrinter 69 = .ok (.if_icmp .eq 80, 3) := by decide +kernel
abbrev mL_isClue : zM := (yL_isClue, cL_isClue, 8, (some .boolean), [])
theorem okL_isClue : zMok mL_isClue 3 := ⟨by decide, by decide, by decide +kernel⟩
theorem dL_isClue_0 : decode cL_isClue 0 = .ok (.iconst 0, 1) := by decide +kernel
theorem dL_isClue_1 : decode cL_isClue 1 = .ok (.istore_n 3, 1) := by decide +kernel
theorem dL_isClue_2 : decode cL_isClue 2 = .ok (.iconst 0, 1) := by decide +kernel
theorem dL_isClue_3 : decode cL_isClue 3 = .ok (.istore 4, 2) := by decide +kernel
theorem dL_isClue_5 : decode cL_isClue 5 = .ok (.iconst 0, 1) := by decide +kernel
theorem dL_isClue_6 : decode cL_isClue 6 = .ok (.istore 5, 2) := by decide +kernel
theorem dL_isClue_8 : decode cL_isClue 8 = .ok (.iload 5, 2) := by decide +kernel
theorem dL_isClue_10 : decode cL_isClue 10 = .ok (.aload_n 0, 1) := by decide +kernel
theorem dL_isClue_11 : decode cL_isClue 11 = .ok (.invokevirtual 98, 3) := by decide +kernel
theorem dL_isClue_14 : decode cL_isClue 14 = .ok (.if_icmp .ge 56, 3) := by decide +kernel
theorem dL_isClue_70 : decode cL_isClue 70 = .ok (.iconst 0, 1) := by decide +kernel
theorem dL_isClue_71 : decode cL_isClue 71 = .ok (.istore 5, 2) := by decide +kernel
theorem dL_isClue_73 : decode cL_isClue 73 = .ok (.iload 5, 2) := by decide +kernel
theorem dL_isClue_75 : decode cL_isClue 75 = .ok (.aload_n 0, 1) := by decide +kernel
theorem dL_isClue_76 : decode cL_isClue 76 = .ok (.invokevirtual 133, 3) := by decide +kernel
theorem dL_isClue_79 : decode cL_isClue 79 = .ok (.if_icmp .ge 179, 3) := by decide +kernel
theorem dL_isClue_258 : decode cL_isClue 258 = .ok (.aload_n 0, 1) := by decide +kernel
theorem dL_isClue_259 : decode cL_isClue 259 = .ok (.iload_n 1, 1) := by decide +kernel
theorem dL_isClue_260 : decode cL_isClue 260 = .ok (.invokevirtual 171, 3) := by decide +kernel
theorem cw_RL_171 : zCwV RL 171 mX9_contradictionsOf := zall [1120, 1121, 1122, 31, 1123] (by decide +kernel) (by decide +kernel)
theorem dL_isClue_263 : decode cL_isClue 263 = .ok (.iload_n 3, 1) := by decide +kernel
theorem dL_isClue_264 : decode cL_isClue 264 = .ok (.if_icmp .ne 22, 3) := by decide +kernel
theorem dL_isClue_267 : decode cL_isClue 267 = .ok (.iload 4, 2) := by decide +kernel
theorem dL_isClue_269 : decode cL_isClue 269 = .ok (.ifCond .ne 13, 3) := by decide +kernel
theorem dL_isClue_282 : decode cL_isClue 282 = .ok (.iconst 1, 1) := by decide +kernel
theorem dL_isClue_283 : decode cL_isClue 283 = .ok (.goto 4, 3) := by decide +kernel
theorem dL_isClue_287 : decode cL_isClue 287 = .ok (.ireturn, 1) := by decide +kernel
theorem dL_isClue_272 : decode cL_isClue 272 = .ok (.iload_n 3, 1) := by decide +kernel
theorem dL_isClue_273 : decode cL_isClue 273 = .ok (.aload_n 0, 1) := by decide +kernel
theorem dL_isClue_274 : decode cL_isClue 274 = .ok (.invokevirtual 98, 3) := by decide +kernel
theorem dL_isClue_277 : decode cL_isClue 277 = .ok (.iconst 1, 1) := by decide +kernel
theorem dL_isClue_278 : decode cL_isClue 278 = .ok (.isub, 1) := by decide +kernel
theorem dL_isClue_279 : decode cL_isClue 279 = .ok (.if_icmp .ne 7, 3) := by decide +kernel
theorem dL_isClue_82 : decode cL_isClue 82 = .ok (.sipush 1500, 3) := by decide +kernel
theorem dL_isClue_85 : decode cL_isClue 85 = .ok (.istore 6, 2) := by decide +kernel
theorem dL_isClue_87 : decode cL_isClue 87 = .ok (.iload 6, 2) := by decide +kernel
theorem dL_isClue_89 : decode cL_isClue 89 = .ok (.sipush 1550, 3) := by decide +kernel
theorem dL_isClue_92 : decode cL_isClue 92 = .ok (.if_icmp .ge 160, 3) := by decide +kernel
theorem dL_isClue_252 : decode cL_isClue 252 = .ok (.iinc 5 1, 3) := by decide +kernel
theorem dL_isClue_255 : decode cL_isClue 255 = .ok (.goto (-182), 3) := by decide +kernel
theorem dL_isClue_95 : decode cL_isClue 95 = .ok (.aload_n 0, 1) := by decide +kernel
theorem dL_isClue_96 : decode cL_isClue 96 = .ok (.iload 5, 2) := by decide +kernel
theorem dL_isClue_98 : decode cL_isClue 98 = .ok (.iload 6, 2) := by decide +kernel
theorem dL_isClue_100 : decode cL_isClue 100 = .ok (.iload_n 1, 1) := by decide +kernel
theorem dL_isClue_101 : decode cL_isClue 101 = .ok (.invokevirtual 140, 3) := by decide +kernel
theorem dL_isClue_104 : decode cL_isClue 104 = .ok (.ifCond .ne 6, 3) := by decide +kernel
theorem dL_isClue_110 : decode cL_isClue 110 = .ok (.iconst 1, 1) := by decide +kernel
theorem dL_isClue_111 : decode cL_isClue 111 = .ok (.istore 4, 2) := by decide +kernel
theorem dL_isClue_113 : decode cL_isClue 113 = .ok (.aload_n 0, 1) := by decide +kernel
theorem dL_isClue_114 : decode cL_isClue 114 = .ok (.iload 5, 2) := by decide +kernel
theorem dL_isClue_116 : decode cL_isClue 116 = .ok (.iload 6, 2) := by decide +kernel
theorem dL_isClue_118 : decode cL_isClue 118 = .ok (.invokevirtual 150, 3) := by decide +kernel
theorem dL_isClue_121 : decode cL_isClue 121 = .ok (.ifCond .eq 90, 3) := by decide +kernel
theorem dL_isClue_124 : decode cL_isClue 124 = .ok (.aload_n 0, 1) := by decide +kernel
theorem dL_isClue_125 : decode cL_isClue 125 = .ok (.iload_n 1, 1) := by decide +kernel
theorem dL_isClue_126 : decode cL_isClue 126 = .ok (.invokevirtual 109, 3) := by decide +kernel
theorem dL_isClue_129 : decode cL_isClue 129 = .ok (.ifCond .ne 17, 3) := by decide +kernel
theorem dL_isClue_146 : decode cL_isClue 146 = .ok (.aload_n 0, 1) := by decide +kernel
theorem dL_isClue_147 : decode cL_isClue 147 = .ok (.iload_n 1, 1) := by decide +kernel
theorem dL_isClue_148 : decode cL_isClue 148 = .ok (.invokevirtual 109, 3) := by decide +kernel
theorem dL_isClue_151 : decode cL_isClue 151 = .ok (.iconst 1, 1) := by decide +kernel
theorem dL_isClue_152 : decode cL_isClue 152 = .ok (.if_icmp .ne 17, 3) := by decide +kernel
theorem dL_isClue_169 : decode cL_isClue 169 = .ok (.aload_n 0, 1) := by decide +kernel
theorem dL_isClue_170 : decode cL_isClue 170 = .ok (.iload_n 1, 1) := by decide +kernel
theorem dL_isClue_171 : decode cL_isClue 171 = .ok (.invokevirtual 109, 3) := by decide +kernel
theorem dL_isClue_174 : decode cL_isClue 174 = .ok (.iconst 3, 1) := by decide +kernel
theorem dL_isClue_175 : decode cL_isClue 175 = .ok (.if_icmp .ne 17, 3) := by decide +kernel
theorem dL_isClue_192 : decode cL_isClue 192 = .ok (.aload_n 0, 1) := by decide +kernel
theorem dL_isClue_193 : decode cL_isClue 193 = .ok (.iload_n 1, 1) := by decide +kernel
theorem dL_isClue_194 : decode cL_isClue 194 = .ok (.invokevirtual 109, 3) := by decide +kernel
theorem dL_isClue_197 : decode cL_isClue 197 = .ok (.iconst 4, 1) := by decide +kernel
theorem dL_isClue_198 : decode cL_isClue 198 = .ok (.if_icmp .ne 15, 3) := by decide +kernel
theorem dL_isClue_213 : decode cL_isClue 213 = .ok (.iload_n 2, 1) := by decide +kernel
theorem dL_isClue_214 : decode cL_isClue 214 = .ok (.aload_n 0, 1) := by decide +kernel
theorem dL_isClue_215 : decode cL_isClue 215 = .ok (.invokevirtual 98, 3) := by decide +kernel
theorem dL_isClue_218 : decode cL_isClue 218 = .ok (.irem, 1) := by decide +kernel
theorem dL_isClue_219 : decode cL_isClue 219 = .ok (.istore 7, 2) := by decide +kernel
theorem dL_isClue_221 : decode cL_isClue 221 = .ok (.aload_n 0, 1) := by decide +kernel
theorem dL_isClue_222 : decode cL_isClue 222 = .ok (.iload 5, 2) := by decide +kernel
theorem dL_isClue_224 : decode cL_isClue 224 = .ok (.iload 6, 2) := by decide +kernel
theorem dL_isClue_226 : decode cL_isClue 226 = .ok (.iload 7, 2) := by decide +kernel
theorem dL_isClue_228 : decode cL_isClue 228 = .ok (.invokevirtual 140, 3) := by decide +kernel
theorem dL_isClue_231 : decode cL_isClue 231 = .ok (.ifCond .eq 15, 3) := by decide +kernel
theorem dL_isClue_246 : decode cL_isClue 246 = .ok (.iinc 6 1, 3) := by decide +kernel
theorem dL_isClue_249 : decode cL_isClue 249 = .ok (.goto (-162), 3) := by decide +kernel
theorem dL_isClue_234 : decode cL_isClue 234 = .ok (.aload_n 0, 1) := by decide +kernel
theorem dL_isClue_235 : decode cL_isClue 235 = .ok (.iload_n 1, 1) := by decide +kernel
theorem dL_isClue_236 : decode cL_isClue 236 = .ok (.iload 7, 2) := by decide +kernel
theorem dL_isClue_238 : decode cL_isClue 238 = .ok (.invokevirtual 162, 3) := by decide +kernel
theorem cw_RL_162 : zCwV RL 162 mX9_contradict := zall [1101, 1102, 1103, 31, 1104] (by decide +kernel) (by decide +kernel)
theorem dL_isClue_241 : decode cL_isClue 241 = .ok (.ifCond .eq 5, 3) := by decide +kernel
theorem dL_isClue_201 : decode cL_isClue 201 = .ok (.iload 6, 2) := by decide +kernel
theorem dL_isClue_203 : decode cL_isClue 203 = .ok (.aload_n 0, 1) := by decide +kernel
theorem dL_isClue_204 : decode cL_isClue 204 = .ok (.iload_n 1, 1) := by decide +kernel
theorem dL_isClue_205 : decode cL_isClue 205 = .ok (.invokevirtual 114, 3) := by decide +kernel
theorem dL_isClue_208 : decode cL_isClue 208 = .ok (.if_icmp .eq 5, 3) := by decide +kernel
theorem dL_isClue_178 : decode cL_isClue 178 = .ok (.aload_n 0, 1) := by decide +kernel
theorem dL_isClue_179 : decode cL_isClue 179 = .ok (.iload 5, 2) := by decide +kernel
theorem dL_isClue_181 : decode cL_isClue 181 = .ok (.invokevirtual 168, 3) := by decide +kernel
theorem cw_RL_168 : zCwV RL 168 mX9_cityOf := zall [1116, 1117, 1118, 31, 1119] (by decide +kernel) (by decide +kernel)
theorem dL_isClue_184 : decode cL_isClue 184 = .ok (.aload_n 0, 1) := by decide +kernel
theorem dL_isClue_185 : decode cL_isClue 185 = .ok (.iload_n 1, 1) := by decide +kernel
theorem dL_isClue_186 : decode cL_isClue 186 = .ok (.invokevirtual 114, 3) := by decide +kernel
theorem dL_isClue_189 : decode cL_isClue 189 = .ok (.if_icmp .ne 22, 3) := by decide +kernel
theorem dL_isClue_155 : decode cL_isClue 155 = .ok (.aload_n 0, 1) := by decide +kernel
theorem dL_isClue_156 : decode cL_isClue 156 = .ok (.iload 5, 2) := by decide +kernel
theorem dL_isClue_158 : decode cL_isClue 158 = .ok (.aload_n 0, 1) := by decide +kernel
theorem dL_isClue_159 : decode cL_isClue 159 = .ok (.iload_n 1, 1) := by decide +kernel
theorem dL_isClue_160 : decode cL_isClue 160 = .ok (.invokevirtual 114, 3) := by decide +kernel
theorem dL_isClue_163 : decode cL_isClue 163 = .ok (.invokevirtual 165, 3) := by decide +kernel
theorem cw_RL_165 : zCwV RL 165 mX9_hasTypeface := zall [1111, 1112, 1113, 31, 1114] (by decide +kernel) (by decide +kernel)
theorem dL_isClue_166 : decode cL_isClue 166 = .ok (.ifCond .eq 45, 3) := by decide +kernel
theorem dL_isClue_132 : decode cL_isClue 132 = .ok (.aload_n 0, 1) := by decide +kernel
theorem dL_isClue_133 : decode cL_isClue 133 = .ok (.iload 5, 2) := by decide +kernel
theorem dL_isClue_135 : decode cL_isClue 135 = .ok (.aload_n 0, 1) := by decide +kernel
theorem dL_isClue_136 : decode cL_isClue 136 = .ok (.iload_n 1, 1) := by decide +kernel
theorem dL_isClue_137 : decode cL_isClue 137 = .ok (.invokevirtual 114, 3) := by decide +kernel
theorem dL_isClue_140 : decode cL_isClue 140 = .ok (.invokevirtual 136, 3) := by decide +kernel
theorem dL_isClue_143 : decode cL_isClue 143 = .ok (.ifCond .eq 68, 3) := by decide +kernel
theorem dL_isClue_107 : decode cL_isClue 107 = .ok (.goto 139, 3) := by decide +kernel
theorem dL_isClue_17 : decode cL_isClue 17 = .ok (.aload_n 0, 1) := by decide +kernel
theorem dL_isClue_18 : decode cL_isClue 18 = .ok (.iload_n 1, 1) := by decide +kernel
theorem dL_isClue_19 : decode cL_isClue 19 = .ok (.iload 5, 2) := by decide +kernel
theorem dL_isClue_21 : decode cL_isClue 21 = .ok (.invokevirtual 162, 3) := by decide +kernel
theorem dL_isClue_24 : decode cL_isClue 24 = .ok (.istore 6, 2) := by decide +kernel
theorem dL_isClue_26 : decode cL_isClue 26 = .ok (.iload_n 3, 1) := by decide +kernel
theorem dL_isClue_27 : decode cL_isClue 27 = .ok (.iload 6, 2) := by decide +kernel
theorem dL_isClue_29 : decode cL_isClue 29 = .ok (.ifCond .eq 7, 3) := by decide +kernel
theorem dL_isClue_36 : decode cL_isClue 36 = .ok (.iconst 0, 1) := by decide +kernel
theorem dL_isClue_37 : decode cL_isClue 37 = .ok (.iadd, 1) := by decide +kernel
theorem dL_isClue_38 : decode cL_isClue 38 = .ok (.istore_n 3, 1) := by decide +kernel
theorem dL_isClue_39 : decode cL_isClue 39 = .ok (.iload 6, 2) := by decide +kernel
theorem dL_isClue_41 : decode cL_isClue 41 = .ok (.aload_n 0, 1) := by decide +kernel
theorem dL_isClue_42 : decode cL_isClue 42 = .ok (.iload 5, 2) := by decide +kernel
theorem dL_isClue_44 : decode cL_isClue 44 = .ok (.iload_n 1, 1) := by decide +kernel
theorem dL_isClue_45 : decode cL_isClue 45 = .ok (.invokevirtual 162, 3) := by decide +kernel
theorem dL_isClue_48 : decode cL_isClue 48 = .ok (.if_icmp .ne 14, 3) := by decide +kernel
theorem dL_isClue_51 : decode cL_isClue 51 = .ok (.iload 5, 2) := by decide +kernel
theorem dL_isClue_53 : decode cL_isClue 53 = .ok (.iload_n 1, 1) := by decide +kernel
theorem dL_isClue_54 : decode cL_isClue 54 = .ok (.if_icmp .ne 10, 3) := by decide +kernel
theorem dL_isClue_64 : decode cL_isClue 64 = .ok (.iinc 5 1, 3) := by decide +kernel
theorem dL_isClue_67 : decode cL_isClue 67 = .ok (.goto (-59), 3) := by decide +kernel
theorem dL_isClue_57 : decode cL_isClue 57 = .ok (.iload 6, 2) := by decide +kernel
theorem dL_isClue_59 : decode cL_isClue 59 = .ok (.ifCond .eq 5, 3) := by decide +kernel
theorem dL_isClue_32 : decode cL_isClue 32 = .ok (.iconst 1, 1) := by decide +kernel
theorem dL_isClue_33 : decode cL_isClue 33 = .ok (.goto 4, 3) := by decide +kernel
/-! facts for the law's questions -/
theorem hzDof {σ : zS} {D : zBk} (hB : bK σ = D) (hz : zOK σ) : ∀ o i, zr (D o i) := fun o i => by
  subst hB
  show zr (if o ≤ 19 then _ else (0 : Int))
  split
  · exact hz _ _
  · exact zr0
theorem zr3 {a : Int} (h : 0 ≤ a ∧ a ≤ 360) : zr a := by unfold zr; omega
theorem zr_tm (a : Int) : zr (a.tmod 100000) := by
  have h1 := Int.tmod_lt_of_pos a (b := 100000) (by decide)
  have h2 := Int.lt_tmod_of_pos a (b := 100000) (by decide)
  unfold zr
  omega
theorem rkP_zr {D : zBk} {H : Nat → Prop} (w : WF D) (r : Int) : zr (rkP D H r) := by
  have hn := w.1.1
  unfold rkP atR
  rcases zfst_cases (fun k => rkn (ahd D H) (D 1 0).toNat k = r) (D 1 0).toNat with ⟨h1, -⟩ | ⟨i, h1, h2, -⟩
  · rw [h1]; unfold zr; omega
  · rw [h2]; unfold zr; omega
/-- a number of the script: the rest of its absolute value by 100000 -/
def zcl (w : zW) (x : Int) : Int := if ((zSL w : Nat) : Int) = 0 then 0 else if 0 ≤ ((zSx w (x % ((zSL w : Nat) : Int)).toNat).toInt).tmod 100000 then ((zSx w (x % ((zSL w : Nat) : Int)).toNat).toInt).tmod 100000 else 0 - ((zSx w (x % ((zSL w : Nat) : Int)).toNat).toInt).tmod 100000
theorem zcl_b (w : zW) (x : Int) : 0 ≤ zcl w x ∧ zcl w x ≤ 99999 := by
  have h1 := Int.tmod_lt_of_pos ((zSx w (x % ((zSL w : Nat) : Int)).toNat).toInt) (b := 100000) (by decide)
  have h2 := Int.lt_tmod_of_pos ((zSx w (x % ((zSL w : Nat) : Int)).toNat).toInt) (b := 100000) (by decide)
  unfold zcl
  split
  · omega
  · split <;> omega
/-! the sum of all that can be asked -/
noncomputable def lsA (D : zBk) : Nat → Int
  | 0 => 31 * D 12 0 + cW D
  | k + 1 => 31 * lsA D k + D 13 k + 7 * D 14 k + 11 * D 15 k + 13 * D 16 k + (if D 17 k = 0 then 0 else 17) + (if D 18 k = 0 then 0 else 19)
theorem lsA_s (D : zBk) (k : Nat) : lsA D (k + 1) = 31 * lsA D k + D 13 k + 7 * D 14 k + 11 * D 15 k + 13 * D 16 k + (if D 17 k = 0 then 0 else 17) + (if D 18 k = 0 then 0 else 19) := rfl
noncomputable def lsD (D : zBk) (p : Nat) (a : Int) : Nat → Int
  | 0 => a
  | d + 1 => 31 * lsD D p a d + zb (hasDev D p (d : Int))
theorem lsD_s (D : zBk) (p : Nat) (a : Int) (d : Nat) : lsD D p a (d + 1) = 31 * lsD D p a d + zb (hasDev D p (d : Int)) := rfl
noncomputable def lsP (D : zBk) : Nat → Int
  | 0 => lsA D (D 12 0).toNat
  | p + 1 => lsD D p (lsP D p) 8
theorem lsP_s (D : zBk) (p : Nat) : lsP D (p + 1) = lsD D p (lsP D p) 8 := rfl
noncomputable def lsum (D : zBk) : Int := lsP D (D 1 0).toNat
theorem lsA_l {D D' : zBk} (h : lEq D D') : ∀ k : Nat, (k : Int) ≤ D 12 0 → lsA D' k = lsA D k
  | 0, _ => by
    show 31 * D' 12 0 + cW D' = 31 * D 12 0 + cW D
    rw [h.1.2.2.2, cW_l2 h]
  | k + 1, hk => by
    have hc : (k : Int) < D 12 0 := by omega
    rw [lsA_s, lsA_s, lsA_l h k (by omega), lE_c h hc (by omega) (by omega), lE_c h hc (by omega) (by omega), lE_c h hc (by omega) (by omega), lE_c h hc (by omega) (by omega), lE_c h hc (by omega) (by omega), lE_c h hc (by omega) (by omega)]
theorem lsD_l {D D' : zBk} (h : lEq D D') {p : Nat} (hp : (p : Int) < D 1 0) (a : Int) : ∀ d, lsD D' p a d = lsD D p a d
  | 0 => rfl
  | d + 1 => by rw [lsD_s, lsD_s, lsD_l h hp a d, zb_c (hasDev_l h hp _)]
theorem lsP_l {D D' : zBk} (h : lEq D D') (h0 : 0 ≤ D 12 0) : ∀ p : Nat, (p : Int) ≤ D 1 0 → lsP D' p = lsP D p
  | 0, _ => by
    show lsA D' (D' 12 0).toNat = lsA D (D 12 0).toNat
    rw [lE_n h, lsA_l h _ (by omega)]
  | p + 1, hp => by rw [lsP_s, lsP_s, lsP_l h h0 p (by omega), lsD_l h (by omega)]
theorem lsum_l {D D' : zBk} (h : lEq D D') (w : WF D) : lsum D' = lsum D := by
  have h1 := w.1.1
  have h2 := w.1.2.2.2
  unfold lsum
  rw [lE_n1 h, lsP_l h (by omega) _ (by omega)]
/-- the score of a candidate, by the clues that it explains -/
noncomputable def lsc (D : zBk) (p : Nat) (y : Int) : Int := zs (fun c => zif (Ht D c ∧ works D p y ∧ cFit D p y c) (D 16 c)) (D 12 0).toNat
theorem lsc_sc {D : zBk} {p r : Nat} {y : Int} (h : works D p y) (hy : y = 1450 + (r : Int)) : lsc D p y = sc D (Ht D) p r := by
  subst hy
  exact zs_congr (fun c _ => zif_c ⟨fun q => ⟨q.1, q.2.2⟩, fun q => ⟨q.1, h, q.2⟩⟩)
theorem scA_sc {D : zBk} {p r : Nat} {y : Int} (h : works D p y) (hy : y = 1450 + (r : Int)) : scA D p y = sc D (Ht D) p r := by
  subst hy
  exact scA_y h
theorem lsc_b {D : zBk} (w : WF D) (p : Nat) (y : Int) : 0 ≤ lsc D p y ∧ lsc D p y ≤ 360 := wt_b w _
theorem sc_b {D : zBk} {H : Nat → Prop} (w : WF D) (p r : Nat) : 0 ≤ sc D H p r ∧ sc D H p r ≤ 360 := wt_b w _
theorem scA_zr {D : zBk} (w : WF D) (p : Nat) (y : Int) : zr (scA D p y) := by
  by_cases h : works D p y
  · rw [scA_y h]; exact zr3 (wt_b w _)
  · rw [scA_n h]; unfold zr; omega
theorem zs_win {P : Nat → Prop} {a n : Nat} : ∀ N : Nat, a + n ≤ N → zs (fun i => zb ((a ≤ i ∧ i < a + n) ∧ P i)) N = zs (fun i => zb (P (a + i))) n := by
  have key : ∀ m : Nat, m ≤ n → zs (fun i => zb ((a ≤ i ∧ i < a + n) ∧ P i)) (a + m) = zs (fun i => zb (P (a + i))) m := by
    intro m
    induction m with
    | zero =>
      intro _
      rw [Nat.add_zero, zs_congr (g := fun _ => 0) (fun i hi => zb_f (fun q => by omega)), zs_zero]
      rfl
    | succ m ih =>
      intro hm
      rw [← Nat.add_assoc, zs_s, ih (by omega), zs_s]
      congr 1
      exact zb_c ⟨fun q => q.2, fun q => ⟨by omega, q⟩⟩
  intro N hN
  obtain ⟨d, rfl⟩ : ∃ d, N = a + n + d := ⟨N - (a + n), by omega⟩
  clear hN
  induction d with
  | zero => exact key n (Nat.le_refl n)
  | succ d ih =>
    rw [← Nat.add_assoc, zs_s, ih, zb_f (fun q => by omega), Int.add_zero]
theorem tN_win {D : zBk} (w : WF D) {p : Nat} (hp : (p : Int) < D 1 0) (hy : 1500 ≤ D 4 p ∧ D 5 p ≤ 1549) : tN D (Ht D) p = zs (fun i => zb (works D p (1500 + (i : Int)) ∧ sc D (Ht D) p (50 + i) = tS D (Ht D) p)) 50 := by
  have hyr := (w.2.1 p hp).2
  have e := zs_win (P := fun i => sc D (Ht D) p (50 + i) = tS D (Ht D) p) (a := (D 4 p - 1500).toNat) (n := (D 5 p - D 4 p + 1).toNat) 50 (by omega)
  rw [zs_congr (g := fun i => zb ((((D 4 p - 1500).toNat ≤ i ∧ i < (D 4 p - 1500).toNat + (D 5 p - D 4 p + 1).toNat)) ∧ sc D (Ht D) p (50 + i) = tS D (Ht D) p)) (fun i hi => zb_c (by
    unfold works
    constructor
    · rintro ⟨a, b⟩; exact ⟨by omega, b⟩
    · rintro ⟨a, b⟩; exact ⟨by omega, b⟩)), e]
  unfold tN
  rw [yCnt_e]
  refine zs_congr (fun i hi => ?_)
  have e2 : (D 4 p - 1450).toNat + i = 50 + ((D 4 p - 1500).toNat + i) := by omega
  rw [e2]
  rfl
theorem tog_sy {D : zBk} (c d : Nat) : tog D c d ↔ tog D d c := by
  have h : ∀ c d, tog D c d → tog D d c := fun c d ⟨p, hp, a, b, e⟩ => ⟨p, hp, b, a, by omega⟩
  exact ⟨h c d, h d c⟩
theorem tog_of {D : zBk} {p c d : Nat} {y : Int} (hp : (p : Int) < D 1 0) (hw : works D p y) (h1 : cFit D p y c) (h2 : cFit D p y d) : tog D c d := by
  unfold works at hw
  unfold cFit at h1 h2
  exact ⟨p, hp, h1.1, h2.1, by omega⟩
theorem tog_no {D : zBk} {c d : Nat} (hy : ∀ p : Nat, (p : Int) < D 1 0 → 1500 ≤ D 4 p ∧ D 5 p ≤ 1549) (h : ∀ p : Nat, (p : Int) < D 1 0 → ∀ y : Int, 1500 ≤ y → y < 1550 → ¬ (works D p y ∧ cFit D p y c)) : ¬ tog D c d := by
  rintro ⟨p, hp, a, b, e⟩
  have := hy p hp
  refine h p hp (max (max (eYr D c) (eYr D d)) (D 4 p)) (by omega) (by omega) ⟨?_, a, ?_⟩
  · unfold works; omega
  · omega
theorem against_all {D : zBk} {k : Nat} (hk : (k : Int) < D 12 0) (h : ∀ c, ¬ tog D k c) : zs (fun c => zb (¬ (c : Int) = (k : Int) ∧ ¬ tog D k c)) (D 12 0).toNat = D 12 0 - 1 := by
  have e : ∀ n : Nat, zs (fun c => zb (¬ (c : Int) = (k : Int) ∧ ¬ tog D k c)) n = (n : Int) - zb (k < n) := by
    intro n
    induction n with
    | zero => rw [zb_f (by omega)]; rfl
    | succ n ih =>
      rw [zs_s, ih]
      rcases Nat.lt_trichotomy k n with q | q | q
      · rw [zb_t q, zb_t (show k < n + 1 by omega), zb_t ⟨by omega, h n⟩]; omega
      · rw [zb_f (show ¬ k < n by omega), zb_t (show k < n + 1 by omega), zb_f (fun z => z.1 (by omega))]; omega
      · rw [zb_f (show ¬ k < n by omega), zb_f (show ¬ k < n + 1 by omega), zb_t ⟨by omega, h n⟩]; omega
  rw [e, zb_t (by omega)]
  omega

set_option maxRecDepth 20000 in
set_option maxHeartbeats 2000000 in
theorem sL_cell {l : Launch} {w : zW} (hfl : l.stackTraces = false) {σ : zS} {x : Int} (hz : zOK σ) (hx : 0 ≤ x ∧ x ≤ 2147483647) (hL : zSL w ≤ 260) : Sp l w mL_cell 1 0 [zf 101 0, zi x] σ (zret (zi (zcl w x)) σ) := by
  obtain ⟨Q, hQ⟩ : ∃ Q : zQ, Q = (zret (zi (zcl w x)) σ) := ⟨_, rfl⟩
  rw [← hQ]
  refine zx_enter hfl (by decide) rfl 0 rfl ?_
  show zX l w mL_cell (zMQ w 1 0 Q) 0 [zf 101 0, zi x] [] 0 σ
  refine zx_aloadN dL_cell_0 rfl rfl ?_
  refine zx_slen dL_cell_1 ?_
  refine zx_if_ne (tgt := 9) (by first | exact hz _ _ | assumption | exact zr_b _ | exact zcmp_r _ _ | exact zr_t _ | exact zr_tm _ | (unfold zr at *; omega)) dL_cell_2 (by decide) (fun h2 => ?_) (fun h2 => ?_)
  · have hm1 : 0 ≤ x % ((zSL w : Nat) : Int) := Int.emod_nonneg _ (by omega)
    have hm2 : x % ((zSL w : Nat) : Int) < ((zSL w : Nat) : Int) := Int.emod_lt_of_pos _ (by omega)
    refine zx_aloadN dL_cell_9 rfl rfl ?_
    refine zx_iloadN dL_cell_10 rfl rfl ?_
    refine zx_aloadN dL_cell_11 rfl rfl ?_
    refine zx_slen dL_cell_12 ?_
    refine zx_irem (by omega) (by omega) (by omega) (by omega) dL_cell_13 ?_
    refine zx_sld (by omega) (by omega) (by omega) dL_cell_14 ?_
    refine zx_ldcI dL_cell_15 ic_RL_7 ?_
    refine zx_tmod (by first | exact hz _ _ | assumption | exact zr_b _ | exact zcmp_r _ _ | exact zr_t _ | exact zr_tm _ | (unfold zr at *; omega)) (by omega) (by omega) dL_cell_17 ?_
    refine zx_abs (by first | exact hz _ _ | assumption | exact zr_b _ | exact zcmp_r _ _ | exact zr_t _ | exact zr_tm _ | (unfold zr at *; omega)) mw_RL_8 (Nat.le_of_ble_eq_true rfl) ⟨Nat.le_of_ble_eq_true rfl, Nat.le_of_ble_eq_true rfl⟩ dL_cell_18 ?_
    refine zx_iret rfl rfl dL_cell_21 ?_
    rw [hQ]
    refine ⟨congrArg (fun z : Int => (Sum.inl (some (zi z)) : Option zV ⊕ String)) ?_, by first | rfl | (exfalso; omega)⟩
    unfold zcl
    first | rw [if_neg h2] | rw [if_pos h2]
  · refine zx_iconst dL_cell_5 ?_
    refine zx_goto (tgt := 21) dL_cell_6 (by decide) ?_
    refine zx_iret rfl rfl dL_cell_21 ?_
    rw [hQ]
    refine ⟨congrArg (fun z : Int => (Sum.inl (some (zi z)) : Option zV ⊕ String)) ?_, by first | rfl | (exfalso; omega)⟩
    unfold zcl
    first | rw [if_neg h2] | rw [if_pos h2]
set_option maxRecDepth 20000 in
set_option maxHeartbeats 2000000 in
theorem sL_score {l : Launch} {w : zW} (hfl : l.stackTraces = false) {σ : zS} {D : zBk} {p : Nat} {y : Int} (hz : zOK σ) (hB : bK σ = D) (hW : WF D) (hp : (p : Int) < D 1 0) (hy : 1450 ≤ y ∧ y ≤ 1999) : Sp l w mL_score 8 0 [zf 9 0, zi ((p : Nat) : Int), zi y] σ (zret (zi (lsc D p y)) σ) := by
  obtain ⟨Q, hQ⟩ : ∃ Q : zQ, Q = (zret (zi (lsc D p y)) σ) := ⟨_, rfl⟩
  rw [← hQ]
  refine zx_enter hfl (by decide) rfl 2 rfl ?_
  show zX l w mL_score (zMQ w 8 0 Q) 0 [zf 9 0, zi ((p : Nat) : Int), zi y, zu, zu] [] 0 σ
  have hzD := hzDof hB hz
  have hn1 : 0 ≤ D 1 0 ∧ D 1 0 ≤ 8 := hW.1.1
  have hn12 : 0 ≤ D 12 0 ∧ D 12 0 ≤ 40 := hW.1.2.2.2
  refine zx_iconst dL_score_0 ?_
  refine zy_istoreN [zf 9 0, zi ((p : Nat) : Int), zi y, zi 0, zu] dL_score_1 rfl (Nat.le_of_ble_eq_true rfl) (Nat.le_of_ble_eq_true rfl) rfl rfl ?_
  refine zx_iconst dL_score_2 ?_
  refine zy_istore [zf 9 0, zi ((p : Nat) : Int), zi y, zi 0, zi 0] dL_score_3 (Nat.le_of_ble_eq_true rfl) (Nat.le_of_ble_eq_true rfl) rfl rfl ?_
  have L5 : ∀ (N : Nat) (k : Nat) (acc : Int), ((k : Int) ≤ D 12 0) → (acc = zs (fun c => zif (Ht D c ∧ works D p y ∧ cFit D p y c) (D 16 c)) k) → (41 - k) < N → zX l w mL_score (zMQ w 8 0 Q) 5 [zf 9 0, zi ((p : Nat) : Int), zi y, zi acc, zi ((k : Nat) : Int)] [] 0 σ := by
    intro N
    induction N with
    | zero => intro k acc _ _ _; exact absurd (by assumption) (Nat.not_lt_zero _)
    | succ N ih5 =>
      intro k acc hk_ hacc hN
      refine zx_iload dL_score_5 rfl ?_
      refine zx_aloadN dL_score_7 rfl rfl ?_
      refine zy_cv [] (fX9_clueCount  hfl hz hB hW) dL_score_8 (by decide) rfl cw_RL_98 okX9_clueCount rfl (Nat.le_of_ble_eq_true rfl) ⟨Nat.le_of_ble_eq_true rfl, Nat.le_of_ble_eq_true rfl, Nat.le_of_ble_eq_true rfl, Nat.le_of_ble_eq_true rfl⟩ ?_
      refine zx_icmp_ge (tgt := 62) (by first | exact hz _ _ | assumption | exact zr_b _ | exact zcmp_r _ _ | exact hzD _ _ | exact zr3 (tS_b hW _) | exact zr3 (lsc_b hW _ _) | exact zr3 (sc_b hW _ _) | exact rkP_zr hW _ | exact scA_zr hW _ _ | exact zr3 (cW_b hW) | exact zr3 (wS_b hW) | (unfold zr at *; omega)) (by first | exact hz _ _ | assumption | exact zr_b _ | exact zcmp_r _ _ | exact hzD _ _ | exact zr3 (tS_b hW _) | exact zr3 (lsc_b hW _ _) | exact zr3 (sc_b hW _ _) | exact rkP_zr hW _ | exact scA_zr hW _ _ | exact zr3 (cW_b hW) | exact zr3 (wS_b hW) | (unfold zr at *; omega)) dL_score_11 (by decide) (fun h11 => ?_) (fun h11 => ?_)
      · refine zx_iloadN dL_score_62 rfl rfl ?_
        refine zx_iret rfl rfl dL_score_63 ?_
        rw [hQ]
        refine ⟨congrArg (fun z : Int => (Sum.inl (some (zi z)) : Option zV ⊕ String)) ?_, by first | rfl | (exfalso; omega)⟩
        rw [hacc, show k = (D 12 0).toNat by omega]; rfl
      · refine zx_iloadN dL_score_14 rfl rfl ?_
        refine zx_aloadN dL_score_15 rfl rfl ?_
        refine zx_iload dL_score_16 rfl ?_
        refine zy_cv [zi ((k : Nat) : Int)] (fX9_isRead  hfl hz hB hW (by first | exact hz _ _ | assumption | exact zr_b _ | exact zcmp_r _ _ | exact hzD _ _ | exact zr3 (tS_b hW _) | exact zr3 (lsc_b hW _ _) | exact zr3 (sc_b hW _ _) | exact rkP_zr hW _ | exact scA_zr hW _ _ | exact zr3 (cW_b hW) | exact zr3 (wS_b hW) | (unfold zr at *; omega)) (by first | assumption | omega)) dL_score_18 (by decide) rfl cw_RL_122 okX9_isRead rfl (Nat.le_of_ble_eq_true rfl) ⟨Nat.le_of_ble_eq_true rfl, Nat.le_of_ble_eq_true rfl, Nat.le_of_ble_eq_true rfl, Nat.le_of_ble_eq_true rfl⟩ ?_
        refine zy_top (b := D 17 k) rfl ?_
        refine zx_if_eq (tgt := 53) (by first | exact hz _ _ | assumption | exact zr_b _ | exact zcmp_r _ _ | exact hzD _ _ | exact zr3 (tS_b hW _) | exact zr3 (lsc_b hW _ _) | exact zr3 (sc_b hW _ _) | exact rkP_zr hW _ | exact scA_zr hW _ _ | exact zr3 (cW_b hW) | exact zr3 (wS_b hW) | (unfold zr at *; omega)) dL_score_21 (by decide) (fun h21 => ?_) (fun h21 => ?_)
        · refine zx_iconst dL_score_53 ?_
          refine zx_iadd dL_score_54 ?_
          refine zy_istoreN [zf 9 0, zi ((p : Nat) : Int), zi y, zi (acc + 0), zi ((k : Nat) : Int)] dL_score_55 rfl (Nat.le_of_ble_eq_true rfl) (Nat.le_of_ble_eq_true rfl) rfl rfl ?_
          refine zy_iinc (b := ((k + 1 : Nat) : Int)) [zf 9 0, zi ((p : Nat) : Int), zi y, zi (acc + 0), zi ((k + 1 : Nat) : Int)] dL_score_56 rfl (by omega) (Nat.le_of_ble_eq_true rfl) rfl rfl ?_
          refine zx_goto (tgt := 5) dL_score_59 (by decide) ?_
          exact ih5 (k + 1) (acc + 0) (by first | assumption | omega) (by
                subst hacc
                first
                | exact zsw_t (P := fun c => Ht D c ∧ works D p y ∧ cFit D p y c) (v := D 16) ⟨⟨h21, h30⟩, h41⟩
                | (rw [Int.add_zero]; exact zsw_f (P := fun c => Ht D c ∧ works D p y ∧ cFit D p y c) (v := D 16) (fun q => by first | exact q.1.1 h21 | exact h30 q.1.2 | exact h41 q.2))) (by omega)
        · refine zx_aloadN dL_score_24 rfl rfl ?_
          refine zx_iload dL_score_25 rfl ?_
          refine zy_cv [zi ((k : Nat) : Int)] (fX9_isAside  hfl hz hB hW (by first | exact hz _ _ | assumption | exact zr_b _ | exact zcmp_r _ _ | exact hzD _ _ | exact zr3 (tS_b hW _) | exact zr3 (lsc_b hW _ _) | exact zr3 (sc_b hW _ _) | exact rkP_zr hW _ | exact scA_zr hW _ _ | exact zr3 (cW_b hW) | exact zr3 (wS_b hW) | (unfold zr at *; omega)) (by first | assumption | omega)) dL_score_27 (by decide) rfl cw_RL_128 okX9_isAside rfl (Nat.le_of_ble_eq_true rfl) ⟨Nat.le_of_ble_eq_true rfl, Nat.le_of_ble_eq_true rfl, Nat.le_of_ble_eq_true rfl, Nat.le_of_ble_eq_true rfl⟩ ?_
          refine zy_top (b := D 18 k) rfl ?_
          refine zx_if_ne (tgt := 53) (by first | exact hz _ _ | assumption | exact zr_b _ | exact zcmp_r _ _ | exact hzD _ _ | exact zr3 (tS_b hW _) | exact zr3 (lsc_b hW _ _) | exact zr3 (sc_b hW _ _) | exact rkP_zr hW _ | exact scA_zr hW _ _ | exact zr3 (cW_b hW) | exact zr3 (wS_b hW) | (unfold zr at *; omega)) dL_score_30 (by decide) (fun h30 => ?_) (fun h30 => ?_)
          · refine zx_iconst dL_score_53 ?_
            refine zx_iadd dL_score_54 ?_
            refine zy_istoreN [zf 9 0, zi ((p : Nat) : Int), zi y, zi (acc + 0), zi ((k : Nat) : Int)] dL_score_55 rfl (Nat.le_of_ble_eq_true rfl) (Nat.le_of_ble_eq_true rfl) rfl rfl ?_
            refine zy_iinc (b := ((k + 1 : Nat) : Int)) [zf 9 0, zi ((p : Nat) : Int), zi y, zi (acc + 0), zi ((k + 1 : Nat) : Int)] dL_score_56 rfl (by omega) (Nat.le_of_ble_eq_true rfl) rfl rfl ?_
            refine zx_goto (tgt := 5) dL_score_59 (by decide) ?_
            exact ih5 (k + 1) (acc + 0) (by first | assumption | omega) (by
                  subst hacc
                  first
                  | exact zsw_t (P := fun c => Ht D c ∧ works D p y ∧ cFit D p y c) (v := D 16) ⟨⟨h21, h30⟩, h41⟩
                  | (rw [Int.add_zero]; exact zsw_f (P := fun c => Ht D c ∧ works D p y ∧ cFit D p y c) (v := D 16) (fun q => by first | exact q.1.1 h21 | exact h30 q.1.2 | exact h41 q.2))) (by omega)
          · refine zx_aloadN dL_score_33 rfl rfl ?_
            refine zx_iloadN dL_score_34 rfl rfl ?_
            refine zx_iloadN dL_score_35 rfl rfl ?_
            refine zx_iload dL_score_36 rfl ?_
            refine zy_cv [zi ((p : Nat) : Int), zi y, zi ((k : Nat) : Int)] (fX9_explains  hfl hz hB hW (by first | exact hz _ _ | assumption | exact zr_b _ | exact zcmp_r _ _ | exact hzD _ _ | exact zr3 (tS_b hW _) | exact zr3 (lsc_b hW _ _) | exact zr3 (sc_b hW _ _) | exact rkP_zr hW _ | exact scA_zr hW _ _ | exact zr3 (cW_b hW) | exact zr3 (wS_b hW) | (unfold zr at *; omega)) (by first | exact hz _ _ | assumption | exact zr_b _ | exact zcmp_r _ _ | exact hzD _ _ | exact zr3 (tS_b hW _) | exact zr3 (lsc_b hW _ _) | exact zr3 (sc_b hW _ _) | exact rkP_zr hW _ | exact scA_zr hW _ _ | exact zr3 (cW_b hW) | exact zr3 (wS_b hW) | (unfold zr at *; omega)) (by first | exact hz _ _ | assumption | exact zr_b _ | exact zcmp_r _ _ | exact hzD _ _ | exact zr3 (tS_b hW _) | exact zr3 (lsc_b hW _ _) | exact zr3 (sc_b hW _ _) | exact rkP_zr hW _ | exact scA_zr hW _ _ | exact zr3 (cW_b hW) | exact zr3 (wS_b hW) | (unfold zr at *; omega)) (by first | assumption | omega) (by first | assumption | omega) (by first | assumption | omega)) dL_score_38 (by decide) rfl cw_RL_140 okX9_explains rfl (Nat.le_of_ble_eq_true rfl) ⟨Nat.le_of_ble_eq_true rfl, Nat.le_of_ble_eq_true rfl, Nat.le_of_ble_eq_true rfl, Nat.le_of_ble_eq_true rfl⟩ ?_
            refine zy_top (b := zb (works D p y ∧ cFit D p y k)) rfl ?_
            refine zx_if_eq (tgt := 53) (by first | exact hz _ _ | assumption | exact zr_b _ | exact zcmp_r _ _ | exact hzD _ _ | exact zr3 (tS_b hW _) | exact zr3 (lsc_b hW _ _) | exact zr3 (sc_b hW _ _) | exact rkP_zr hW _ | exact scA_zr hW _ _ | exact zr3 (cW_b hW) | exact zr3 (wS_b hW) | (unfold zr at *; omega)) dL_score_41 (by decide) (fun h41 => ?_) (fun h41 => ?_)
            · have h41 := zb_0.mp h41
              refine zx_iconst dL_score_53 ?_
              refine zx_iadd dL_score_54 ?_
              refine zy_istoreN [zf 9 0, zi ((p : Nat) : Int), zi y, zi (acc + 0), zi ((k : Nat) : Int)] dL_score_55 rfl (Nat.le_of_ble_eq_true rfl) (Nat.le_of_ble_eq_true rfl) rfl rfl ?_
              refine zy_iinc (b := ((k + 1 : Nat) : Int)) [zf 9 0, zi ((p : Nat) : Int), zi y, zi (acc + 0), zi ((k + 1 : Nat) : Int)] dL_score_56 rfl (by omega) (Nat.le_of_ble_eq_true rfl) rfl rfl ?_
              refine zx_goto (tgt := 5) dL_score_59 (by decide) ?_
              exact ih5 (k + 1) (acc + 0) (by first | assumption | omega) (by
                    subst hacc
                    first
                    | exact zsw_t (P := fun c => Ht D c ∧ works D p y ∧ cFit D p y c) (v := D 16) ⟨⟨h21, h30⟩, h41⟩
                    | (rw [Int.add_zero]; exact zsw_f (P := fun c => Ht D c ∧ works D p y ∧ cFit D p y c) (v := D 16) (fun q => by first | exact q.1.1 h21 | exact h30 q.1.2 | exact h41 q.2))) (by omega)
            · have h41 := zb_n.mp h41
              refine zx_aloadN dL_score_44 rfl rfl ?_
              refine zx_iload dL_score_45 rfl ?_
              refine zy_cv [zi ((k : Nat) : Int)] (fX9_weightOf  hfl hz hB hW (by first | exact hz _ _ | assumption | exact zr_b _ | exact zcmp_r _ _ | exact hzD _ _ | exact zr3 (tS_b hW _) | exact zr3 (lsc_b hW _ _) | exact zr3 (sc_b hW _ _) | exact rkP_zr hW _ | exact scA_zr hW _ _ | exact zr3 (cW_b hW) | exact zr3 (wS_b hW) | (unfold zr at *; omega)) (by first | assumption | omega)) dL_score_47 (by decide) rfl cw_RL_119 okX9_weightOf rfl (Nat.le_of_ble_eq_true rfl) ⟨Nat.le_of_ble_eq_true rfl, Nat.le_of_ble_eq_true rfl, Nat.le_of_ble_eq_true rfl, Nat.le_of_ble_eq_true rfl⟩ ?_
              refine zy_top (b := D 16 k) rfl ?_
              refine zx_goto (tgt := 54) dL_score_50 (by decide) ?_
              refine zx_iadd dL_score_54 ?_
              refine zy_istoreN [zf 9 0, zi ((p : Nat) : Int), zi y, zi (acc + (D 16 k)), zi ((k : Nat) : Int)] dL_score_55 rfl (Nat.le_of_ble_eq_true rfl) (Nat.le_of_ble_eq_true rfl) rfl rfl ?_
              refine zy_iinc (b := ((k + 1 : Nat) : Int)) [zf 9 0, zi ((p : Nat) : Int), zi y, zi (acc + (D 16 k)), zi ((k + 1 : Nat) : Int)] dL_score_56 rfl (by omega) (Nat.le_of_ble_eq_true rfl) rfl rfl ?_
              refine zx_goto (tgt := 5) dL_score_59 (by decide) ?_
              exact ih5 (k + 1) (acc + (D 16 k)) (by first | assumption | omega) (by
                    subst hacc
                    first
                    | exact zsw_t (P := fun c => Ht D c ∧ works D p y ∧ cFit D p y c) (v := D 16) ⟨⟨h21, h30⟩, h41⟩
                    | (rw [Int.add_zero]; exact zsw_f (P := fun c => Ht D c ∧ works D p y ∧ cFit D p y c) (v := D 16) (fun q => by first | exact q.1.1 h21 | exact h30 q.1.2 | exact h41 q.2))) (by omega)
  exact L5 _ 0 0 (by first | assumption | omega) rfl (Nat.lt_succ_self _)
set_option maxRecDepth 20000 in
set_option maxHeartbeats 2000000 in
theorem sL_sum {l : Launch} {w : zW} (hfl : l.stackTraces = false) {σ : zS} {D : zBk}  (hz : zOK σ) (hB : bK σ = D) (hW : WF D) : Sp l w mL_sum 8 0 [zf 9 0] σ (zret (zl (lsum D)) σ) := by
  obtain ⟨Q, hQ⟩ : ∃ Q : zQ, Q = (zret (zl (lsum D)) σ) := ⟨_, rfl⟩
  rw [← hQ]
  refine zx_enter hfl (by decide) rfl 4 rfl ?_
  show zX l w mL_sum (zMQ w 8 0 Q) 0 [zf 9 0, zu, zu, zu, zu] [] 0 σ
  have hzD := hzDof hB hz
  have hn1 : 0 ≤ D 1 0 ∧ D 1 0 ≤ 8 := hW.1.1
  have hn12 : 0 ≤ D 12 0 ∧ D 12 0 ≤ 40 := hW.1.2.2.2
  refine zx_ldc2 (a := 31) dL_sum_0 lk_RL_96 ?_
  refine zx_aloadN dL_sum_3 rfl rfl ?_
  refine zy_cv [] (fX9_clueCount  hfl hz hB hW) dL_sum_4 (by decide) rfl cw_RL_98 okX9_clueCount rfl (Nat.le_of_ble_eq_true rfl) ⟨Nat.le_of_ble_eq_true rfl, Nat.le_of_ble_eq_true rfl, Nat.le_of_ble_eq_true rfl, Nat.le_of_ble_eq_true rfl⟩ ?_
  refine zx_i2l (by first | exact hz _ _ | assumption | exact zr_b _ | exact zcmp_r _ _ | exact hzD _ _ | exact zr3 (tS_b hW _) | exact zr3 (lsc_b hW _ _) | exact zr3 (sc_b hW _ _) | exact rkP_zr hW _ | exact scA_zr hW _ _ | exact zr3 (cW_b hW) | exact zr3 (wS_b hW) | (unfold zr at *; omega)) dL_sum_7 ?_
  refine zx_lmul dL_sum_8 ?_
  refine zx_aloadN dL_sum_9 rfl rfl ?_
  refine zy_cv [] (fX9_countingWeight  hfl hz hB hW) dL_sum_10 (by decide) rfl cw_RL_101 okX9_countingWeight rfl (Nat.le_of_ble_eq_true rfl) ⟨Nat.le_of_ble_eq_true rfl, Nat.le_of_ble_eq_true rfl, Nat.le_of_ble_eq_true rfl, Nat.le_of_ble_eq_true rfl⟩ ?_
  refine zx_i2l (by first | exact hz _ _ | assumption | exact zr_b _ | exact zcmp_r _ _ | exact hzD _ _ | exact zr3 (tS_b hW _) | exact zr3 (lsc_b hW _ _) | exact zr3 (sc_b hW _ _) | exact rkP_zr hW _ | exact scA_zr hW _ _ | exact zr3 (cW_b hW) | exact zr3 (wS_b hW) | (unfold zr at *; omega)) dL_sum_13 ?_
  refine zx_ladd dL_sum_14 ?_
  refine zx_lstoreN [zf 9 0, zl ((31 * (D 12 0)) + (cW D)), zu, zu, zu] dL_sum_15 rfl (Nat.le_of_ble_eq_true rfl) (Nat.le_of_ble_eq_true rfl) rfl rfl ?_
  refine zx_iconst dL_sum_16 ?_
  refine zy_istoreN [zf 9 0, zl ((31 * (D 12 0)) + (cW D)), zu, zi 0, zu] dL_sum_17 rfl (Nat.le_of_ble_eq_true rfl) (Nat.le_of_ble_eq_true rfl) rfl rfl ?_
  have L18 : ∀ (N : Nat) (k : Nat) (acc : Int), ((k : Int) ≤ D 12 0) → (acc = lsA D k) → (41 - k) < N → zX l w mL_sum (zMQ w 8 0 Q) 18 [zf 9 0, zl acc, zu, zi ((k : Nat) : Int), zu] [] 0 σ := by
    intro N
    induction N with
    | zero => intro k acc _ _ _; exact absurd (by assumption) (Nat.not_lt_zero _)
    | succ N ih18 =>
      intro k acc hk_ hacc hN
      refine zx_iloadN dL_sum_18 rfl rfl ?_
      refine zx_aloadN dL_sum_19 rfl rfl ?_
      refine zy_cv [] (fX9_clueCount  hfl hz hB hW) dL_sum_20 (by decide) rfl cw_RL_98 okX9_clueCount rfl (Nat.le_of_ble_eq_true rfl) ⟨Nat.le_of_ble_eq_true rfl, Nat.le_of_ble_eq_true rfl, Nat.le_of_ble_eq_true rfl, Nat.le_of_ble_eq_true rfl⟩ ?_
      refine zx_icmp_ge (tgt := 110) (by first | exact hz _ _ | assumption | exact zr_b _ | exact zcmp_r _ _ | exact hzD _ _ | exact zr3 (tS_b hW _) | exact zr3 (lsc_b hW _ _) | exact zr3 (sc_b hW _ _) | exact rkP_zr hW _ | exact scA_zr hW _ _ | exact zr3 (cW_b hW) | exact zr3 (wS_b hW) | (unfold zr at *; omega)) (by first | exact hz _ _ | assumption | exact zr_b _ | exact zcmp_r _ _ | exact hzD _ _ | exact zr3 (tS_b hW _) | exact zr3 (lsc_b hW _ _) | exact zr3 (sc_b hW _ _) | exact rkP_zr hW _ | exact scA_zr hW _ _ | exact zr3 (cW_b hW) | exact zr3 (wS_b hW) | (unfold zr at *; omega)) dL_sum_23 (by decide) (fun h23 => ?_) (fun h23 => ?_)
      · refine zx_iconst dL_sum_110 ?_
        refine zy_istoreN [zf 9 0, zl acc, zu, zi 0, zu] dL_sum_111 rfl (Nat.le_of_ble_eq_true rfl) (Nat.le_of_ble_eq_true rfl) rfl rfl ?_
        have L112 : ∀ (N : Nat) (p : Nat) (bcc : Int), ((p : Int) ≤ D 1 0) → (bcc = lsP D p) → (9 - p) < N → zX l w mL_sum (zMQ w 8 0 Q) 112 [zf 9 0, zl bcc, zu, zi ((p : Nat) : Int), zu] [] 0 σ := by
          intro N
          induction N with
          | zero => intro p bcc _ _ _; exact absurd (by assumption) (Nat.not_lt_zero _)
          | succ N ih112 =>
            intro p bcc hp_ hbcc hN
            refine zx_iloadN dL_sum_112 rfl rfl ?_
            refine zx_aloadN dL_sum_113 rfl rfl ?_
            refine zy_cv [] (fX9_printerCount  hfl hz hB hW) dL_sum_114 (by decide) rfl cw_RL_133 okX9_printerCount rfl (Nat.le_of_ble_eq_true rfl) ⟨Nat.le_of_ble_eq_true rfl, Nat.le_of_ble_eq_true rfl, Nat.le_of_ble_eq_true rfl, Nat.le_of_ble_eq_true rfl⟩ ?_
            refine zx_icmp_ge (tgt := 165) (by first | exact hz _ _ | assumption | exact zr_b _ | exact zcmp_r _ _ | exact hzD _ _ | exact zr3 (tS_b hW _) | exact zr3 (lsc_b hW _ _) | exact zr3 (sc_b hW _ _) | exact rkP_zr hW _ | exact scA_zr hW _ _ | exact zr3 (cW_b hW) | exact zr3 (wS_b hW) | (unfold zr at *; omega)) (by first | exact hz _ _ | assumption | exact zr_b _ | exact zcmp_r _ _ | exact hzD _ _ | exact zr3 (tS_b hW _) | exact zr3 (lsc_b hW _ _) | exact zr3 (sc_b hW _ _) | exact rkP_zr hW _ | exact scA_zr hW _ _ | exact zr3 (cW_b hW) | exact zr3 (wS_b hW) | (unfold zr at *; omega)) dL_sum_117 (by decide) (fun h117 => ?_) (fun h117 => ?_)
            · refine zx_lloadN dL_sum_165 rfl rfl ?_
              refine zx_lret rfl dL_sum_166 ?_
              rw [hQ]
              refine ⟨congrArg (fun z : Int => (Sum.inl (some (zl z)) : Option zV ⊕ String)) ?_, by first | rfl | (exfalso; omega)⟩
              rw [hbcc, show p = (D 1 0).toNat by omega]; rfl
            · refine zx_iconst dL_sum_120 ?_
              refine zy_istore [zf 9 0, zl bcc, zu, zi ((p : Nat) : Int), zi 0] dL_sum_121 (Nat.le_of_ble_eq_true rfl) (Nat.le_of_ble_eq_true rfl) rfl rfl ?_
              have L123 : ∀ (N : Nat) (d : Nat) (ccc : Int), (d ≤ 8) → (ccc = lsD D p (lsP D p) d) → (9 - d) < N → zX l w mL_sum (zMQ w 8 0 Q) 123 [zf 9 0, zl ccc, zu, zi ((p : Nat) : Int), zi ((d : Nat) : Int)] [] 0 σ := by
                intro N
                induction N with
                | zero => intro d ccc _ _ _; exact absurd (by assumption) (Nat.not_lt_zero _)
                | succ N ih123 =>
                  intro d ccc hd_ hccc hN
                  refine zx_iload dL_sum_123 rfl ?_
                  refine zx_bipush dL_sum_125 rfl ?_
                  refine zx_icmp_ge (tgt := 159) (by first | exact hz _ _ | assumption | exact zr_b _ | exact zcmp_r _ _ | exact hzD _ _ | exact zr3 (tS_b hW _) | exact zr3 (lsc_b hW _ _) | exact zr3 (sc_b hW _ _) | exact rkP_zr hW _ | exact scA_zr hW _ _ | exact zr3 (cW_b hW) | exact zr3 (wS_b hW) | (unfold zr at *; omega)) (by first | exact hz _ _ | assumption | exact zr_b _ | exact zcmp_r _ _ | exact hzD _ _ | exact zr3 (tS_b hW _) | exact zr3 (lsc_b hW _ _) | exact zr3 (sc_b hW _ _) | exact rkP_zr hW _ | exact scA_zr hW _ _ | exact zr3 (cW_b hW) | exact zr3 (wS_b hW) | (unfold zr at *; omega)) dL_sum_127 (by decide) (fun h127 => ?_) (fun h127 => ?_)
                  · refine zy_iinc (b := ((p + 1 : Nat) : Int)) [zf 9 0, zl ccc, zu, zi ((p + 1 : Nat) : Int), zi ((d : Nat) : Int)] dL_sum_159 rfl (by omega) (Nat.le_of_ble_eq_true rfl) rfl rfl ?_
                    refine zx_goto (tgt := 112) dL_sum_162 (by decide) ?_
                    refine zy_drop 4 [zf 9 0, zl ccc, zu, zi ((p + 1 : Nat) : Int), zu] rfl ?_
                    exact ih112 (p + 1) ccc (by omega) (by rw [hccc, show d = 8 by omega]; rfl) (by omega)
                  · refine zx_ldc2 (a := 31) dL_sum_130 lk_RL_96 ?_
                    refine zx_lloadN dL_sum_133 rfl rfl ?_
                    refine zx_lmul dL_sum_134 ?_
                    refine zx_aloadN dL_sum_135 rfl rfl ?_
                    refine zx_iloadN dL_sum_136 rfl rfl ?_
                    refine zx_iload dL_sum_137 rfl ?_
                    refine zy_cv [zi ((p : Nat) : Int), zi ((d : Nat) : Int)] (fX9_hasDevice  hfl hz hB hW (by first | exact hz _ _ | assumption | exact zr_b _ | exact zcmp_r _ _ | exact hzD _ _ | exact zr3 (tS_b hW _) | exact zr3 (lsc_b hW _ _) | exact zr3 (sc_b hW _ _) | exact rkP_zr hW _ | exact scA_zr hW _ _ | exact zr3 (cW_b hW) | exact zr3 (wS_b hW) | (unfold zr at *; omega)) (by first | exact hz _ _ | assumption | exact zr_b _ | exact zcmp_r _ _ | exact hzD _ _ | exact zr3 (tS_b hW _) | exact zr3 (lsc_b hW _ _) | exact zr3 (sc_b hW _ _) | exact rkP_zr hW _ | exact scA_zr hW _ _ | exact zr3 (cW_b hW) | exact zr3 (wS_b hW) | (unfold zr at *; omega)) (by first | assumption | omega)) dL_sum_139 (by decide) rfl cw_RL_136 okX9_hasDevice rfl (Nat.le_of_ble_eq_true rfl) ⟨Nat.le_of_ble_eq_true rfl, Nat.le_of_ble_eq_true rfl, Nat.le_of_ble_eq_true rfl, Nat.le_of_ble_eq_true rfl⟩ ?_
                    refine zy_top (b := zb (hasDev D p ((d : Nat) : Int))) rfl ?_
                    refine zx_if_eq (tgt := 149) (by first | exact hz _ _ | assumption | exact zr_b _ | exact zcmp_r _ _ | exact hzD _ _ | exact zr3 (tS_b hW _) | exact zr3 (lsc_b hW _ _) | exact zr3 (sc_b hW _ _) | exact rkP_zr hW _ | exact scA_zr hW _ _ | exact zr3 (cW_b hW) | exact zr3 (wS_b hW) | (unfold zr at *; omega)) dL_sum_142 (by decide) (fun h142 => ?_) (fun h142 => ?_)
                    · have h142 := zb_0.mp h142
                      refine zx_iconst dL_sum_149 ?_
                      refine zx_i2l (by first | exact hz _ _ | assumption | exact zr_b _ | exact zcmp_r _ _ | exact hzD _ _ | exact zr3 (tS_b hW _) | exact zr3 (lsc_b hW _ _) | exact zr3 (sc_b hW _ _) | exact rkP_zr hW _ | exact scA_zr hW _ _ | exact zr3 (cW_b hW) | exact zr3 (wS_b hW) | (unfold zr at *; omega)) dL_sum_150 ?_
                      refine zx_ladd dL_sum_151 ?_
                      refine zx_lstoreN [zf 9 0, zl ((31 * ccc) + 0), zu, zi ((p : Nat) : Int), zi ((d : Nat) : Int)] dL_sum_152 rfl (Nat.le_of_ble_eq_true rfl) (Nat.le_of_ble_eq_true rfl) rfl rfl ?_
                      refine zy_iinc (b := ((d + 1 : Nat) : Int)) [zf 9 0, zl ((31 * ccc) + 0), zu, zi ((p : Nat) : Int), zi ((d + 1 : Nat) : Int)] dL_sum_153 rfl (by omega) (Nat.le_of_ble_eq_true rfl) rfl rfl ?_
                      refine zx_goto (tgt := 123) dL_sum_156 (by decide) ?_
                      exact ih123 (d + 1) ((31 * ccc) + 0) (by omega) (by
                            subst hccc
                            rw [lsD_s]
                            first | rw [zb_t h142] | rw [zb_f h142]) (by omega)
                    · have h142 := zb_n.mp h142
                      refine zx_iconst dL_sum_145 ?_
                      refine zx_goto (tgt := 150) dL_sum_146 (by decide) ?_
                      refine zx_i2l (by first | exact hz _ _ | assumption | exact zr_b _ | exact zcmp_r _ _ | exact hzD _ _ | exact zr3 (tS_b hW _) | exact zr3 (lsc_b hW _ _) | exact zr3 (sc_b hW _ _) | exact rkP_zr hW _ | exact scA_zr hW _ _ | exact zr3 (cW_b hW) | exact zr3 (wS_b hW) | (unfold zr at *; omega)) dL_sum_150 ?_
                      refine zx_ladd dL_sum_151 ?_
                      refine zx_lstoreN [zf 9 0, zl ((31 * ccc) + 1), zu, zi ((p : Nat) : Int), zi ((d : Nat) : Int)] dL_sum_152 rfl (Nat.le_of_ble_eq_true rfl) (Nat.le_of_ble_eq_true rfl) rfl rfl ?_
                      refine zy_iinc (b := ((d + 1 : Nat) : Int)) [zf 9 0, zl ((31 * ccc) + 1), zu, zi ((p : Nat) : Int), zi ((d + 1 : Nat) : Int)] dL_sum_153 rfl (by omega) (Nat.le_of_ble_eq_true rfl) rfl rfl ?_
                      refine zx_goto (tgt := 123) dL_sum_156 (by decide) ?_
                      exact ih123 (d + 1) ((31 * ccc) + 1) (by omega) (by
                            subst hccc
                            rw [lsD_s]
                            first | rw [zb_t h142] | rw [zb_f h142]) (by omega)
              exact L123 _ 0 bcc (by omega) hbcc (Nat.lt_succ_self _)
        exact L112 _ 0 acc (by omega) (by rw [hacc, show k = (D 12 0).toNat by omega]; rfl) (Nat.lt_succ_self _)
      · refine zx_ldc2 (a := 31) dL_sum_26 lk_RL_96 ?_
        refine zx_lloadN dL_sum_29 rfl rfl ?_
        refine zx_lmul dL_sum_30 ?_
        refine zx_aloadN dL_sum_31 rfl rfl ?_
        refine zx_iloadN dL_sum_32 rfl rfl ?_
        refine zy_cv [zi ((k : Nat) : Int)] (fX9_pageOf  hfl hz hB hW (by first | exact hz _ _ | assumption | exact zr_b _ | exact zcmp_r _ _ | exact hzD _ _ | exact zr3 (tS_b hW _) | exact zr3 (lsc_b hW _ _) | exact zr3 (sc_b hW _ _) | exact rkP_zr hW _ | exact scA_zr hW _ _ | exact zr3 (cW_b hW) | exact zr3 (wS_b hW) | (unfold zr at *; omega)) (by first | assumption | omega)) dL_sum_33 (by decide) rfl cw_RL_104 okX9_pageOf rfl (Nat.le_of_ble_eq_true rfl) ⟨Nat.le_of_ble_eq_true rfl, Nat.le_of_ble_eq_true rfl, Nat.le_of_ble_eq_true rfl, Nat.le_of_ble_eq_true rfl⟩ ?_
        refine zy_top (b := D 13 k) rfl ?_
        refine zx_i2l (by first | exact hz _ _ | assumption | exact zr_b _ | exact zcmp_r _ _ | exact hzD _ _ | exact zr3 (tS_b hW _) | exact zr3 (lsc_b hW _ _) | exact zr3 (sc_b hW _ _) | exact rkP_zr hW _ | exact scA_zr hW _ _ | exact zr3 (cW_b hW) | exact zr3 (wS_b hW) | (unfold zr at *; omega)) dL_sum_36 ?_
        refine zx_ladd dL_sum_37 ?_
        refine zx_ldc2 (a := 7) dL_sum_38 lk_RL_107 ?_
        refine zx_aloadN dL_sum_41 rfl rfl ?_
        refine zx_iloadN dL_sum_42 rfl rfl ?_
        refine zy_cv [zi ((k : Nat) : Int)] (fX9_kindOf  hfl hz hB hW (by first | exact hz _ _ | assumption | exact zr_b _ | exact zcmp_r _ _ | exact hzD _ _ | exact zr3 (tS_b hW _) | exact zr3 (lsc_b hW _ _) | exact zr3 (sc_b hW _ _) | exact rkP_zr hW _ | exact scA_zr hW _ _ | exact zr3 (cW_b hW) | exact zr3 (wS_b hW) | (unfold zr at *; omega)) (by first | assumption | omega)) dL_sum_43 (by decide) rfl cw_RL_109 okX9_kindOf rfl (Nat.le_of_ble_eq_true rfl) ⟨Nat.le_of_ble_eq_true rfl, Nat.le_of_ble_eq_true rfl, Nat.le_of_ble_eq_true rfl, Nat.le_of_ble_eq_true rfl⟩ ?_
        refine zy_top (b := D 14 k) rfl ?_
        refine zx_i2l (by first | exact hz _ _ | assumption | exact zr_b _ | exact zcmp_r _ _ | exact hzD _ _ | exact zr3 (tS_b hW _) | exact zr3 (lsc_b hW _ _) | exact zr3 (sc_b hW _ _) | exact rkP_zr hW _ | exact scA_zr hW _ _ | exact zr3 (cW_b hW) | exact zr3 (wS_b hW) | (unfold zr at *; omega)) dL_sum_46 ?_
        refine zx_lmul dL_sum_47 ?_
        refine zx_ladd dL_sum_48 ?_
        refine zx_ldc2 (a := 11) dL_sum_49 lk_RL_112 ?_
        refine zx_aloadN dL_sum_52 rfl rfl ?_
        refine zx_iloadN dL_sum_53 rfl rfl ?_
        refine zy_cv [zi ((k : Nat) : Int)] (fX9_valueOf  hfl hz hB hW (by first | exact hz _ _ | assumption | exact zr_b _ | exact zcmp_r _ _ | exact hzD _ _ | exact zr3 (tS_b hW _) | exact zr3 (lsc_b hW _ _) | exact zr3 (sc_b hW _ _) | exact rkP_zr hW _ | exact scA_zr hW _ _ | exact zr3 (cW_b hW) | exact zr3 (wS_b hW) | (unfold zr at *; omega)) (by first | assumption | omega)) dL_sum_54 (by decide) rfl cw_RL_114 okX9_valueOf rfl (Nat.le_of_ble_eq_true rfl) ⟨Nat.le_of_ble_eq_true rfl, Nat.le_of_ble_eq_true rfl, Nat.le_of_ble_eq_true rfl, Nat.le_of_ble_eq_true rfl⟩ ?_
        refine zy_top (b := D 15 k) rfl ?_
        refine zx_i2l (by first | exact hz _ _ | assumption | exact zr_b _ | exact zcmp_r _ _ | exact hzD _ _ | exact zr3 (tS_b hW _) | exact zr3 (lsc_b hW _ _) | exact zr3 (sc_b hW _ _) | exact rkP_zr hW _ | exact scA_zr hW _ _ | exact zr3 (cW_b hW) | exact zr3 (wS_b hW) | (unfold zr at *; omega)) dL_sum_57 ?_
        refine zx_lmul dL_sum_58 ?_
        refine zx_ladd dL_sum_59 ?_
        refine zx_ldc2 (a := 13) dL_sum_60 lk_RL_117 ?_
        refine zx_aloadN dL_sum_63 rfl rfl ?_
        refine zx_iloadN dL_sum_64 rfl rfl ?_
        refine zy_cv [zi ((k : Nat) : Int)] (fX9_weightOf  hfl hz hB hW (by first | exact hz _ _ | assumption | exact zr_b _ | exact zcmp_r _ _ | exact hzD _ _ | exact zr3 (tS_b hW _) | exact zr3 (lsc_b hW _ _) | exact zr3 (sc_b hW _ _) | exact rkP_zr hW _ | exact scA_zr hW _ _ | exact zr3 (cW_b hW) | exact zr3 (wS_b hW) | (unfold zr at *; omega)) (by first | assumption | omega)) dL_sum_65 (by decide) rfl cw_RL_119 okX9_weightOf rfl (Nat.le_of_ble_eq_true rfl) ⟨Nat.le_of_ble_eq_true rfl, Nat.le_of_ble_eq_true rfl, Nat.le_of_ble_eq_true rfl, Nat.le_of_ble_eq_true rfl⟩ ?_
        refine zy_top (b := D 16 k) rfl ?_
        refine zx_i2l (by first | exact hz _ _ | assumption | exact zr_b _ | exact zcmp_r _ _ | exact hzD _ _ | exact zr3 (tS_b hW _) | exact zr3 (lsc_b hW _ _) | exact zr3 (sc_b hW _ _) | exact rkP_zr hW _ | exact scA_zr hW _ _ | exact zr3 (cW_b hW) | exact zr3 (wS_b hW) | (unfold zr at *; omega)) dL_sum_68 ?_
        refine zx_lmul dL_sum_69 ?_
        refine zx_ladd dL_sum_70 ?_
        refine zx_aloadN dL_sum_71 rfl rfl ?_
        refine zx_iloadN dL_sum_72 rfl rfl ?_
        refine zy_cv [zi ((k : Nat) : Int)] (fX9_isRead  hfl hz hB hW (by first | exact hz _ _ | assumption | exact zr_b _ | exact zcmp_r _ _ | exact hzD _ _ | exact zr3 (tS_b hW _) | exact zr3 (lsc_b hW _ _) | exact zr3 (sc_b hW _ _) | exact rkP_zr hW _ | exact scA_zr hW _ _ | exact zr3 (cW_b hW) | exact zr3 (wS_b hW) | (unfold zr at *; omega)) (by first | assumption | omega)) dL_sum_73 (by decide) rfl cw_RL_122 okX9_isRead rfl (Nat.le_of_ble_eq_true rfl) ⟨Nat.le_of_ble_eq_true rfl, Nat.le_of_ble_eq_true rfl, Nat.le_of_ble_eq_true rfl, Nat.le_of_ble_eq_true rfl⟩ ?_
        refine zy_top (b := D 17 k) rfl ?_
        refine zx_if_eq (tgt := 85) (by first | exact hz _ _ | assumption | exact zr_b _ | exact zcmp_r _ _ | exact hzD _ _ | exact zr3 (tS_b hW _) | exact zr3 (lsc_b hW _ _) | exact zr3 (sc_b hW _ _) | exact rkP_zr hW _ | exact scA_zr hW _ _ | exact zr3 (cW_b hW) | exact zr3 (wS_b hW) | (unfold zr at *; omega)) dL_sum_76 (by decide) (fun h76 => ?_) (fun h76 => ?_)
        · refine zx_lconst (a := 0) dL_sum_85 rfl ?_
          refine zx_ladd dL_sum_86 ?_
          refine zx_aloadN dL_sum_87 rfl rfl ?_
          refine zx_iloadN dL_sum_88 rfl rfl ?_
          refine zy_cv [zi ((k : Nat) : Int)] (fX9_isAside  hfl hz hB hW (by first | exact hz _ _ | assumption | exact zr_b _ | exact zcmp_r _ _ | exact hzD _ _ | exact zr3 (tS_b hW _) | exact zr3 (lsc_b hW _ _) | exact zr3 (sc_b hW _ _) | exact rkP_zr hW _ | exact scA_zr hW _ _ | exact zr3 (cW_b hW) | exact zr3 (wS_b hW) | (unfold zr at *; omega)) (by first | assumption | omega)) dL_sum_89 (by decide) rfl cw_RL_128 okX9_isAside rfl (Nat.le_of_ble_eq_true rfl) ⟨Nat.le_of_ble_eq_true rfl, Nat.le_of_ble_eq_true rfl, Nat.le_of_ble_eq_true rfl, Nat.le_of_ble_eq_true rfl⟩ ?_
          refine zy_top (b := D 18 k) rfl ?_
          refine zx_if_eq (tgt := 101) (by first | exact hz _ _ | assumption | exact zr_b _ | exact zcmp_r _ _ | exact hzD _ _ | exact zr3 (tS_b hW _) | exact zr3 (lsc_b hW _ _) | exact zr3 (sc_b hW _ _) | exact rkP_zr hW _ | exact scA_zr hW _ _ | exact zr3 (cW_b hW) | exact zr3 (wS_b hW) | (unfold zr at *; omega)) dL_sum_92 (by decide) (fun h92 => ?_) (fun h92 => ?_)
          · refine zx_lconst (a := 0) dL_sum_101 rfl ?_
            refine zx_ladd dL_sum_102 ?_
            refine zx_lstoreN [zf 9 0, zl (((((((31 * acc) + (D 13 k)) + (7 * (D 14 k))) + (11 * (D 15 k))) + (13 * (D 16 k))) + 0) + 0), zu, zi ((k : Nat) : Int), zu] dL_sum_103 rfl (Nat.le_of_ble_eq_true rfl) (Nat.le_of_ble_eq_true rfl) rfl rfl ?_
            refine zy_iinc (b := ((k + 1 : Nat) : Int)) [zf 9 0, zl (((((((31 * acc) + (D 13 k)) + (7 * (D 14 k))) + (11 * (D 15 k))) + (13 * (D 16 k))) + 0) + 0), zu, zi ((k + 1 : Nat) : Int), zu] dL_sum_104 rfl (by omega) (Nat.le_of_ble_eq_true rfl) rfl rfl ?_
            refine zx_goto (tgt := 18) dL_sum_107 (by decide) ?_
            exact ih18 (k + 1) (((((((31 * acc) + (D 13 k)) + (7 * (D 14 k))) + (11 * (D 15 k))) + (13 * (D 16 k))) + 0) + 0) (by first | assumption | omega) (by
                  subst hacc
                  rw [lsA_s]
                  first | rw [if_pos h76, if_pos h92] | rw [if_pos h76, if_neg h92] | rw [if_neg h76, if_pos h92] | rw [if_neg h76, if_neg h92]) (by omega)
          · refine zx_ldc2 (a := 19) dL_sum_95 lk_RL_131 ?_
            refine zx_goto (tgt := 102) dL_sum_98 (by decide) ?_
            refine zx_ladd dL_sum_102 ?_
            refine zx_lstoreN [zf 9 0, zl (((((((31 * acc) + (D 13 k)) + (7 * (D 14 k))) + (11 * (D 15 k))) + (13 * (D 16 k))) + 0) + 19), zu, zi ((k : Nat) : Int), zu] dL_sum_103 rfl (Nat.le_of_ble_eq_true rfl) (Nat.le_of_ble_eq_true rfl) rfl rfl ?_
            refine zy_iinc (b := ((k + 1 : Nat) : Int)) [zf 9 0, zl (((((((31 * acc) + (D 13 k)) + (7 * (D 14 k))) + (11 * (D 15 k))) + (13 * (D 16 k))) + 0) + 19), zu, zi ((k + 1 : Nat) : Int), zu] dL_sum_104 rfl (by omega) (Nat.le_of_ble_eq_true rfl) rfl rfl ?_
            refine zx_goto (tgt := 18) dL_sum_107 (by decide) ?_
            exact ih18 (k + 1) (((((((31 * acc) + (D 13 k)) + (7 * (D 14 k))) + (11 * (D 15 k))) + (13 * (D 16 k))) + 0) + 19) (by first | assumption | omega) (by
                  subst hacc
                  rw [lsA_s]
                  first | rw [if_pos h76, if_pos h92] | rw [if_pos h76, if_neg h92] | rw [if_neg h76, if_pos h92] | rw [if_neg h76, if_neg h92]) (by omega)
        · refine zx_ldc2 (a := 17) dL_sum_79 lk_RL_126 ?_
          refine zx_goto (tgt := 86) dL_sum_82 (by decide) ?_
          refine zx_ladd dL_sum_86 ?_
          refine zx_aloadN dL_sum_87 rfl rfl ?_
          refine zx_iloadN dL_sum_88 rfl rfl ?_
          refine zy_cv [zi ((k : Nat) : Int)] (fX9_isAside  hfl hz hB hW (by first | exact hz _ _ | assumption | exact zr_b _ | exact zcmp_r _ _ | exact hzD _ _ | exact zr3 (tS_b hW _) | exact zr3 (lsc_b hW _ _) | exact zr3 (sc_b hW _ _) | exact rkP_zr hW _ | exact scA_zr hW _ _ | exact zr3 (cW_b hW) | exact zr3 (wS_b hW) | (unfold zr at *; omega)) (by first | assumption | omega)) dL_sum_89 (by decide) rfl cw_RL_128 okX9_isAside rfl (Nat.le_of_ble_eq_true rfl) ⟨Nat.le_of_ble_eq_true rfl, Nat.le_of_ble_eq_true rfl, Nat.le_of_ble_eq_true rfl, Nat.le_of_ble_eq_true rfl⟩ ?_
          refine zy_top (b := D 18 k) rfl ?_
          refine zx_if_eq (tgt := 101) (by first | exact hz _ _ | assumption | exact zr_b _ | exact zcmp_r _ _ | exact hzD _ _ | exact zr3 (tS_b hW _) | exact zr3 (lsc_b hW _ _) | exact zr3 (sc_b hW _ _) | exact rkP_zr hW _ | exact scA_zr hW _ _ | exact zr3 (cW_b hW) | exact zr3 (wS_b hW) | (unfold zr at *; omega)) dL_sum_92 (by decide) (fun h92 => ?_) (fun h92 => ?_)
          · refine zx_lconst (a := 0) dL_sum_101 rfl ?_
            refine zx_ladd dL_sum_102 ?_
            refine zx_lstoreN [zf 9 0, zl (((((((31 * acc) + (D 13 k)) + (7 * (D 14 k))) + (11 * (D 15 k))) + (13 * (D 16 k))) + 17) + 0), zu, zi ((k : Nat) : Int), zu] dL_sum_103 rfl (Nat.le_of_ble_eq_true rfl) (Nat.le_of_ble_eq_true rfl) rfl rfl ?_
            refine zy_iinc (b := ((k + 1 : Nat) : Int)) [zf 9 0, zl (((((((31 * acc) + (D 13 k)) + (7 * (D 14 k))) + (11 * (D 15 k))) + (13 * (D 16 k))) + 17) + 0), zu, zi ((k + 1 : Nat) : Int), zu] dL_sum_104 rfl (by omega) (Nat.le_of_ble_eq_true rfl) rfl rfl ?_
            refine zx_goto (tgt := 18) dL_sum_107 (by decide) ?_
            exact ih18 (k + 1) (((((((31 * acc) + (D 13 k)) + (7 * (D 14 k))) + (11 * (D 15 k))) + (13 * (D 16 k))) + 17) + 0) (by first | assumption | omega) (by
                  subst hacc
                  rw [lsA_s]
                  first | rw [if_pos h76, if_pos h92] | rw [if_pos h76, if_neg h92] | rw [if_neg h76, if_pos h92] | rw [if_neg h76, if_neg h92]) (by omega)
          · refine zx_ldc2 (a := 19) dL_sum_95 lk_RL_131 ?_
            refine zx_goto (tgt := 102) dL_sum_98 (by decide) ?_
            refine zx_ladd dL_sum_102 ?_
            refine zx_lstoreN [zf 9 0, zl (((((((31 * acc) + (D 13 k)) + (7 * (D 14 k))) + (11 * (D 15 k))) + (13 * (D 16 k))) + 17) + 19), zu, zi ((k : Nat) : Int), zu] dL_sum_103 rfl (Nat.le_of_ble_eq_true rfl) (Nat.le_of_ble_eq_true rfl) rfl rfl ?_
            refine zy_iinc (b := ((k + 1 : Nat) : Int)) [zf 9 0, zl (((((((31 * acc) + (D 13 k)) + (7 * (D 14 k))) + (11 * (D 15 k))) + (13 * (D 16 k))) + 17) + 19), zu, zi ((k + 1 : Nat) : Int), zu] dL_sum_104 rfl (by omega) (Nat.le_of_ble_eq_true rfl) rfl rfl ?_
            refine zx_goto (tgt := 18) dL_sum_107 (by decide) ?_
            exact ih18 (k + 1) (((((((31 * acc) + (D 13 k)) + (7 * (D 14 k))) + (11 * (D 15 k))) + (13 * (D 16 k))) + 17) + 19) (by first | assumption | omega) (by
                  subst hacc
                  rw [lsA_s]
                  first | rw [if_pos h76, if_pos h92] | rw [if_pos h76, if_neg h92] | rw [if_neg h76, if_pos h92] | rw [if_neg h76, if_neg h92]) (by omega)
  exact L18 _ 0 ((31 * (D 12 0)) + (cW D)) (by first | assumption | omega) rfl (Nat.lt_succ_self _)
set_option maxRecDepth 20000 in
set_option maxHeartbeats 2000000 in
theorem sL_isPrinter {l : Launch} {w : zW} (hfl : l.stackTraces = false) {σ : zS} {D : zBk} {p : Nat} {z : Int} (hz : zOK σ) (hB : bK σ = D) (hW : WF D) (hP1 : 1 ≤ D 1 0) (hY : ∀ p : Nat, (p : Int) < D 1 0 → 1500 ≤ D 4 p ∧ D 5 p ≤ 1549) (hp : (p : Int) < D 1 0) (hzz : 0 ≤ z ∧ z ≤ 99999) : Sp l w mL_isPrinter 9 0 [zf 9 0, zi ((p : Nat) : Int), zi z] σ (zqv (some (zi 1)) (fun τ => zOK τ ∧ zSame (fun q => 252 ≤ q ∧ q ≤ 258) σ τ ∧ bK τ = D)) := by
  obtain ⟨Q, hQ⟩ : ∃ Q : zQ, Q = (zqv (some (zi 1)) (fun τ => zOK τ ∧ zSame (fun q => 252 ≤ q ∧ q ≤ 258) σ τ ∧ bK τ = D)) := ⟨_, rfl⟩
  rw [← hQ]
  refine zx_enter hfl (by decide) rfl 5 rfl ?_
  show zX l w mL_isPrinter (zMQ w 9 0 Q) 0 [zf 9 0, zi ((p : Nat) : Int), zi z, zu, zu, zu, zu, zu] [] 0 σ
  have hzD := hzDof hB hz
  have hn1 : 0 ≤ D 1 0 ∧ D 1 0 ≤ 8 := hW.1.1
  have hn12 : 0 ≤ D 12 0 ∧ D 12 0 ≤ 40 := hW.1.2.2.2
  have hyr := (hW.2.1 p hp).2
  have hyp := hY p hp
  have hRb := tR_b (H := Ht D) hW hp
  have hact : works D p (1450 + ((tR D (Ht D) p : Nat) : Int)) := hRb
  have hNb := tN_b (H := Ht D) hW hp
  have hsc : lsc D p (1450 + ((tR D (Ht D) p : Nat) : Int)) = tS D (Ht D) p := lsc_sc hact rfl
  refine zx_aloadN dL_isPrinter_0 rfl rfl ?_
  refine zx_iloadN dL_isPrinter_1 rfl rfl ?_
  refine zy_cvR [zi ((p : Nat) : Int)] (fX9_bestYear  hfl hz hB hW hP1 (by first | exact hz _ _ | assumption | exact zr_b _ | exact zcmp_r _ _ | exact hzD _ _ | exact zr3 (tS_b hW _) | exact zr3 (lsc_b hW _ _) | exact zr3 (sc_b hW _ _) | exact rkP_zr hW _ | exact scA_zr hW _ _ | exact zr3 (cW_b hW) | exact zr3 (wS_b hW) | (unfold zr at *; omega)) (by first | assumption | omega)) dL_isPrinter_2 (by decide) rfl cw_RL_144 okX9_bestYear rfl (Nat.le_of_ble_eq_true rfl) ⟨Nat.le_of_ble_eq_true rfl, Nat.le_of_ble_eq_true rfl, Nat.le_of_ble_eq_true rfl, Nat.le_of_ble_eq_true rfl⟩ (fun τ2 hr2 => ?_)
  refine zy_top (b := 1450 + ((tR D (Ht D) p : Nat) : Int)) rfl ?_
  have hz2 : zOK τ2 := hr2.1
  refine zy_istoreN [zf 9 0, zi ((p : Nat) : Int), zi z, zi (1450 + ((tR D (Ht D) p : Nat) : Int)), zu, zu, zu, zu] dL_isPrinter_5 rfl (Nat.le_of_ble_eq_true rfl) (Nat.le_of_ble_eq_true rfl) rfl rfl ?_
  refine zx_aloadN dL_isPrinter_6 rfl rfl ?_
  refine zx_iloadN dL_isPrinter_7 rfl rfl ?_
  refine zy_cvR [zi ((p : Nat) : Int)] (fX9_bestScore  hfl hz2 hr2.2.2 hW hP1 (by first | exact hz2 _ _ | assumption | exact zr_b _ | exact zcmp_r _ _ | exact hzD _ _ | exact zr3 (tS_b hW _) | exact zr3 (lsc_b hW _ _) | exact zr3 (sc_b hW _ _) | exact rkP_zr hW _ | exact scA_zr hW _ _ | exact zr3 (cW_b hW) | exact zr3 (wS_b hW) | (unfold zr at *; omega)) (by first | assumption | omega)) dL_isPrinter_8 (by decide) rfl cw_RL_147 okX9_bestScore rfl (Nat.le_of_ble_eq_true rfl) ⟨Nat.le_of_ble_eq_true rfl, Nat.le_of_ble_eq_true rfl, Nat.le_of_ble_eq_true rfl, Nat.le_of_ble_eq_true rfl⟩ (fun τ8 hr8 => ?_)
  refine zy_top (b := tS D (Ht D) p) rfl ?_
  have hz8 : zOK τ8 := hr8.1
  refine zy_istore [zf 9 0, zi ((p : Nat) : Int), zi z, zi (1450 + ((tR D (Ht D) p : Nat) : Int)), zi (tS D (Ht D) p), zu, zu, zu] dL_isPrinter_11 (Nat.le_of_ble_eq_true rfl) (Nat.le_of_ble_eq_true rfl) rfl rfl ?_
  refine zx_iconst dL_isPrinter_13 ?_
  refine zy_istore [zf 9 0, zi ((p : Nat) : Int), zi z, zi (1450 + ((tR D (Ht D) p : Nat) : Int)), zi (tS D (Ht D) p), zi 0, zu, zu] dL_isPrinter_14 (Nat.le_of_ble_eq_true rfl) (Nat.le_of_ble_eq_true rfl) rfl rfl ?_
  refine zx_aloadN dL_isPrinter_16 rfl rfl ?_
  refine zx_iloadN dL_isPrinter_17 rfl rfl ?_
  refine zx_iloadN dL_isPrinter_18 rfl rfl ?_
  refine zy_cv [zi ((p : Nat) : Int), zi (1450 + ((tR D (Ht D) p : Nat) : Int))] (fX9_isActive  hfl hz8 hr8.2.2 hW (by first | exact hz8 _ _ | assumption | exact zr_b _ | exact zcmp_r _ _ | exact hzD _ _ | exact zr3 (tS_b hW _) | exact zr3 (lsc_b hW _ _) | exact zr3 (sc_b hW _ _) | exact rkP_zr hW _ | exact scA_zr hW _ _ | exact zr3 (cW_b hW) | exact zr3 (wS_b hW) | (unfold zr at *; omega)) (by first | exact hz8 _ _ | assumption | exact zr_b _ | exact zcmp_r _ _ | exact hzD _ _ | exact zr3 (tS_b hW _) | exact zr3 (lsc_b hW _ _) | exact zr3 (sc_b hW _ _) | exact rkP_zr hW _ | exact scA_zr hW _ _ | exact zr3 (cW_b hW) | exact zr3 (wS_b hW) | (unfold zr at *; omega)) (by first | assumption | omega) (by first | assumption | omega)) dL_isPrinter_19 (by decide) rfl cw_RL_150 okX9_isActive rfl (Nat.le_of_ble_eq_true rfl) ⟨Nat.le_of_ble_eq_true rfl, Nat.le_of_ble_eq_true rfl, Nat.le_of_ble_eq_true rfl, Nat.le_of_ble_eq_true rfl⟩ ?_
  refine zy_top (b := zb (works D p (1450 + ((tR D (Ht D) p : Nat) : Int)))) rfl ?_
  refine zx_if_eq (tgt := 36) (by first | exact hz8 _ _ | assumption | exact zr_b _ | exact zcmp_r _ _ | exact hzD _ _ | exact zr3 (tS_b hW _) | exact zr3 (lsc_b hW _ _) | exact zr3 (sc_b hW _ _) | exact rkP_zr hW _ | exact scA_zr hW _ _ | exact zr3 (cW_b hW) | exact zr3 (wS_b hW) | (unfold zr at *; omega)) dL_isPrinter_22 (by decide) (fun h22 => ?_) (fun h22 => ?_)
  · have h22 := zb_0.mp h22
    exfalso; first | exact h22 hact | exact h33 hsc
  · have h22 := zb_n.mp h22
    refine zx_aloadN dL_isPrinter_25 rfl rfl ?_
    refine zx_iloadN dL_isPrinter_26 rfl rfl ?_
    refine zx_iloadN dL_isPrinter_27 rfl rfl ?_
    refine zy_cs [zf 9 0, zi ((p : Nat) : Int), zi (1450 + ((tR D (Ht D) p : Nat) : Int))] (sL_score  hfl hz8 hr8.2.2 hW (by first | assumption | omega) (by first | assumption | omega)) dL_isPrinter_28 cw_RL_153 okL_score rfl (Nat.le_of_ble_eq_true rfl) ⟨Nat.le_of_ble_eq_true rfl, Nat.le_of_ble_eq_true rfl, Nat.le_of_ble_eq_true rfl, Nat.le_of_ble_eq_true rfl⟩ ?_
    refine zx_iload dL_isPrinter_31 rfl ?_
    refine zx_icmp_eq (tgt := 38) (by first | exact hz8 _ _ | assumption | exact zr_b _ | exact zcmp_r _ _ | exact hzD _ _ | exact zr3 (tS_b hW _) | exact zr3 (lsc_b hW _ _) | exact zr3 (sc_b hW _ _) | exact rkP_zr hW _ | exact scA_zr hW _ _ | exact zr3 (cW_b hW) | exact zr3 (wS_b hW) | (unfold zr at *; omega)) (by first | exact hz8 _ _ | assumption | exact zr_b _ | exact zcmp_r _ _ | exact hzD _ _ | exact zr3 (tS_b hW _) | exact zr3 (lsc_b hW _ _) | exact zr3 (sc_b hW _ _) | exact rkP_zr hW _ | exact scA_zr hW _ _ | exact zr3 (cW_b hW) | exact zr3 (wS_b hW) | (unfold zr at *; omega)) dL_isPrinter_33 (by decide) (fun h33 => ?_) (fun h33 => ?_)
    · refine zx_sipush dL_isPrinter_38 rfl ?_
      refine zy_istore [zf 9 0, zi ((p : Nat) : Int), zi z, zi (1450 + ((tR D (Ht D) p : Nat) : Int)), zi (tS D (Ht D) p), zi 0, zi 1500, zu] dL_isPrinter_41 (Nat.le_of_ble_eq_true rfl) (Nat.le_of_ble_eq_true rfl) rfl rfl ?_
      have L43 : ∀ (N : Nat) (r : Nat) (y : Int) (acc : Int), (y = 1500 + (r : Int) ∧ r ≤ 50) → (acc = zs (fun i => zb (works D p (1500 + (i : Int)) ∧ sc D (Ht D) p (50 + i) = tS D (Ht D) p)) r) → (51 - r) < N → zX l w mL_isPrinter (zMQ w 9 0 Q) 43 [zf 9 0, zi ((p : Nat) : Int), zi z, zi (1450 + ((tR D (Ht D) p : Nat) : Int)), zi (tS D (Ht D) p), zi acc, zi y, zu] [] 0 τ8 := by
        intro N
        induction N with
        | zero => intro r y acc _ _ _; exact absurd (by assumption) (Nat.not_lt_zero _)
        | succ N ih43 =>
          intro r y acc hy hacc hN
          have hab := zsb_le (fun i => works D p (1500 + (i : Int)) ∧ sc D (Ht D) p (50 + i) = tS D (Ht D) p) r
          refine zx_iload dL_isPrinter_43 rfl ?_
          refine zx_sipush dL_isPrinter_45 rfl ?_
          refine zx_icmp_ge (tgt := 155) (by first | exact hz8 _ _ | assumption | exact zr_b _ | exact zcmp_r _ _ | exact hzD _ _ | exact zr3 (tS_b hW _) | exact zr3 (lsc_b hW _ _) | exact zr3 (sc_b hW _ _) | exact rkP_zr hW _ | exact scA_zr hW _ _ | exact zr3 (cW_b hW) | exact zr3 (wS_b hW) | (unfold zr at *; omega)) (by first | exact hz8 _ _ | assumption | exact zr_b _ | exact zcmp_r _ _ | exact hzD _ _ | exact zr3 (tS_b hW _) | exact zr3 (lsc_b hW _ _) | exact zr3 (sc_b hW _ _) | exact rkP_zr hW _ | exact scA_zr hW _ _ | exact zr3 (cW_b hW) | exact zr3 (wS_b hW) | (unfold zr at *; omega)) dL_isPrinter_48 (by decide) (fun h48 => ?_) (fun h48 => ?_)
          · refine zx_iload dL_isPrinter_155 rfl ?_
            refine zx_aloadN dL_isPrinter_157 rfl rfl ?_
            refine zx_iloadN dL_isPrinter_158 rfl rfl ?_
            refine zy_cvR [zi ((p : Nat) : Int)] (fX9_bestYears  hfl hz8 hr8.2.2 hW hP1 (by first | exact hz8 _ _ | assumption | exact zr_b _ | exact zcmp_r _ _ | exact hzD _ _ | exact zr3 (tS_b hW _) | exact zr3 (lsc_b hW _ _) | exact zr3 (sc_b hW _ _) | exact rkP_zr hW _ | exact scA_zr hW _ _ | exact zr3 (cW_b hW) | exact zr3 (wS_b hW) | (unfold zr at *; omega)) (by first | assumption | omega)) dL_isPrinter_159 (by decide) rfl cw_RL_159 okX9_bestYears rfl (Nat.le_of_ble_eq_true rfl) ⟨Nat.le_of_ble_eq_true rfl, Nat.le_of_ble_eq_true rfl, Nat.le_of_ble_eq_true rfl, Nat.le_of_ble_eq_true rfl⟩ (fun τ159 hr159 => ?_)
            refine zy_top (b := tN D (Ht D) p) rfl ?_
            have hz159 : zOK τ159 := hr159.1
            have hNN : acc = tN D (Ht D) p := by rw [hacc, show r = 50 by omega]; exact (tN_win hW hp hyp).symm
            refine zx_icmp_ne (tgt := 169) (by first | exact hz159 _ _ | assumption | exact zr_b _ | exact zcmp_r _ _ | exact hzD _ _ | exact zr3 (tS_b hW _) | exact zr3 (lsc_b hW _ _) | exact zr3 (sc_b hW _ _) | exact rkP_zr hW _ | exact scA_zr hW _ _ | exact zr3 (cW_b hW) | exact zr3 (wS_b hW) | (unfold zr at *; omega)) (by first | exact hz159 _ _ | assumption | exact zr_b _ | exact zcmp_r _ _ | exact hzD _ _ | exact zr3 (tS_b hW _) | exact zr3 (lsc_b hW _ _) | exact zr3 (sc_b hW _ _) | exact rkP_zr hW _ | exact scA_zr hW _ _ | exact zr3 (cW_b hW) | exact zr3 (wS_b hW) | (unfold zr at *; omega)) dL_isPrinter_162 (by decide) (fun h162 => ?_) (fun h162 => ?_)
            · exact absurd hNN h162
            · refine zx_iconst dL_isPrinter_165 ?_
              refine zx_goto (tgt := 170) dL_isPrinter_166 (by decide) ?_
              refine zx_iret rfl rfl dL_isPrinter_170 ?_
              rw [hQ]
              refine ⟨congrArg (fun z : Int => (Sum.inl (some (zi z)) : Option zV ⊕ String)) ?_, ?_⟩
              · first | rfl | assumption | omega
              exact ⟨hz159, (zJ (zJ (zJ (zSame_rf _ _) hr2.2.1) hr8.2.1) hr159.2.1), hr159.2.2⟩
          · refine zx_aloadN dL_isPrinter_51 rfl rfl ?_
            refine zx_iloadN dL_isPrinter_52 rfl rfl ?_
            refine zx_iload dL_isPrinter_53 rfl ?_
            refine zy_cv [zi ((p : Nat) : Int), zi y] (fX9_isActive  hfl hz8 hr8.2.2 hW (by first | exact hz8 _ _ | assumption | exact zr_b _ | exact zcmp_r _ _ | exact hzD _ _ | exact zr3 (tS_b hW _) | exact zr3 (lsc_b hW _ _) | exact zr3 (sc_b hW _ _) | exact rkP_zr hW _ | exact scA_zr hW _ _ | exact zr3 (cW_b hW) | exact zr3 (wS_b hW) | (unfold zr at *; omega)) (by first | exact hz8 _ _ | assumption | exact zr_b _ | exact zcmp_r _ _ | exact hzD _ _ | exact zr3 (tS_b hW _) | exact zr3 (lsc_b hW _ _) | exact zr3 (sc_b hW _ _) | exact rkP_zr hW _ | exact scA_zr hW _ _ | exact zr3 (cW_b hW) | exact zr3 (wS_b hW) | (unfold zr at *; omega)) (by first | assumption | omega) (by first | assumption | omega)) dL_isPrinter_55 (by decide) rfl cw_RL_150 okX9_isActive rfl (Nat.le_of_ble_eq_true rfl) ⟨Nat.le_of_ble_eq_true rfl, Nat.le_of_ble_eq_true rfl, Nat.le_of_ble_eq_true rfl, Nat.le_of_ble_eq_true rfl⟩ ?_
            refine zy_top (b := zb (works D p y)) rfl ?_
            refine zx_if_ne (tgt := 74) (by first | exact hz8 _ _ | assumption | exact zr_b _ | exact zcmp_r _ _ | exact hzD _ _ | exact zr3 (tS_b hW _) | exact zr3 (lsc_b hW _ _) | exact zr3 (sc_b hW _ _) | exact rkP_zr hW _ | exact scA_zr hW _ _ | exact zr3 (cW_b hW) | exact zr3 (wS_b hW) | (unfold zr at *; omega)) dL_isPrinter_58 (by decide) (fun h58 => ?_) (fun h58 => ?_)
            · have h58 := zb_n.mp h58
              refine zx_aloadN dL_isPrinter_74 rfl rfl ?_
              refine zx_iloadN dL_isPrinter_75 rfl rfl ?_
              refine zx_iload dL_isPrinter_76 rfl ?_
              refine zy_cv [zi ((p : Nat) : Int), zi y] (fX9_score  hfl hz8 hr8.2.2 hW (by first | exact hz8 _ _ | assumption | exact zr_b _ | exact zcmp_r _ _ | exact hzD _ _ | exact zr3 (tS_b hW _) | exact zr3 (lsc_b hW _ _) | exact zr3 (sc_b hW _ _) | exact rkP_zr hW _ | exact scA_zr hW _ _ | exact zr3 (cW_b hW) | exact zr3 (wS_b hW) | (unfold zr at *; omega)) (by first | exact hz8 _ _ | assumption | exact zr_b _ | exact zcmp_r _ _ | exact hzD _ _ | exact zr3 (tS_b hW _) | exact zr3 (lsc_b hW _ _) | exact zr3 (sc_b hW _ _) | exact rkP_zr hW _ | exact scA_zr hW _ _ | exact zr3 (cW_b hW) | exact zr3 (wS_b hW) | (unfold zr at *; omega)) (by first | assumption | omega) (by first | assumption | omega)) dL_isPrinter_78 (by decide) rfl cw_RL_157 okX9_score rfl (Nat.le_of_ble_eq_true rfl) ⟨Nat.le_of_ble_eq_true rfl, Nat.le_of_ble_eq_true rfl, Nat.le_of_ble_eq_true rfl, Nat.le_of_ble_eq_true rfl⟩ ?_
              refine zy_top (b := scA D p y) rfl ?_
              refine zy_top (b := sc D (Ht D) p (50 + r)) (scA_sc h58 (by omega)) ?_
              have hwk : D 4 p ≤ y ∧ y ≤ D 5 p := h58
              have hmx := tR_max (D := D) (H := Ht D) (p := p) (r := 50 + r) (by omega) (by omega)
              refine zy_istore [zf 9 0, zi ((p : Nat) : Int), zi z, zi (1450 + ((tR D (Ht D) p : Nat) : Int)), zi (tS D (Ht D) p), zi acc, zi y, zi (sc D (Ht D) p (50 + r))] dL_isPrinter_81 (Nat.le_of_ble_eq_true rfl) (Nat.le_of_ble_eq_true rfl) rfl rfl ?_
              refine zx_iload dL_isPrinter_83 rfl ?_
              refine zx_iload dL_isPrinter_85 rfl ?_
              refine zx_icmp_gt (tgt := 103) (by first | exact hz8 _ _ | assumption | exact zr_b _ | exact zcmp_r _ _ | exact hzD _ _ | exact zr3 (tS_b hW _) | exact zr3 (lsc_b hW _ _) | exact zr3 (sc_b hW _ _) | exact rkP_zr hW _ | exact scA_zr hW _ _ | exact zr3 (cW_b hW) | exact zr3 (wS_b hW) | (unfold zr at *; omega)) (by first | exact hz8 _ _ | assumption | exact zr_b _ | exact zcmp_r _ _ | exact hzD _ _ | exact zr3 (tS_b hW _) | exact zr3 (lsc_b hW _ _) | exact zr3 (sc_b hW _ _) | exact rkP_zr hW _ | exact scA_zr hW _ _ | exact zr3 (cW_b hW) | exact zr3 (wS_b hW) | (unfold zr at *; omega)) dL_isPrinter_87 (by decide) (fun h87 => ?_) (fun h87 => ?_)
              · exfalso; have q1 := hmx.1; have q2 := hmx.2; omega
              · refine zx_iload dL_isPrinter_90 rfl ?_
                refine zx_iload dL_isPrinter_92 rfl ?_
                refine zx_icmp_ne (tgt := 105) (by first | exact hz8 _ _ | assumption | exact zr_b _ | exact zcmp_r _ _ | exact hzD _ _ | exact zr3 (tS_b hW _) | exact zr3 (lsc_b hW _ _) | exact zr3 (sc_b hW _ _) | exact rkP_zr hW _ | exact scA_zr hW _ _ | exact zr3 (cW_b hW) | exact zr3 (wS_b hW) | (unfold zr at *; omega)) (by first | exact hz8 _ _ | assumption | exact zr_b _ | exact zcmp_r _ _ | exact hzD _ _ | exact zr3 (tS_b hW _) | exact zr3 (lsc_b hW _ _) | exact zr3 (sc_b hW _ _) | exact rkP_zr hW _ | exact scA_zr hW _ _ | exact zr3 (cW_b hW) | exact zr3 (wS_b hW) | (unfold zr at *; omega)) dL_isPrinter_94 (by decide) (fun h94 => ?_) (fun h94 => ?_)
                · refine zx_iload dL_isPrinter_105 rfl ?_
                  refine zx_iload dL_isPrinter_107 rfl ?_
                  refine zx_iload dL_isPrinter_109 rfl ?_
                  refine zx_icmp_ne (tgt := 118) (by first | exact hz8 _ _ | assumption | exact zr_b _ | exact zcmp_r _ _ | exact hzD _ _ | exact zr3 (tS_b hW _) | exact zr3 (lsc_b hW _ _) | exact zr3 (sc_b hW _ _) | exact rkP_zr hW _ | exact scA_zr hW _ _ | exact zr3 (cW_b hW) | exact zr3 (wS_b hW) | (unfold zr at *; omega)) (by first | exact hz8 _ _ | assumption | exact zr_b _ | exact zcmp_r _ _ | exact hzD _ _ | exact zr3 (tS_b hW _) | exact zr3 (lsc_b hW _ _) | exact zr3 (sc_b hW _ _) | exact rkP_zr hW _ | exact scA_zr hW _ _ | exact zr3 (cW_b hW) | exact zr3 (wS_b hW) | (unfold zr at *; omega)) dL_isPrinter_111 (by decide) (fun h111 => ?_) (fun h111 => ?_)
                  · refine zx_iconst dL_isPrinter_118 ?_
                    refine zx_iadd dL_isPrinter_119 ?_
                    refine zy_istore [zf 9 0, zi ((p : Nat) : Int), zi z, zi (1450 + ((tR D (Ht D) p : Nat) : Int)), zi (tS D (Ht D) p), zi (acc + 0), zi y, zi (sc D (Ht D) p (50 + r))] dL_isPrinter_120 (Nat.le_of_ble_eq_true rfl) (Nat.le_of_ble_eq_true rfl) rfl rfl ?_
                    refine zx_iload dL_isPrinter_122 rfl ?_
                    refine zx_sipush dL_isPrinter_124 rfl ?_
                    refine zx_iloadN dL_isPrinter_127 rfl rfl ?_
                    refine zx_bipush dL_isPrinter_128 rfl ?_
                    refine zx_irem (by omega) (by omega) (by omega) (by omega) dL_isPrinter_130 ?_
                    refine zx_iadd dL_isPrinter_131 ?_
                    refine zx_icmp_ne (tgt := 149) (by first | exact hz8 _ _ | assumption | exact zr_b _ | exact zcmp_r _ _ | exact hzD _ _ | exact zr3 (tS_b hW _) | exact zr3 (lsc_b hW _ _) | exact zr3 (sc_b hW _ _) | exact rkP_zr hW _ | exact scA_zr hW _ _ | exact zr3 (cW_b hW) | exact zr3 (wS_b hW) | (unfold zr at *; omega)) (by first | exact hz8 _ _ | assumption | exact zr_b _ | exact zcmp_r _ _ | exact hzD _ _ | exact zr3 (tS_b hW _) | exact zr3 (lsc_b hW _ _) | exact zr3 (sc_b hW _ _) | exact rkP_zr hW _ | exact scA_zr hW _ _ | exact zr3 (cW_b hW) | exact zr3 (wS_b hW) | (unfold zr at *; omega)) dL_isPrinter_132 (by decide) (fun h132 => ?_) (fun h132 => ?_)
                    · refine zy_iinc (b := y + 1) [zf 9 0, zi ((p : Nat) : Int), zi z, zi (1450 + ((tR D (Ht D) p : Nat) : Int)), zi (tS D (Ht D) p), zi (acc + 0), zi (y + 1), zi (sc D (Ht D) p (50 + r))] dL_isPrinter_149 rfl (by omega) (Nat.le_of_ble_eq_true rfl) rfl rfl ?_
                      refine zx_goto (tgt := 43) dL_isPrinter_152 (by decide) ?_
                      refine zy_drop 7 [zf 9 0, zi ((p : Nat) : Int), zi z, zi (1450 + ((tR D (Ht D) p : Nat) : Int)), zi (tS D (Ht D) p), zi (acc + 0), zi (y + 1), zu] rfl ?_
                      exact ih43 (r + 1) (y + 1) (acc + 0) (by omega) (by
                            subst hacc
                            first
                            | exact zsb_f (P := fun i => works D p (1500 + (i : Int)) ∧ sc D (Ht D) p (50 + i) = tS D (Ht D) p) (fun q => h58 (by rw [hy.1]; exact q.1))
                            | exact zsb_t (P := fun i => works D p (1500 + (i : Int)) ∧ sc D (Ht D) p (50 + i) = tS D (Ht D) p) ⟨by rw [← hy.1]; exact h58, h111⟩
                            | (rw [Int.add_zero]; exact zsb_f (P := fun i => works D p (1500 + (i : Int)) ∧ sc D (Ht D) p (50 + i) = tS D (Ht D) p) (fun q => h111 q.2))) (by omega)
                    · refine zx_iload dL_isPrinter_135 rfl ?_
                      refine zx_aloadN dL_isPrinter_137 rfl rfl ?_
                      refine zx_iloadN dL_isPrinter_138 rfl rfl ?_
                      refine zx_iload dL_isPrinter_139 rfl ?_
                      refine zy_cs [zf 9 0, zi ((p : Nat) : Int), zi y] (sL_score  hfl hz8 hr8.2.2 hW (by first | assumption | omega) (by first | assumption | omega)) dL_isPrinter_141 cw_RL_153 okL_score rfl (Nat.le_of_ble_eq_true rfl) ⟨Nat.le_of_ble_eq_true rfl, Nat.le_of_ble_eq_true rfl, Nat.le_of_ble_eq_true rfl, Nat.le_of_ble_eq_true rfl⟩ ?_
                      refine zy_top (b := sc D (Ht D) p (50 + r)) (lsc_sc h58 (by omega)) ?_
                      refine zx_icmp_eq (tgt := 149) (by first | exact hz8 _ _ | assumption | exact zr_b _ | exact zcmp_r _ _ | exact hzD _ _ | exact zr3 (tS_b hW _) | exact zr3 (lsc_b hW _ _) | exact zr3 (sc_b hW _ _) | exact rkP_zr hW _ | exact scA_zr hW _ _ | exact zr3 (cW_b hW) | exact zr3 (wS_b hW) | (unfold zr at *; omega)) (by first | exact hz8 _ _ | assumption | exact zr_b _ | exact zcmp_r _ _ | exact hzD _ _ | exact zr3 (tS_b hW _) | exact zr3 (lsc_b hW _ _) | exact zr3 (sc_b hW _ _) | exact rkP_zr hW _ | exact scA_zr hW _ _ | exact zr3 (cW_b hW) | exact zr3 (wS_b hW) | (unfold zr at *; omega)) dL_isPrinter_144 (by decide) (fun h144 => ?_) (fun h144 => ?_)
                      · refine zy_iinc (b := y + 1) [zf 9 0, zi ((p : Nat) : Int), zi z, zi (1450 + ((tR D (Ht D) p : Nat) : Int)), zi (tS D (Ht D) p), zi (acc + 0), zi (y + 1), zi (sc D (Ht D) p (50 + r))] dL_isPrinter_149 rfl (by omega) (Nat.le_of_ble_eq_true rfl) rfl rfl ?_
                        refine zx_goto (tgt := 43) dL_isPrinter_152 (by decide) ?_
                        refine zy_drop 7 [zf 9 0, zi ((p : Nat) : Int), zi z, zi (1450 + ((tR D (Ht D) p : Nat) : Int)), zi (tS D (Ht D) p), zi (acc + 0), zi (y + 1), zu] rfl ?_
                        exact ih43 (r + 1) (y + 1) (acc + 0) (by omega) (by
                              subst hacc
                              first
                              | exact zsb_f (P := fun i => works D p (1500 + (i : Int)) ∧ sc D (Ht D) p (50 + i) = tS D (Ht D) p) (fun q => h58 (by rw [hy.1]; exact q.1))
                              | exact zsb_t (P := fun i => works D p (1500 + (i : Int)) ∧ sc D (Ht D) p (50 + i) = tS D (Ht D) p) ⟨by rw [← hy.1]; exact h58, h111⟩
                              | (rw [Int.add_zero]; exact zsb_f (P := fun i => works D p (1500 + (i : Int)) ∧ sc D (Ht D) p (50 + i) = tS D (Ht D) p) (fun q => h111 q.2))) (by omega)
                      · exact absurd rfl h144
                  · refine zx_iconst dL_isPrinter_114 ?_
                    refine zx_goto (tgt := 119) dL_isPrinter_115 (by decide) ?_
                    refine zx_iadd dL_isPrinter_119 ?_
                    refine zy_istore [zf 9 0, zi ((p : Nat) : Int), zi z, zi (1450 + ((tR D (Ht D) p : Nat) : Int)), zi (tS D (Ht D) p), zi (acc + 1), zi y, zi (sc D (Ht D) p (50 + r))] dL_isPrinter_120 (Nat.le_of_ble_eq_true rfl) (Nat.le_of_ble_eq_true rfl) rfl rfl ?_
                    refine zx_iload dL_isPrinter_122 rfl ?_
                    refine zx_sipush dL_isPrinter_124 rfl ?_
                    refine zx_iloadN dL_isPrinter_127 rfl rfl ?_
                    refine zx_bipush dL_isPrinter_128 rfl ?_
                    refine zx_irem (by omega) (by omega) (by omega) (by omega) dL_isPrinter_130 ?_
                    refine zx_iadd dL_isPrinter_131 ?_
                    refine zx_icmp_ne (tgt := 149) (by first | exact hz8 _ _ | assumption | exact zr_b _ | exact zcmp_r _ _ | exact hzD _ _ | exact zr3 (tS_b hW _) | exact zr3 (lsc_b hW _ _) | exact zr3 (sc_b hW _ _) | exact rkP_zr hW _ | exact scA_zr hW _ _ | exact zr3 (cW_b hW) | exact zr3 (wS_b hW) | (unfold zr at *; omega)) (by first | exact hz8 _ _ | assumption | exact zr_b _ | exact zcmp_r _ _ | exact hzD _ _ | exact zr3 (tS_b hW _) | exact zr3 (lsc_b hW _ _) | exact zr3 (sc_b hW _ _) | exact rkP_zr hW _ | exact scA_zr hW _ _ | exact zr3 (cW_b hW) | exact zr3 (wS_b hW) | (unfold zr at *; omega)) dL_isPrinter_132 (by decide) (fun h132 => ?_) (fun h132 => ?_)
                    · refine zy_iinc (b := y + 1) [zf 9 0, zi ((p : Nat) : Int), zi z, zi (1450 + ((tR D (Ht D) p : Nat) : Int)), zi (tS D (Ht D) p), zi (acc + 1), zi (y + 1), zi (sc D (Ht D) p (50 + r))] dL_isPrinter_149 rfl (by omega) (Nat.le_of_ble_eq_true rfl) rfl rfl ?_
                      refine zx_goto (tgt := 43) dL_isPrinter_152 (by decide) ?_
                      refine zy_drop 7 [zf 9 0, zi ((p : Nat) : Int), zi z, zi (1450 + ((tR D (Ht D) p : Nat) : Int)), zi (tS D (Ht D) p), zi (acc + 1), zi (y + 1), zu] rfl ?_
                      exact ih43 (r + 1) (y + 1) (acc + 1) (by omega) (by
                            subst hacc
                            first
                            | exact zsb_f (P := fun i => works D p (1500 + (i : Int)) ∧ sc D (Ht D) p (50 + i) = tS D (Ht D) p) (fun q => h58 (by rw [hy.1]; exact q.1))
                            | exact zsb_t (P := fun i => works D p (1500 + (i : Int)) ∧ sc D (Ht D) p (50 + i) = tS D (Ht D) p) ⟨by rw [← hy.1]; exact h58, h111⟩
                            | (rw [Int.add_zero]; exact zsb_f (P := fun i => works D p (1500 + (i : Int)) ∧ sc D (Ht D) p (50 + i) = tS D (Ht D) p) (fun q => h111 q.2))) (by omega)
                    · refine zx_iload dL_isPrinter_135 rfl ?_
                      refine zx_aloadN dL_isPrinter_137 rfl rfl ?_
                      refine zx_iloadN dL_isPrinter_138 rfl rfl ?_
                      refine zx_iload dL_isPrinter_139 rfl ?_
                      refine zy_cs [zf 9 0, zi ((p : Nat) : Int), zi y] (sL_score  hfl hz8 hr8.2.2 hW (by first | assumption | omega) (by first | assumption | omega)) dL_isPrinter_141 cw_RL_153 okL_score rfl (Nat.le_of_ble_eq_true rfl) ⟨Nat.le_of_ble_eq_true rfl, Nat.le_of_ble_eq_true rfl, Nat.le_of_ble_eq_true rfl, Nat.le_of_ble_eq_true rfl⟩ ?_
                      refine zy_top (b := sc D (Ht D) p (50 + r)) (lsc_sc h58 (by omega)) ?_
                      refine zx_icmp_eq (tgt := 149) (by first | exact hz8 _ _ | assumption | exact zr_b _ | exact zcmp_r _ _ | exact hzD _ _ | exact zr3 (tS_b hW _) | exact zr3 (lsc_b hW _ _) | exact zr3 (sc_b hW _ _) | exact rkP_zr hW _ | exact scA_zr hW _ _ | exact zr3 (cW_b hW) | exact zr3 (wS_b hW) | (unfold zr at *; omega)) (by first | exact hz8 _ _ | assumption | exact zr_b _ | exact zcmp_r _ _ | exact hzD _ _ | exact zr3 (tS_b hW _) | exact zr3 (lsc_b hW _ _) | exact zr3 (sc_b hW _ _) | exact rkP_zr hW _ | exact scA_zr hW _ _ | exact zr3 (cW_b hW) | exact zr3 (wS_b hW) | (unfold zr at *; omega)) dL_isPrinter_144 (by decide) (fun h144 => ?_) (fun h144 => ?_)
                      · refine zy_iinc (b := y + 1) [zf 9 0, zi ((p : Nat) : Int), zi z, zi (1450 + ((tR D (Ht D) p : Nat) : Int)), zi (tS D (Ht D) p), zi (acc + 1), zi (y + 1), zi (sc D (Ht D) p (50 + r))] dL_isPrinter_149 rfl (by omega) (Nat.le_of_ble_eq_true rfl) rfl rfl ?_
                        refine zx_goto (tgt := 43) dL_isPrinter_152 (by decide) ?_
                        refine zy_drop 7 [zf 9 0, zi ((p : Nat) : Int), zi z, zi (1450 + ((tR D (Ht D) p : Nat) : Int)), zi (tS D (Ht D) p), zi (acc + 1), zi (y + 1), zu] rfl ?_
                        exact ih43 (r + 1) (y + 1) (acc + 1) (by omega) (by
                              subst hacc
                              first
                              | exact zsb_f (P := fun i => works D p (1500 + (i : Int)) ∧ sc D (Ht D) p (50 + i) = tS D (Ht D) p) (fun q => h58 (by rw [hy.1]; exact q.1))
                              | exact zsb_t (P := fun i => works D p (1500 + (i : Int)) ∧ sc D (Ht D) p (50 + i) = tS D (Ht D) p) ⟨by rw [← hy.1]; exact h58, h111⟩
                              | (rw [Int.add_zero]; exact zsb_f (P := fun i => works D p (1500 + (i : Int)) ∧ sc D (Ht D) p (50 + i) = tS D (Ht D) p) (fun q => h111 q.2))) (by omega)
                      · exact absurd rfl h144
                · refine zx_iload dL_isPrinter_97 rfl ?_
                  refine zx_iloadN dL_isPrinter_99 rfl rfl ?_
                  refine zx_icmp_ge (tgt := 105) (by first | exact hz8 _ _ | assumption | exact zr_b _ | exact zcmp_r _ _ | exact hzD _ _ | exact zr3 (tS_b hW _) | exact zr3 (lsc_b hW _ _) | exact zr3 (sc_b hW _ _) | exact rkP_zr hW _ | exact scA_zr hW _ _ | exact zr3 (cW_b hW) | exact zr3 (wS_b hW) | (unfold zr at *; omega)) (by first | exact hz8 _ _ | assumption | exact zr_b _ | exact zcmp_r _ _ | exact hzD _ _ | exact zr3 (tS_b hW _) | exact zr3 (lsc_b hW _ _) | exact zr3 (sc_b hW _ _) | exact rkP_zr hW _ | exact scA_zr hW _ _ | exact zr3 (cW_b hW) | exact zr3 (wS_b hW) | (unfold zr at *; omega)) dL_isPrinter_100 (by decide) (fun h100 => ?_) (fun h100 => ?_)
                  · refine zx_iload dL_isPrinter_105 rfl ?_
                    refine zx_iload dL_isPrinter_107 rfl ?_
                    refine zx_iload dL_isPrinter_109 rfl ?_
                    refine zx_icmp_ne (tgt := 118) (by first | exact hz8 _ _ | assumption | exact zr_b _ | exact zcmp_r _ _ | exact hzD _ _ | exact zr3 (tS_b hW _) | exact zr3 (lsc_b hW _ _) | exact zr3 (sc_b hW _ _) | exact rkP_zr hW _ | exact scA_zr hW _ _ | exact zr3 (cW_b hW) | exact zr3 (wS_b hW) | (unfold zr at *; omega)) (by first | exact hz8 _ _ | assumption | exact zr_b _ | exact zcmp_r _ _ | exact hzD _ _ | exact zr3 (tS_b hW _) | exact zr3 (lsc_b hW _ _) | exact zr3 (sc_b hW _ _) | exact rkP_zr hW _ | exact scA_zr hW _ _ | exact zr3 (cW_b hW) | exact zr3 (wS_b hW) | (unfold zr at *; omega)) dL_isPrinter_111 (by decide) (fun h111 => ?_) (fun h111 => ?_)
                    · refine zx_iconst dL_isPrinter_118 ?_
                      refine zx_iadd dL_isPrinter_119 ?_
                      refine zy_istore [zf 9 0, zi ((p : Nat) : Int), zi z, zi (1450 + ((tR D (Ht D) p : Nat) : Int)), zi (tS D (Ht D) p), zi (acc + 0), zi y, zi (sc D (Ht D) p (50 + r))] dL_isPrinter_120 (Nat.le_of_ble_eq_true rfl) (Nat.le_of_ble_eq_true rfl) rfl rfl ?_
                      refine zx_iload dL_isPrinter_122 rfl ?_
                      refine zx_sipush dL_isPrinter_124 rfl ?_
                      refine zx_iloadN dL_isPrinter_127 rfl rfl ?_
                      refine zx_bipush dL_isPrinter_128 rfl ?_
                      refine zx_irem (by omega) (by omega) (by omega) (by omega) dL_isPrinter_130 ?_
                      refine zx_iadd dL_isPrinter_131 ?_
                      refine zx_icmp_ne (tgt := 149) (by first | exact hz8 _ _ | assumption | exact zr_b _ | exact zcmp_r _ _ | exact hzD _ _ | exact zr3 (tS_b hW _) | exact zr3 (lsc_b hW _ _) | exact zr3 (sc_b hW _ _) | exact rkP_zr hW _ | exact scA_zr hW _ _ | exact zr3 (cW_b hW) | exact zr3 (wS_b hW) | (unfold zr at *; omega)) (by first | exact hz8 _ _ | assumption | exact zr_b _ | exact zcmp_r _ _ | exact hzD _ _ | exact zr3 (tS_b hW _) | exact zr3 (lsc_b hW _ _) | exact zr3 (sc_b hW _ _) | exact rkP_zr hW _ | exact scA_zr hW _ _ | exact zr3 (cW_b hW) | exact zr3 (wS_b hW) | (unfold zr at *; omega)) dL_isPrinter_132 (by decide) (fun h132 => ?_) (fun h132 => ?_)
                      · refine zy_iinc (b := y + 1) [zf 9 0, zi ((p : Nat) : Int), zi z, zi (1450 + ((tR D (Ht D) p : Nat) : Int)), zi (tS D (Ht D) p), zi (acc + 0), zi (y + 1), zi (sc D (Ht D) p (50 + r))] dL_isPrinter_149 rfl (by omega) (Nat.le_of_ble_eq_true rfl) rfl rfl ?_
                        refine zx_goto (tgt := 43) dL_isPrinter_152 (by decide) ?_
                        refine zy_drop 7 [zf 9 0, zi ((p : Nat) : Int), zi z, zi (1450 + ((tR D (Ht D) p : Nat) : Int)), zi (tS D (Ht D) p), zi (acc + 0), zi (y + 1), zu] rfl ?_
                        exact ih43 (r + 1) (y + 1) (acc + 0) (by omega) (by
                              subst hacc
                              first
                              | exact zsb_f (P := fun i => works D p (1500 + (i : Int)) ∧ sc D (Ht D) p (50 + i) = tS D (Ht D) p) (fun q => h58 (by rw [hy.1]; exact q.1))
                              | exact zsb_t (P := fun i => works D p (1500 + (i : Int)) ∧ sc D (Ht D) p (50 + i) = tS D (Ht D) p) ⟨by rw [← hy.1]; exact h58, h111⟩
                              | (rw [Int.add_zero]; exact zsb_f (P := fun i => works D p (1500 + (i : Int)) ∧ sc D (Ht D) p (50 + i) = tS D (Ht D) p) (fun q => h111 q.2))) (by omega)
                      · refine zx_iload dL_isPrinter_135 rfl ?_
                        refine zx_aloadN dL_isPrinter_137 rfl rfl ?_
                        refine zx_iloadN dL_isPrinter_138 rfl rfl ?_
                        refine zx_iload dL_isPrinter_139 rfl ?_
                        refine zy_cs [zf 9 0, zi ((p : Nat) : Int), zi y] (sL_score  hfl hz8 hr8.2.2 hW (by first | assumption | omega) (by first | assumption | omega)) dL_isPrinter_141 cw_RL_153 okL_score rfl (Nat.le_of_ble_eq_true rfl) ⟨Nat.le_of_ble_eq_true rfl, Nat.le_of_ble_eq_true rfl, Nat.le_of_ble_eq_true rfl, Nat.le_of_ble_eq_true rfl⟩ ?_
                        refine zy_top (b := sc D (Ht D) p (50 + r)) (lsc_sc h58 (by omega)) ?_
                        refine zx_icmp_eq (tgt := 149) (by first | exact hz8 _ _ | assumption | exact zr_b _ | exact zcmp_r _ _ | exact hzD _ _ | exact zr3 (tS_b hW _) | exact zr3 (lsc_b hW _ _) | exact zr3 (sc_b hW _ _) | exact rkP_zr hW _ | exact scA_zr hW _ _ | exact zr3 (cW_b hW) | exact zr3 (wS_b hW) | (unfold zr at *; omega)) (by first | exact hz8 _ _ | assumption | exact zr_b _ | exact zcmp_r _ _ | exact hzD _ _ | exact zr3 (tS_b hW _) | exact zr3 (lsc_b hW _ _) | exact zr3 (sc_b hW _ _) | exact rkP_zr hW _ | exact scA_zr hW _ _ | exact zr3 (cW_b hW) | exact zr3 (wS_b hW) | (unfold zr at *; omega)) dL_isPrinter_144 (by decide) (fun h144 => ?_) (fun h144 => ?_)
                        · refine zy_iinc (b := y + 1) [zf 9 0, zi ((p : Nat) : Int), zi z, zi (1450 + ((tR D (Ht D) p : Nat) : Int)), zi (tS D (Ht D) p), zi (acc + 0), zi (y + 1), zi (sc D (Ht D) p (50 + r))] dL_isPrinter_149 rfl (by omega) (Nat.le_of_ble_eq_true rfl) rfl rfl ?_
                          refine zx_goto (tgt := 43) dL_isPrinter_152 (by decide) ?_
                          refine zy_drop 7 [zf 9 0, zi ((p : Nat) : Int), zi z, zi (1450 + ((tR D (Ht D) p : Nat) : Int)), zi (tS D (Ht D) p), zi (acc + 0), zi (y + 1), zu] rfl ?_
                          exact ih43 (r + 1) (y + 1) (acc + 0) (by omega) (by
                                subst hacc
                                first
                                | exact zsb_f (P := fun i => works D p (1500 + (i : Int)) ∧ sc D (Ht D) p (50 + i) = tS D (Ht D) p) (fun q => h58 (by rw [hy.1]; exact q.1))
                                | exact zsb_t (P := fun i => works D p (1500 + (i : Int)) ∧ sc D (Ht D) p (50 + i) = tS D (Ht D) p) ⟨by rw [← hy.1]; exact h58, h111⟩
                                | (rw [Int.add_zero]; exact zsb_f (P := fun i => works D p (1500 + (i : Int)) ∧ sc D (Ht D) p (50 + i) = tS D (Ht D) p) (fun q => h111 q.2))) (by omega)
                        · exact absurd rfl h144
                    · refine zx_iconst dL_isPrinter_114 ?_
                      refine zx_goto (tgt := 119) dL_isPrinter_115 (by decide) ?_
                      refine zx_iadd dL_isPrinter_119 ?_
                      refine zy_istore [zf 9 0, zi ((p : Nat) : Int), zi z, zi (1450 + ((tR D (Ht D) p : Nat) : Int)), zi (tS D (Ht D) p), zi (acc + 1), zi y, zi (sc D (Ht D) p (50 + r))] dL_isPrinter_120 (Nat.le_of_ble_eq_true rfl) (Nat.le_of_ble_eq_true rfl) rfl rfl ?_
                      refine zx_iload dL_isPrinter_122 rfl ?_
                      refine zx_sipush dL_isPrinter_124 rfl ?_
                      refine zx_iloadN dL_isPrinter_127 rfl rfl ?_
                      refine zx_bipush dL_isPrinter_128 rfl ?_
                      refine zx_irem (by omega) (by omega) (by omega) (by omega) dL_isPrinter_130 ?_
                      refine zx_iadd dL_isPrinter_131 ?_
                      refine zx_icmp_ne (tgt := 149) (by first | exact hz8 _ _ | assumption | exact zr_b _ | exact zcmp_r _ _ | exact hzD _ _ | exact zr3 (tS_b hW _) | exact zr3 (lsc_b hW _ _) | exact zr3 (sc_b hW _ _) | exact rkP_zr hW _ | exact scA_zr hW _ _ | exact zr3 (cW_b hW) | exact zr3 (wS_b hW) | (unfold zr at *; omega)) (by first | exact hz8 _ _ | assumption | exact zr_b _ | exact zcmp_r _ _ | exact hzD _ _ | exact zr3 (tS_b hW _) | exact zr3 (lsc_b hW _ _) | exact zr3 (sc_b hW _ _) | exact rkP_zr hW _ | exact scA_zr hW _ _ | exact zr3 (cW_b hW) | exact zr3 (wS_b hW) | (unfold zr at *; omega)) dL_isPrinter_132 (by decide) (fun h132 => ?_) (fun h132 => ?_)
                      · refine zy_iinc (b := y + 1) [zf 9 0, zi ((p : Nat) : Int), zi z, zi (1450 + ((tR D (Ht D) p : Nat) : Int)), zi (tS D (Ht D) p), zi (acc + 1), zi (y + 1), zi (sc D (Ht D) p (50 + r))] dL_isPrinter_149 rfl (by omega) (Nat.le_of_ble_eq_true rfl) rfl rfl ?_
                        refine zx_goto (tgt := 43) dL_isPrinter_152 (by decide) ?_
                        refine zy_drop 7 [zf 9 0, zi ((p : Nat) : Int), zi z, zi (1450 + ((tR D (Ht D) p : Nat) : Int)), zi (tS D (Ht D) p), zi (acc + 1), zi (y + 1), zu] rfl ?_
                        exact ih43 (r + 1) (y + 1) (acc + 1) (by omega) (by
                              subst hacc
                              first
                              | exact zsb_f (P := fun i => works D p (1500 + (i : Int)) ∧ sc D (Ht D) p (50 + i) = tS D (Ht D) p) (fun q => h58 (by rw [hy.1]; exact q.1))
                              | exact zsb_t (P := fun i => works D p (1500 + (i : Int)) ∧ sc D (Ht D) p (50 + i) = tS D (Ht D) p) ⟨by rw [← hy.1]; exact h58, h111⟩
                              | (rw [Int.add_zero]; exact zsb_f (P := fun i => works D p (1500 + (i : Int)) ∧ sc D (Ht D) p (50 + i) = tS D (Ht D) p) (fun q => h111 q.2))) (by omega)
                      · refine zx_iload dL_isPrinter_135 rfl ?_
                        refine zx_aloadN dL_isPrinter_137 rfl rfl ?_
                        refine zx_iloadN dL_isPrinter_138 rfl rfl ?_
                        refine zx_iload dL_isPrinter_139 rfl ?_
                        refine zy_cs [zf 9 0, zi ((p : Nat) : Int), zi y] (sL_score  hfl hz8 hr8.2.2 hW (by first | assumption | omega) (by first | assumption | omega)) dL_isPrinter_141 cw_RL_153 okL_score rfl (Nat.le_of_ble_eq_true rfl) ⟨Nat.le_of_ble_eq_true rfl, Nat.le_of_ble_eq_true rfl, Nat.le_of_ble_eq_true rfl, Nat.le_of_ble_eq_true rfl⟩ ?_
                        refine zy_top (b := sc D (Ht D) p (50 + r)) (lsc_sc h58 (by omega)) ?_
                        refine zx_icmp_eq (tgt := 149) (by first | exact hz8 _ _ | assumption | exact zr_b _ | exact zcmp_r _ _ | exact hzD _ _ | exact zr3 (tS_b hW _) | exact zr3 (lsc_b hW _ _) | exact zr3 (sc_b hW _ _) | exact rkP_zr hW _ | exact scA_zr hW _ _ | exact zr3 (cW_b hW) | exact zr3 (wS_b hW) | (unfold zr at *; omega)) (by first | exact hz8 _ _ | assumption | exact zr_b _ | exact zcmp_r _ _ | exact hzD _ _ | exact zr3 (tS_b hW _) | exact zr3 (lsc_b hW _ _) | exact zr3 (sc_b hW _ _) | exact rkP_zr hW _ | exact scA_zr hW _ _ | exact zr3 (cW_b hW) | exact zr3 (wS_b hW) | (unfold zr at *; omega)) dL_isPrinter_144 (by decide) (fun h144 => ?_) (fun h144 => ?_)
                        · refine zy_iinc (b := y + 1) [zf 9 0, zi ((p : Nat) : Int), zi z, zi (1450 + ((tR D (Ht D) p : Nat) : Int)), zi (tS D (Ht D) p), zi (acc + 1), zi (y + 1), zi (sc D (Ht D) p (50 + r))] dL_isPrinter_149 rfl (by omega) (Nat.le_of_ble_eq_true rfl) rfl rfl ?_
                          refine zx_goto (tgt := 43) dL_isPrinter_152 (by decide) ?_
                          refine zy_drop 7 [zf 9 0, zi ((p : Nat) : Int), zi z, zi (1450 + ((tR D (Ht D) p : Nat) : Int)), zi (tS D (Ht D) p), zi (acc + 1), zi (y + 1), zu] rfl ?_
                          exact ih43 (r + 1) (y + 1) (acc + 1) (by omega) (by
                                subst hacc
                                first
                                | exact zsb_f (P := fun i => works D p (1500 + (i : Int)) ∧ sc D (Ht D) p (50 + i) = tS D (Ht D) p) (fun q => h58 (by rw [hy.1]; exact q.1))
                                | exact zsb_t (P := fun i => works D p (1500 + (i : Int)) ∧ sc D (Ht D) p (50 + i) = tS D (Ht D) p) ⟨by rw [← hy.1]; exact h58, h111⟩
                                | (rw [Int.add_zero]; exact zsb_f (P := fun i => works D p (1500 + (i : Int)) ∧ sc D (Ht D) p (50 + i) = tS D (Ht D) p) (fun q => h111 q.2))) (by omega)
                        · exact absurd rfl h144
                  · exfalso; have q1 := hmx.1; have q2 := hmx.2; omega
            · have h58 := zb_0.mp h58
              refine zx_aloadN dL_isPrinter_61 rfl rfl ?_
              refine zx_iloadN dL_isPrinter_62 rfl rfl ?_
              refine zx_iload dL_isPrinter_63 rfl ?_
              refine zy_cv [zi ((p : Nat) : Int), zi y] (fX9_score  hfl hz8 hr8.2.2 hW (by first | exact hz8 _ _ | assumption | exact zr_b _ | exact zcmp_r _ _ | exact hzD _ _ | exact zr3 (tS_b hW _) | exact zr3 (lsc_b hW _ _) | exact zr3 (sc_b hW _ _) | exact rkP_zr hW _ | exact scA_zr hW _ _ | exact zr3 (cW_b hW) | exact zr3 (wS_b hW) | (unfold zr at *; omega)) (by first | exact hz8 _ _ | assumption | exact zr_b _ | exact zcmp_r _ _ | exact hzD _ _ | exact zr3 (tS_b hW _) | exact zr3 (lsc_b hW _ _) | exact zr3 (sc_b hW _ _) | exact rkP_zr hW _ | exact scA_zr hW _ _ | exact zr3 (cW_b hW) | exact zr3 (wS_b hW) | (unfold zr at *; omega)) (by first | assumption | omega) (by first | assumption | omega)) dL_isPrinter_65 (by decide) rfl cw_RL_157 okX9_score rfl (Nat.le_of_ble_eq_true rfl) ⟨Nat.le_of_ble_eq_true rfl, Nat.le_of_ble_eq_true rfl, Nat.le_of_ble_eq_true rfl, Nat.le_of_ble_eq_true rfl⟩ ?_
              refine zy_top (b := scA D p y) rfl ?_
              refine zy_top (b := -1) (scA_n h58) ?_
              refine zx_iconst dL_isPrinter_68 ?_
              refine zx_icmp_eq (tgt := 149) (by first | exact hz8 _ _ | assumption | exact zr_b _ | exact zcmp_r _ _ | exact hzD _ _ | exact zr3 (tS_b hW _) | exact zr3 (lsc_b hW _ _) | exact zr3 (sc_b hW _ _) | exact rkP_zr hW _ | exact scA_zr hW _ _ | exact zr3 (cW_b hW) | exact zr3 (wS_b hW) | (unfold zr at *; omega)) (by first | exact hz8 _ _ | assumption | exact zr_b _ | exact zcmp_r _ _ | exact hzD _ _ | exact zr3 (tS_b hW _) | exact zr3 (lsc_b hW _ _) | exact zr3 (sc_b hW _ _) | exact rkP_zr hW _ | exact scA_zr hW _ _ | exact zr3 (cW_b hW) | exact zr3 (wS_b hW) | (unfold zr at *; omega)) dL_isPrinter_69 (by decide) (fun h69 => ?_) (fun h69 => ?_)
              · refine zy_iinc (b := y + 1) [zf 9 0, zi ((p : Nat) : Int), zi z, zi (1450 + ((tR D (Ht D) p : Nat) : Int)), zi (tS D (Ht D) p), zi acc, zi (y + 1), zu] dL_isPrinter_149 rfl (by omega) (Nat.le_of_ble_eq_true rfl) rfl rfl ?_
                refine zx_goto (tgt := 43) dL_isPrinter_152 (by decide) ?_
                exact ih43 (r + 1) (y + 1) acc (by omega) (by
                      subst hacc
                      first
                      | exact zsb_f (P := fun i => works D p (1500 + (i : Int)) ∧ sc D (Ht D) p (50 + i) = tS D (Ht D) p) (fun q => h58 (by rw [hy.1]; exact q.1))
                      | exact zsb_t (P := fun i => works D p (1500 + (i : Int)) ∧ sc D (Ht D) p (50 + i) = tS D (Ht D) p) ⟨by rw [← hy.1]; exact h58, h111⟩
                      | (rw [Int.add_zero]; exact zsb_f (P := fun i => works D p (1500 + (i : Int)) ∧ sc D (Ht D) p (50 + i) = tS D (Ht D) p) (fun q => h111 q.2))) (by omega)
              · exact absurd h69 (by decide)
      exact L43 _ 0 1500 0 (by omega) rfl (Nat.lt_succ_self _)
    · exfalso; first | exact h22 hact | exact h33 hsc
set_option maxRecDepth 20000 in
set_option maxHeartbeats 2000000 in
theorem sL_isClue {l : Launch} {w : zW} (hfl : l.stackTraces = false) {σ : zS} {D : zBk} {k : Nat} {z : Int} (hz : zOK σ) (hB : bK σ = D) (hW : WF D) (hP1 : 1 ≤ D 1 0) (hY : ∀ p : Nat, (p : Int) < D 1 0 → 1500 ≤ D 4 p ∧ D 5 p ≤ 1549) (hk : (k : Int) < D 12 0) (hzz : 0 ≤ z ∧ z ≤ 99999) : Sp l w mL_isClue 8 0 [zf 9 0, zi ((k : Nat) : Int), zi z] σ (zret (zi 1) σ) := by
  obtain ⟨Q, hQ⟩ : ∃ Q : zQ, Q = (zret (zi 1) σ) := ⟨_, rfl⟩
  rw [← hQ]
  refine zx_enter hfl (by decide) rfl 5 rfl ?_
  show zX l w mL_isClue (zMQ w 8 0 Q) 0 [zf 9 0, zi ((k : Nat) : Int), zi z, zu, zu, zu, zu, zu] [] 0 σ
  have hzD := hzDof hB hz
  have hn1 : 0 ≤ D 1 0 ∧ D 1 0 ≤ 8 := hW.1.1
  have hn12 : 0 ≤ D 12 0 ∧ D 12 0 ≤ 40 := hW.1.2.2.2
  have hm1 : 0 ≤ z % D 12 0 := Int.emod_nonneg _ (by omega)
  have hm2 : z % D 12 0 < D 12 0 := Int.emod_lt_of_pos _ (by omega)
  refine zx_iconst dL_isClue_0 ?_
  refine zy_istoreN [zf 9 0, zi ((k : Nat) : Int), zi z, zi 0, zu, zu, zu, zu] dL_isClue_1 rfl (Nat.le_of_ble_eq_true rfl) (Nat.le_of_ble_eq_true rfl) rfl rfl ?_
  refine zx_iconst dL_isClue_2 ?_
  refine zy_istore [zf 9 0, zi ((k : Nat) : Int), zi z, zi 0, zi 0, zu, zu, zu] dL_isClue_3 (Nat.le_of_ble_eq_true rfl) (Nat.le_of_ble_eq_true rfl) rfl rfl ?_
  refine zx_iconst dL_isClue_5 ?_
  refine zy_istore [zf 9 0, zi ((k : Nat) : Int), zi z, zi 0, zi 0, zi 0, zu, zu] dL_isClue_6 (Nat.le_of_ble_eq_true rfl) (Nat.le_of_ble_eq_true rfl) rfl rfl ?_
  have L8 : ∀ (N : Nat) (o : Nat) (acc : Int), ((o : Int) ≤ D 12 0) → (acc = zs (fun c => zb (¬ (c : Int) = (k : Int) ∧ ¬ tog D k c)) o) → (41 - o) < N → zX l w mL_isClue (zMQ w 8 0 Q) 8 [zf 9 0, zi ((k : Nat) : Int), zi z, zi acc, zi 0, zi ((o : Nat) : Int), zu, zu] [] 0 σ := by
    intro N
    induction N with
    | zero => intro o acc _ _ _; exact absurd (by assumption) (Nat.not_lt_zero _)
    | succ N ih8 =>
      intro o acc ho_ hacc hN
      have hab := zsb_le (fun c : Nat => ¬ (c : Int) = (k : Int) ∧ ¬ tog D k c) o
      refine zx_iload dL_isClue_8 rfl ?_
      refine zx_aloadN dL_isClue_10 rfl rfl ?_
      refine zy_cv [] (fX9_clueCount  hfl hz hB hW) dL_isClue_11 (by decide) rfl cw_RL_98 okX9_clueCount rfl (Nat.le_of_ble_eq_true rfl) ⟨Nat.le_of_ble_eq_true rfl, Nat.le_of_ble_eq_true rfl, Nat.le_of_ble_eq_true rfl, Nat.le_of_ble_eq_true rfl⟩ ?_
      refine zx_icmp_ge (tgt := 70) (by first | exact hz _ _ | assumption | exact zr_b _ | exact zcmp_r _ _ | exact hzD _ _ | exact zr3 (tS_b hW _) | exact zr3 (lsc_b hW _ _) | exact zr3 (sc_b hW _ _) | exact rkP_zr hW _ | exact scA_zr hW _ _ | exact zr3 (cW_b hW) | exact zr3 (wS_b hW) | (unfold zr at *; omega)) (by first | exact hz _ _ | assumption | exact zr_b _ | exact zcmp_r _ _ | exact hzD _ _ | exact zr3 (tS_b hW _) | exact zr3 (lsc_b hW _ _) | exact zr3 (sc_b hW _ _) | exact rkP_zr hW _ | exact scA_zr hW _ _ | exact zr3 (cW_b hW) | exact zr3 (wS_b hW) | (unfold zr at *; omega)) dL_isClue_14 (by decide) (fun h14 => ?_) (fun h14 => ?_)
      · refine zx_iconst dL_isClue_70 ?_
        refine zy_istore [zf 9 0, zi ((k : Nat) : Int), zi z, zi acc, zi 0, zi 0, zu, zu] dL_isClue_71 (Nat.le_of_ble_eq_true rfl) (Nat.le_of_ble_eq_true rfl) rfl rfl ?_
        have L73 : ∀ (N : Nat) (c : Nat) (f : Int), ((c : Int) ≤ D 1 0) → ((f = 0 ∧ ∀ q : Nat, q < c → ∀ v : Int, 1500 ≤ v → v < 1550 → ¬ (works D q v ∧ cFit D q v k)) ∨ f = 1) → (9 - c) < N → zX l w mL_isClue (zMQ w 8 0 Q) 73 [zf 9 0, zi ((k : Nat) : Int), zi z, zi acc, zi f, zi ((c : Nat) : Int), zu, zu] [] 0 σ := by
          intro N
          induction N with
          | zero => intro c f _ _ _; exact absurd (by assumption) (Nat.not_lt_zero _)
          | succ N ih73 =>
            intro c f hc_ hf hN
            refine zx_iload dL_isClue_73 rfl ?_
            refine zx_aloadN dL_isClue_75 rfl rfl ?_
            refine zy_cv [] (fX9_printerCount  hfl hz hB hW) dL_isClue_76 (by decide) rfl cw_RL_133 okX9_printerCount rfl (Nat.le_of_ble_eq_true rfl) ⟨Nat.le_of_ble_eq_true rfl, Nat.le_of_ble_eq_true rfl, Nat.le_of_ble_eq_true rfl, Nat.le_of_ble_eq_true rfl⟩ ?_
            refine zx_icmp_ge (tgt := 258) (by first | exact hz _ _ | assumption | exact zr_b _ | exact zcmp_r _ _ | exact hzD _ _ | exact zr3 (tS_b hW _) | exact zr3 (lsc_b hW _ _) | exact zr3 (sc_b hW _ _) | exact rkP_zr hW _ | exact scA_zr hW _ _ | exact zr3 (cW_b hW) | exact zr3 (wS_b hW) | (unfold zr at *; omega)) (by first | exact hz _ _ | assumption | exact zr_b _ | exact zcmp_r _ _ | exact hzD _ _ | exact zr3 (tS_b hW _) | exact zr3 (lsc_b hW _ _) | exact zr3 (sc_b hW _ _) | exact rkP_zr hW _ | exact scA_zr hW _ _ | exact zr3 (cW_b hW) | exact zr3 (wS_b hW) | (unfold zr at *; omega)) dL_isClue_79 (by decide) (fun h79 => ?_) (fun h79 => ?_)
            · refine zx_aloadN dL_isClue_258 rfl rfl ?_
              refine zx_iloadN dL_isClue_259 rfl rfl ?_
              refine zy_cv [zi ((k : Nat) : Int)] (fX9_contradictionsOf  hfl hz hB hW (by first | exact hz _ _ | assumption | exact zr_b _ | exact zcmp_r _ _ | exact hzD _ _ | exact zr3 (tS_b hW _) | exact zr3 (lsc_b hW _ _) | exact zr3 (sc_b hW _ _) | exact rkP_zr hW _ | exact scA_zr hW _ _ | exact zr3 (cW_b hW) | exact zr3 (wS_b hW) | (unfold zr at *; omega)) (by first | assumption | omega)) dL_isClue_260 (by decide) rfl cw_RL_171 okX9_contradictionsOf rfl (Nat.le_of_ble_eq_true rfl) ⟨Nat.le_of_ble_eq_true rfl, Nat.le_of_ble_eq_true rfl, Nat.le_of_ble_eq_true rfl, Nat.le_of_ble_eq_true rfl⟩ ?_
              refine zy_top (b := zs (fun c => zb (¬ (c : Int) = ((k : Nat) : Int) ∧ ¬ tog D k c)) (D 12 0).toNat) rfl ?_
              have hA : acc = zs (fun c => zb (¬ (c : Int) = (k : Int) ∧ ¬ tog D k c)) (D 12 0).toNat := by rw [hacc]; congr 1; omega
              have hAz : zr (zs (fun c => zb (¬ (c : Int) = (k : Int) ∧ ¬ tog D k c)) (D 12 0).toNat) := by have q := zsb_le (fun c : Nat => ¬ (c : Int) = (k : Int) ∧ ¬ tog D k c) (D 12 0).toNat; unfold zr; omega
              refine zx_iloadN dL_isClue_263 rfl rfl ?_
              refine zx_icmp_ne (tgt := 286) (by first | exact hz _ _ | assumption | exact zr_b _ | exact zcmp_r _ _ | exact hzD _ _ | exact zr3 (tS_b hW _) | exact zr3 (lsc_b hW _ _) | exact zr3 (sc_b hW _ _) | exact rkP_zr hW _ | exact scA_zr hW _ _ | exact zr3 (cW_b hW) | exact zr3 (wS_b hW) | (unfold zr at *; omega)) (by first | exact hz _ _ | assumption | exact zr_b _ | exact zcmp_r _ _ | exact hzD _ _ | exact zr3 (tS_b hW _) | exact zr3 (lsc_b hW _ _) | exact zr3 (sc_b hW _ _) | exact rkP_zr hW _ | exact scA_zr hW _ _ | exact zr3 (cW_b hW) | exact zr3 (wS_b hW) | (unfold zr at *; omega)) dL_isClue_264 (by decide) (fun h264 => ?_) (fun h264 => ?_)
              · exfalso
                first
                | exact h264 hA.symm
                | (rcases hf with ⟨f0, f1⟩ | f0
                   · have e := against_all hk (fun d => tog_no hY (fun p hp v v1 v2 => f1 p (by omega) v v1 v2))
                     rw [← hA] at e
                     omega
                   · omega)
              · refine zx_iload dL_isClue_267 rfl ?_
                refine zx_if_ne (tgt := 282) (by first | exact hz _ _ | assumption | exact zr_b _ | exact zcmp_r _ _ | exact hzD _ _ | exact zr3 (tS_b hW _) | exact zr3 (lsc_b hW _ _) | exact zr3 (sc_b hW _ _) | exact rkP_zr hW _ | exact scA_zr hW _ _ | exact zr3 (cW_b hW) | exact zr3 (wS_b hW) | (unfold zr at *; omega)) dL_isClue_269 (by decide) (fun h269 => ?_) (fun h269 => ?_)
                · refine zx_iconst dL_isClue_282 ?_
                  refine zx_goto (tgt := 287) dL_isClue_283 (by decide) ?_
                  refine zx_iret rfl rfl dL_isClue_287 ?_
                  rw [hQ]
                  refine ⟨congrArg (fun z : Int => (Sum.inl (some (zi z)) : Option zV ⊕ String)) ?_, by first | rfl | (exfalso; omega)⟩
                  first | rfl | omega | (split <;> first | rfl | omega)
                · refine zx_iloadN dL_isClue_272 rfl rfl ?_
                  refine zx_aloadN dL_isClue_273 rfl rfl ?_
                  refine zy_cv [] (fX9_clueCount  hfl hz hB hW) dL_isClue_274 (by decide) rfl cw_RL_98 okX9_clueCount rfl (Nat.le_of_ble_eq_true rfl) ⟨Nat.le_of_ble_eq_true rfl, Nat.le_of_ble_eq_true rfl, Nat.le_of_ble_eq_true rfl, Nat.le_of_ble_eq_true rfl⟩ ?_
                  refine zx_iconst dL_isClue_277 ?_
                  refine zx_isub dL_isClue_278 ?_
                  refine zx_icmp_ne (tgt := 286) (by first | exact hz _ _ | assumption | exact zr_b _ | exact zcmp_r _ _ | exact hzD _ _ | exact zr3 (tS_b hW _) | exact zr3 (lsc_b hW _ _) | exact zr3 (sc_b hW _ _) | exact rkP_zr hW _ | exact scA_zr hW _ _ | exact zr3 (cW_b hW) | exact zr3 (wS_b hW) | (unfold zr at *; omega)) (by first | exact hz _ _ | assumption | exact zr_b _ | exact zcmp_r _ _ | exact hzD _ _ | exact zr3 (tS_b hW _) | exact zr3 (lsc_b hW _ _) | exact zr3 (sc_b hW _ _) | exact rkP_zr hW _ | exact scA_zr hW _ _ | exact zr3 (cW_b hW) | exact zr3 (wS_b hW) | (unfold zr at *; omega)) dL_isClue_279 (by decide) (fun h279 => ?_) (fun h279 => ?_)
                  · exfalso
                    first
                    | exact h264 hA.symm
                    | (rcases hf with ⟨f0, f1⟩ | f0
                       · have e := against_all hk (fun d => tog_no hY (fun p hp v v1 v2 => f1 p (by omega) v v1 v2))
                         rw [← hA] at e
                         omega
                       · omega)
                  · refine zx_iconst dL_isClue_282 ?_
                    refine zx_goto (tgt := 287) dL_isClue_283 (by decide) ?_
                    refine zx_iret rfl rfl dL_isClue_287 ?_
                    rw [hQ]
                    refine ⟨congrArg (fun z : Int => (Sum.inl (some (zi z)) : Option zV ⊕ String)) ?_, by first | rfl | (exfalso; omega)⟩
                    first | rfl | omega | (split <;> first | rfl | omega)
            · refine zx_sipush dL_isClue_82 rfl ?_
              refine zy_istore [zf 9 0, zi ((k : Nat) : Int), zi z, zi acc, zi f, zi ((c : Nat) : Int), zi 1500, zu] dL_isClue_85 (Nat.le_of_ble_eq_true rfl) (Nat.le_of_ble_eq_true rfl) rfl rfl ?_
              have L87 : ∀ (N : Nat) (y : Int) (g : Int), (1500 ≤ y ∧ y ≤ 1550) → ((g = 0 ∧ (∀ q : Nat, q < c → ∀ v : Int, 1500 ≤ v → v < 1550 → ¬ (works D q v ∧ cFit D q v k)) ∧ ∀ v : Int, 1500 ≤ v → v < y → ¬ (works D c v ∧ cFit D c v k)) ∨ g = 1) → ((1551 - y).toNat) < N → zX l w mL_isClue (zMQ w 8 0 Q) 87 [zf 9 0, zi ((k : Nat) : Int), zi z, zi acc, zi g, zi ((c : Nat) : Int), zi y, zu] [] 0 σ := by
                intro N
                induction N with
                | zero => intro y g _ _ _; exact absurd (by assumption) (Nat.not_lt_zero _)
                | succ N ih87 =>
                  intro y g hy_ hg hN
                  refine zx_iload dL_isClue_87 rfl ?_
                  refine zx_sipush dL_isClue_89 rfl ?_
                  refine zx_icmp_ge (tgt := 252) (by first | exact hz _ _ | assumption | exact zr_b _ | exact zcmp_r _ _ | exact hzD _ _ | exact zr3 (tS_b hW _) | exact zr3 (lsc_b hW _ _) | exact zr3 (sc_b hW _ _) | exact rkP_zr hW _ | exact scA_zr hW _ _ | exact zr3 (cW_b hW) | exact zr3 (wS_b hW) | (unfold zr at *; omega)) (by first | exact hz _ _ | assumption | exact zr_b _ | exact zcmp_r _ _ | exact hzD _ _ | exact zr3 (tS_b hW _) | exact zr3 (lsc_b hW _ _) | exact zr3 (sc_b hW _ _) | exact rkP_zr hW _ | exact scA_zr hW _ _ | exact zr3 (cW_b hW) | exact zr3 (wS_b hW) | (unfold zr at *; omega)) dL_isClue_92 (by decide) (fun h92 => ?_) (fun h92 => ?_)
                  · refine zy_iinc (b := ((c + 1 : Nat) : Int)) [zf 9 0, zi ((k : Nat) : Int), zi z, zi acc, zi g, zi ((c + 1 : Nat) : Int), zi y, zu] dL_isClue_252 rfl (by omega) (Nat.le_of_ble_eq_true rfl) rfl rfl ?_
                    refine zx_goto (tgt := 73) dL_isClue_255 (by decide) ?_
                    refine zy_drop 6 [zf 9 0, zi ((k : Nat) : Int), zi z, zi acc, zi g, zi ((c + 1 : Nat) : Int), zu, zu] rfl ?_
                    exact ih73 (c + 1) g (by omega) (by
                           rcases hg with ⟨g0, g1, g2⟩ | g0
                           · refine Or.inl ⟨g0, fun q hq v v1 v2 => ?_⟩
                             by_cases e : q = c
                             · subst e; exact g2 v v1 (by omega)
                             · exact g1 q (by omega) v v1 v2
                           · exact Or.inr g0) (by omega)
                  · refine zx_aloadN dL_isClue_95 rfl rfl ?_
                    refine zx_iload dL_isClue_96 rfl ?_
                    refine zx_iload dL_isClue_98 rfl ?_
                    refine zx_iloadN dL_isClue_100 rfl rfl ?_
                    refine zy_cv [zi ((c : Nat) : Int), zi y, zi ((k : Nat) : Int)] (fX9_explains  hfl hz hB hW (by first | exact hz _ _ | assumption | exact zr_b _ | exact zcmp_r _ _ | exact hzD _ _ | exact zr3 (tS_b hW _) | exact zr3 (lsc_b hW _ _) | exact zr3 (sc_b hW _ _) | exact rkP_zr hW _ | exact scA_zr hW _ _ | exact zr3 (cW_b hW) | exact zr3 (wS_b hW) | (unfold zr at *; omega)) (by first | exact hz _ _ | assumption | exact zr_b _ | exact zcmp_r _ _ | exact hzD _ _ | exact zr3 (tS_b hW _) | exact zr3 (lsc_b hW _ _) | exact zr3 (sc_b hW _ _) | exact rkP_zr hW _ | exact scA_zr hW _ _ | exact zr3 (cW_b hW) | exact zr3 (wS_b hW) | (unfold zr at *; omega)) (by first | exact hz _ _ | assumption | exact zr_b _ | exact zcmp_r _ _ | exact hzD _ _ | exact zr3 (tS_b hW _) | exact zr3 (lsc_b hW _ _) | exact zr3 (sc_b hW _ _) | exact rkP_zr hW _ | exact scA_zr hW _ _ | exact zr3 (cW_b hW) | exact zr3 (wS_b hW) | (unfold zr at *; omega)) (by first | assumption | omega) (by first | assumption | omega) (by first | assumption | omega)) dL_isClue_101 (by decide) rfl cw_RL_140 okX9_explains rfl (Nat.le_of_ble_eq_true rfl) ⟨Nat.le_of_ble_eq_true rfl, Nat.le_of_ble_eq_true rfl, Nat.le_of_ble_eq_true rfl, Nat.le_of_ble_eq_true rfl⟩ ?_
                    refine zy_top (b := zb (works D c y ∧ cFit D c y k)) rfl ?_
                    refine zx_if_ne (tgt := 110) (by first | exact hz _ _ | assumption | exact zr_b _ | exact zcmp_r _ _ | exact hzD _ _ | exact zr3 (tS_b hW _) | exact zr3 (lsc_b hW _ _) | exact zr3 (sc_b hW _ _) | exact rkP_zr hW _ | exact scA_zr hW _ _ | exact zr3 (cW_b hW) | exact zr3 (wS_b hW) | (unfold zr at *; omega)) dL_isClue_104 (by decide) (fun h104 => ?_) (fun h104 => ?_)
                    · have h104 := zb_n.mp h104
                      refine zx_iconst dL_isClue_110 ?_
                      refine zy_istore [zf 9 0, zi ((k : Nat) : Int), zi z, zi acc, zi 1, zi ((c : Nat) : Int), zi y, zu] dL_isClue_111 (Nat.le_of_ble_eq_true rfl) (Nat.le_of_ble_eq_true rfl) rfl rfl ?_
                      refine zx_aloadN dL_isClue_113 rfl rfl ?_
                      refine zx_iload dL_isClue_114 rfl ?_
                      refine zx_iload dL_isClue_116 rfl ?_
                      refine zy_cv [zi ((c : Nat) : Int), zi y] (fX9_isActive  hfl hz hB hW (by first | exact hz _ _ | assumption | exact zr_b _ | exact zcmp_r _ _ | exact hzD _ _ | exact zr3 (tS_b hW _) | exact zr3 (lsc_b hW _ _) | exact zr3 (sc_b hW _ _) | exact rkP_zr hW _ | exact scA_zr hW _ _ | exact zr3 (cW_b hW) | exact zr3 (wS_b hW) | (unfold zr at *; omega)) (by first | exact hz _ _ | assumption | exact zr_b _ | exact zcmp_r _ _ | exact hzD _ _ | exact zr3 (tS_b hW _) | exact zr3 (lsc_b hW _ _) | exact zr3 (sc_b hW _ _) | exact rkP_zr hW _ | exact scA_zr hW _ _ | exact zr3 (cW_b hW) | exact zr3 (wS_b hW) | (unfold zr at *; omega)) (by first | assumption | omega) (by first | assumption | omega)) dL_isClue_118 (by decide) rfl cw_RL_150 okX9_isActive rfl (Nat.le_of_ble_eq_true rfl) ⟨Nat.le_of_ble_eq_true rfl, Nat.le_of_ble_eq_true rfl, Nat.le_of_ble_eq_true rfl, Nat.le_of_ble_eq_true rfl⟩ ?_
                      refine zy_top (b := zb (works D c y)) rfl ?_
                      refine zx_if_eq (tgt := 211) (by first | exact hz _ _ | assumption | exact zr_b _ | exact zcmp_r _ _ | exact hzD _ _ | exact zr3 (tS_b hW _) | exact zr3 (lsc_b hW _ _) | exact zr3 (sc_b hW _ _) | exact rkP_zr hW _ | exact scA_zr hW _ _ | exact zr3 (cW_b hW) | exact zr3 (wS_b hW) | (unfold zr at *; omega)) dL_isClue_121 (by decide) (fun h121 => ?_) (fun h121 => ?_)
                      · have h121 := zb_0.mp h121
                        exfalso
                        have hcf := h104.2
                        unfold cFit pFit eYr lYr at hcf
                        first
                        | exact h121 h104.1
                        | exact h143 (hcf.1.1 h129)
                        | exact h166 (hcf.1.2.1 h152)
                        | exact h189 (hcf.1.2.2 h175)
                        | (have e2 := hcf.2
                           rw [if_pos h198, if_pos h198] at e2
                           omega)
                      · have h121 := zb_n.mp h121
                        refine zx_aloadN dL_isClue_124 rfl rfl ?_
                        refine zx_iloadN dL_isClue_125 rfl rfl ?_
                        refine zy_cv [zi ((k : Nat) : Int)] (fX9_kindOf  hfl hz hB hW (by first | exact hz _ _ | assumption | exact zr_b _ | exact zcmp_r _ _ | exact hzD _ _ | exact zr3 (tS_b hW _) | exact zr3 (lsc_b hW _ _) | exact zr3 (sc_b hW _ _) | exact rkP_zr hW _ | exact scA_zr hW _ _ | exact zr3 (cW_b hW) | exact zr3 (wS_b hW) | (unfold zr at *; omega)) (by first | assumption | omega)) dL_isClue_126 (by decide) rfl cw_RL_109 okX9_kindOf rfl (Nat.le_of_ble_eq_true rfl) ⟨Nat.le_of_ble_eq_true rfl, Nat.le_of_ble_eq_true rfl, Nat.le_of_ble_eq_true rfl, Nat.le_of_ble_eq_true rfl⟩ ?_
                        refine zy_top (b := D 14 k) rfl ?_
                        refine zx_if_ne (tgt := 146) (by first | exact hz _ _ | assumption | exact zr_b _ | exact zcmp_r _ _ | exact hzD _ _ | exact zr3 (tS_b hW _) | exact zr3 (lsc_b hW _ _) | exact zr3 (sc_b hW _ _) | exact rkP_zr hW _ | exact scA_zr hW _ _ | exact zr3 (cW_b hW) | exact zr3 (wS_b hW) | (unfold zr at *; omega)) dL_isClue_129 (by decide) (fun h129 => ?_) (fun h129 => ?_)
                        · refine zx_aloadN dL_isClue_146 rfl rfl ?_
                          refine zx_iloadN dL_isClue_147 rfl rfl ?_
                          refine zy_cv [zi ((k : Nat) : Int)] (fX9_kindOf  hfl hz hB hW (by first | exact hz _ _ | assumption | exact zr_b _ | exact zcmp_r _ _ | exact hzD _ _ | exact zr3 (tS_b hW _) | exact zr3 (lsc_b hW _ _) | exact zr3 (sc_b hW _ _) | exact rkP_zr hW _ | exact scA_zr hW _ _ | exact zr3 (cW_b hW) | exact zr3 (wS_b hW) | (unfold zr at *; omega)) (by first | assumption | omega)) dL_isClue_148 (by decide) rfl cw_RL_109 okX9_kindOf rfl (Nat.le_of_ble_eq_true rfl) ⟨Nat.le_of_ble_eq_true rfl, Nat.le_of_ble_eq_true rfl, Nat.le_of_ble_eq_true rfl, Nat.le_of_ble_eq_true rfl⟩ ?_
                          refine zy_top (b := D 14 k) rfl ?_
                          refine zx_iconst dL_isClue_151 ?_
                          refine zx_icmp_ne (tgt := 169) (by first | exact hz _ _ | assumption | exact zr_b _ | exact zcmp_r _ _ | exact hzD _ _ | exact zr3 (tS_b hW _) | exact zr3 (lsc_b hW _ _) | exact zr3 (sc_b hW _ _) | exact rkP_zr hW _ | exact scA_zr hW _ _ | exact zr3 (cW_b hW) | exact zr3 (wS_b hW) | (unfold zr at *; omega)) (by first | exact hz _ _ | assumption | exact zr_b _ | exact zcmp_r _ _ | exact hzD _ _ | exact zr3 (tS_b hW _) | exact zr3 (lsc_b hW _ _) | exact zr3 (sc_b hW _ _) | exact rkP_zr hW _ | exact scA_zr hW _ _ | exact zr3 (cW_b hW) | exact zr3 (wS_b hW) | (unfold zr at *; omega)) dL_isClue_152 (by decide) (fun h152 => ?_) (fun h152 => ?_)
                          · refine zx_aloadN dL_isClue_169 rfl rfl ?_
                            refine zx_iloadN dL_isClue_170 rfl rfl ?_
                            refine zy_cv [zi ((k : Nat) : Int)] (fX9_kindOf  hfl hz hB hW (by first | exact hz _ _ | assumption | exact zr_b _ | exact zcmp_r _ _ | exact hzD _ _ | exact zr3 (tS_b hW _) | exact zr3 (lsc_b hW _ _) | exact zr3 (sc_b hW _ _) | exact rkP_zr hW _ | exact scA_zr hW _ _ | exact zr3 (cW_b hW) | exact zr3 (wS_b hW) | (unfold zr at *; omega)) (by first | assumption | omega)) dL_isClue_171 (by decide) rfl cw_RL_109 okX9_kindOf rfl (Nat.le_of_ble_eq_true rfl) ⟨Nat.le_of_ble_eq_true rfl, Nat.le_of_ble_eq_true rfl, Nat.le_of_ble_eq_true rfl, Nat.le_of_ble_eq_true rfl⟩ ?_
                            refine zy_top (b := D 14 k) rfl ?_
                            refine zx_iconst dL_isClue_174 ?_
                            refine zx_icmp_ne (tgt := 192) (by first | exact hz _ _ | assumption | exact zr_b _ | exact zcmp_r _ _ | exact hzD _ _ | exact zr3 (tS_b hW _) | exact zr3 (lsc_b hW _ _) | exact zr3 (sc_b hW _ _) | exact rkP_zr hW _ | exact scA_zr hW _ _ | exact zr3 (cW_b hW) | exact zr3 (wS_b hW) | (unfold zr at *; omega)) (by first | exact hz _ _ | assumption | exact zr_b _ | exact zcmp_r _ _ | exact hzD _ _ | exact zr3 (tS_b hW _) | exact zr3 (lsc_b hW _ _) | exact zr3 (sc_b hW _ _) | exact rkP_zr hW _ | exact scA_zr hW _ _ | exact zr3 (cW_b hW) | exact zr3 (wS_b hW) | (unfold zr at *; omega)) dL_isClue_175 (by decide) (fun h175 => ?_) (fun h175 => ?_)
                            · refine zx_aloadN dL_isClue_192 rfl rfl ?_
                              refine zx_iloadN dL_isClue_193 rfl rfl ?_
                              refine zy_cv [zi ((k : Nat) : Int)] (fX9_kindOf  hfl hz hB hW (by first | exact hz _ _ | assumption | exact zr_b _ | exact zcmp_r _ _ | exact hzD _ _ | exact zr3 (tS_b hW _) | exact zr3 (lsc_b hW _ _) | exact zr3 (sc_b hW _ _) | exact rkP_zr hW _ | exact scA_zr hW _ _ | exact zr3 (cW_b hW) | exact zr3 (wS_b hW) | (unfold zr at *; omega)) (by first | assumption | omega)) dL_isClue_194 (by decide) rfl cw_RL_109 okX9_kindOf rfl (Nat.le_of_ble_eq_true rfl) ⟨Nat.le_of_ble_eq_true rfl, Nat.le_of_ble_eq_true rfl, Nat.le_of_ble_eq_true rfl, Nat.le_of_ble_eq_true rfl⟩ ?_
                              refine zy_top (b := D 14 k) rfl ?_
                              refine zx_iconst dL_isClue_197 ?_
                              refine zx_icmp_ne (tgt := 213) (by first | exact hz _ _ | assumption | exact zr_b _ | exact zcmp_r _ _ | exact hzD _ _ | exact zr3 (tS_b hW _) | exact zr3 (lsc_b hW _ _) | exact zr3 (sc_b hW _ _) | exact rkP_zr hW _ | exact scA_zr hW _ _ | exact zr3 (cW_b hW) | exact zr3 (wS_b hW) | (unfold zr at *; omega)) (by first | exact hz _ _ | assumption | exact zr_b _ | exact zcmp_r _ _ | exact hzD _ _ | exact zr3 (tS_b hW _) | exact zr3 (lsc_b hW _ _) | exact zr3 (sc_b hW _ _) | exact rkP_zr hW _ | exact scA_zr hW _ _ | exact zr3 (cW_b hW) | exact zr3 (wS_b hW) | (unfold zr at *; omega)) dL_isClue_198 (by decide) (fun h198 => ?_) (fun h198 => ?_)
                              · refine zx_iloadN dL_isClue_213 rfl rfl ?_
                                refine zx_aloadN dL_isClue_214 rfl rfl ?_
                                refine zy_cv [] (fX9_clueCount  hfl hz hB hW) dL_isClue_215 (by decide) rfl cw_RL_98 okX9_clueCount rfl (Nat.le_of_ble_eq_true rfl) ⟨Nat.le_of_ble_eq_true rfl, Nat.le_of_ble_eq_true rfl, Nat.le_of_ble_eq_true rfl, Nat.le_of_ble_eq_true rfl⟩ ?_
                                refine zx_irem (by omega) (by omega) (by omega) (by omega) dL_isClue_218 ?_
                                refine zy_istore [zf 9 0, zi ((k : Nat) : Int), zi z, zi acc, zi 1, zi ((c : Nat) : Int), zi y, zi (z % (D 12 0))] dL_isClue_219 (Nat.le_of_ble_eq_true rfl) (Nat.le_of_ble_eq_true rfl) rfl rfl ?_
                                refine zx_aloadN dL_isClue_221 rfl rfl ?_
                                refine zx_iload dL_isClue_222 rfl ?_
                                refine zx_iload dL_isClue_224 rfl ?_
                                refine zx_iload dL_isClue_226 rfl ?_
                                refine zy_cv [zi ((c : Nat) : Int), zi y, zi (z % (D 12 0))] (fX9_explains  hfl hz hB hW (by first | exact hz _ _ | assumption | exact zr_b _ | exact zcmp_r _ _ | exact hzD _ _ | exact zr3 (tS_b hW _) | exact zr3 (lsc_b hW _ _) | exact zr3 (sc_b hW _ _) | exact rkP_zr hW _ | exact scA_zr hW _ _ | exact zr3 (cW_b hW) | exact zr3 (wS_b hW) | (unfold zr at *; omega)) (by first | exact hz _ _ | assumption | exact zr_b _ | exact zcmp_r _ _ | exact hzD _ _ | exact zr3 (tS_b hW _) | exact zr3 (lsc_b hW _ _) | exact zr3 (sc_b hW _ _) | exact rkP_zr hW _ | exact scA_zr hW _ _ | exact zr3 (cW_b hW) | exact zr3 (wS_b hW) | (unfold zr at *; omega)) (by first | exact hz _ _ | assumption | exact zr_b _ | exact zcmp_r _ _ | exact hzD _ _ | exact zr3 (tS_b hW _) | exact zr3 (lsc_b hW _ _) | exact zr3 (sc_b hW _ _) | exact rkP_zr hW _ | exact scA_zr hW _ _ | exact zr3 (cW_b hW) | exact zr3 (wS_b hW) | (unfold zr at *; omega)) (by first | assumption | omega) (by first | assumption | omega) (by first | assumption | omega)) dL_isClue_228 (by decide) rfl cw_RL_140 okX9_explains rfl (Nat.le_of_ble_eq_true rfl) ⟨Nat.le_of_ble_eq_true rfl, Nat.le_of_ble_eq_true rfl, Nat.le_of_ble_eq_true rfl, Nat.le_of_ble_eq_true rfl⟩ ?_
                                refine zy_top (b := zb (works D c y ∧ cFit D c y (z % (D 12 0)).toNat)) rfl ?_
                                refine zx_if_eq (tgt := 246) (by first | exact hz _ _ | assumption | exact zr_b _ | exact zcmp_r _ _ | exact hzD _ _ | exact zr3 (tS_b hW _) | exact zr3 (lsc_b hW _ _) | exact zr3 (sc_b hW _ _) | exact rkP_zr hW _ | exact scA_zr hW _ _ | exact zr3 (cW_b hW) | exact zr3 (wS_b hW) | (unfold zr at *; omega)) dL_isClue_231 (by decide) (fun h231 => ?_) (fun h231 => ?_)
                                · have h231 := zb_0.mp h231
                                  refine zy_iinc (b := y + 1) [zf 9 0, zi ((k : Nat) : Int), zi z, zi acc, zi 1, zi ((c : Nat) : Int), zi (y + 1), zi (z % (D 12 0))] dL_isClue_246 rfl (by omega) (Nat.le_of_ble_eq_true rfl) rfl rfl ?_
                                  refine zx_goto (tgt := 87) dL_isClue_249 (by decide) ?_
                                  refine zy_drop 7 [zf 9 0, zi ((k : Nat) : Int), zi z, zi acc, zi 1, zi ((c : Nat) : Int), zi (y + 1), zu] rfl ?_
                                  exact ih87 (y + 1) 1 (by omega) (by
                                         first
                                         | exact Or.inr rfl
                                         | (rcases hg with ⟨g0, g1, g2⟩ | g0
                                            · refine Or.inl ⟨g0, g1, fun v v1 v2 => ?_⟩
                                              by_cases e : v = y
                                              · rw [e]; exact h104
                                              · exact g2 v v1 (by omega)
                                            · exact Or.inr g0)) (by omega)
                                · have h231 := zb_n.mp h231
                                  refine zx_aloadN dL_isClue_234 rfl rfl ?_
                                  refine zx_iloadN dL_isClue_235 rfl rfl ?_
                                  refine zx_iload dL_isClue_236 rfl ?_
                                  refine zy_cv [zi ((k : Nat) : Int), zi (z % (D 12 0))] (fX9_contradict  hfl hz hB hW (by first | exact hz _ _ | assumption | exact zr_b _ | exact zcmp_r _ _ | exact hzD _ _ | exact zr3 (tS_b hW _) | exact zr3 (lsc_b hW _ _) | exact zr3 (sc_b hW _ _) | exact rkP_zr hW _ | exact scA_zr hW _ _ | exact zr3 (cW_b hW) | exact zr3 (wS_b hW) | (unfold zr at *; omega)) (by first | exact hz _ _ | assumption | exact zr_b _ | exact zcmp_r _ _ | exact hzD _ _ | exact zr3 (tS_b hW _) | exact zr3 (lsc_b hW _ _) | exact zr3 (sc_b hW _ _) | exact rkP_zr hW _ | exact scA_zr hW _ _ | exact zr3 (cW_b hW) | exact zr3 (wS_b hW) | (unfold zr at *; omega)) (by first | assumption | omega) (by first | assumption | omega)) dL_isClue_238 (by decide) rfl cw_RL_162 okX9_contradict rfl (Nat.le_of_ble_eq_true rfl) ⟨Nat.le_of_ble_eq_true rfl, Nat.le_of_ble_eq_true rfl, Nat.le_of_ble_eq_true rfl, Nat.le_of_ble_eq_true rfl⟩ ?_
                                  refine zy_top (b := zb (¬ ((k : Nat) : Int) = (z % (D 12 0)) ∧ ¬ tog D k (z % (D 12 0)).toNat)) rfl ?_
                                  refine zx_if_eq (tgt := 246) (by first | exact hz _ _ | assumption | exact zr_b _ | exact zcmp_r _ _ | exact hzD _ _ | exact zr3 (tS_b hW _) | exact zr3 (lsc_b hW _ _) | exact zr3 (sc_b hW _ _) | exact rkP_zr hW _ | exact scA_zr hW _ _ | exact zr3 (cW_b hW) | exact zr3 (wS_b hW) | (unfold zr at *; omega)) dL_isClue_241 (by decide) (fun h241 => ?_) (fun h241 => ?_)
                                  · have h241 := zb_0.mp h241
                                    refine zy_iinc (b := y + 1) [zf 9 0, zi ((k : Nat) : Int), zi z, zi acc, zi 1, zi ((c : Nat) : Int), zi (y + 1), zi (z % (D 12 0))] dL_isClue_246 rfl (by omega) (Nat.le_of_ble_eq_true rfl) rfl rfl ?_
                                    refine zx_goto (tgt := 87) dL_isClue_249 (by decide) ?_
                                    refine zy_drop 7 [zf 9 0, zi ((k : Nat) : Int), zi z, zi acc, zi 1, zi ((c : Nat) : Int), zi (y + 1), zu] rfl ?_
                                    exact ih87 (y + 1) 1 (by omega) (by
                                           first
                                           | exact Or.inr rfl
                                           | (rcases hg with ⟨g0, g1, g2⟩ | g0
                                              · refine Or.inl ⟨g0, g1, fun v v1 v2 => ?_⟩
                                                by_cases e : v = y
                                                · rw [e]; exact h104
                                                · exact g2 v v1 (by omega)
                                              · exact Or.inr g0)) (by omega)
                                  · have h241 := zb_n.mp h241
                                    exfalso; exact h241.2 (tog_of (by omega) h104.1 h104.2 h231.2)
                              · refine zx_iload dL_isClue_201 rfl ?_
                                refine zx_aloadN dL_isClue_203 rfl rfl ?_
                                refine zx_iloadN dL_isClue_204 rfl rfl ?_
                                refine zy_cv [zi ((k : Nat) : Int)] (fX9_valueOf  hfl hz hB hW (by first | exact hz _ _ | assumption | exact zr_b _ | exact zcmp_r _ _ | exact hzD _ _ | exact zr3 (tS_b hW _) | exact zr3 (lsc_b hW _ _) | exact zr3 (sc_b hW _ _) | exact rkP_zr hW _ | exact scA_zr hW _ _ | exact zr3 (cW_b hW) | exact zr3 (wS_b hW) | (unfold zr at *; omega)) (by first | assumption | omega)) dL_isClue_205 (by decide) rfl cw_RL_114 okX9_valueOf rfl (Nat.le_of_ble_eq_true rfl) ⟨Nat.le_of_ble_eq_true rfl, Nat.le_of_ble_eq_true rfl, Nat.le_of_ble_eq_true rfl, Nat.le_of_ble_eq_true rfl⟩ ?_
                                refine zy_top (b := D 15 k) rfl ?_
                                refine zx_icmp_eq (tgt := 213) (by first | exact hz _ _ | assumption | exact zr_b _ | exact zcmp_r _ _ | exact hzD _ _ | exact zr3 (tS_b hW _) | exact zr3 (lsc_b hW _ _) | exact zr3 (sc_b hW _ _) | exact rkP_zr hW _ | exact scA_zr hW _ _ | exact zr3 (cW_b hW) | exact zr3 (wS_b hW) | (unfold zr at *; omega)) (by first | exact hz _ _ | assumption | exact zr_b _ | exact zcmp_r _ _ | exact hzD _ _ | exact zr3 (tS_b hW _) | exact zr3 (lsc_b hW _ _) | exact zr3 (sc_b hW _ _) | exact rkP_zr hW _ | exact scA_zr hW _ _ | exact zr3 (cW_b hW) | exact zr3 (wS_b hW) | (unfold zr at *; omega)) dL_isClue_208 (by decide) (fun h208 => ?_) (fun h208 => ?_)
                                · refine zx_iloadN dL_isClue_213 rfl rfl ?_
                                  refine zx_aloadN dL_isClue_214 rfl rfl ?_
                                  refine zy_cv [] (fX9_clueCount  hfl hz hB hW) dL_isClue_215 (by decide) rfl cw_RL_98 okX9_clueCount rfl (Nat.le_of_ble_eq_true rfl) ⟨Nat.le_of_ble_eq_true rfl, Nat.le_of_ble_eq_true rfl, Nat.le_of_ble_eq_true rfl, Nat.le_of_ble_eq_true rfl⟩ ?_
                                  refine zx_irem (by omega) (by omega) (by omega) (by omega) dL_isClue_218 ?_
                                  refine zy_istore [zf 9 0, zi ((k : Nat) : Int), zi z, zi acc, zi 1, zi ((c : Nat) : Int), zi y, zi (z % (D 12 0))] dL_isClue_219 (Nat.le_of_ble_eq_true rfl) (Nat.le_of_ble_eq_true rfl) rfl rfl ?_
                                  refine zx_aloadN dL_isClue_221 rfl rfl ?_
                                  refine zx_iload dL_isClue_222 rfl ?_
                                  refine zx_iload dL_isClue_224 rfl ?_
                                  refine zx_iload dL_isClue_226 rfl ?_
                                  refine zy_cv [zi ((c : Nat) : Int), zi y, zi (z % (D 12 0))] (fX9_explains  hfl hz hB hW (by first | exact hz _ _ | assumption | exact zr_b _ | exact zcmp_r _ _ | exact hzD _ _ | exact zr3 (tS_b hW _) | exact zr3 (lsc_b hW _ _) | exact zr3 (sc_b hW _ _) | exact rkP_zr hW _ | exact scA_zr hW _ _ | exact zr3 (cW_b hW) | exact zr3 (wS_b hW) | (unfold zr at *; omega)) (by first | exact hz _ _ | assumption | exact zr_b _ | exact zcmp_r _ _ | exact hzD _ _ | exact zr3 (tS_b hW _) | exact zr3 (lsc_b hW _ _) | exact zr3 (sc_b hW _ _) | exact rkP_zr hW _ | exact scA_zr hW _ _ | exact zr3 (cW_b hW) | exact zr3 (wS_b hW) | (unfold zr at *; omega)) (by first | exact hz _ _ | assumption | exact zr_b _ | exact zcmp_r _ _ | exact hzD _ _ | exact zr3 (tS_b hW _) | exact zr3 (lsc_b hW _ _) | exact zr3 (sc_b hW _ _) | exact rkP_zr hW _ | exact scA_zr hW _ _ | exact zr3 (cW_b hW) | exact zr3 (wS_b hW) | (unfold zr at *; omega)) (by first | assumption | omega) (by first | assumption | omega) (by first | assumption | omega)) dL_isClue_228 (by decide) rfl cw_RL_140 okX9_explains rfl (Nat.le_of_ble_eq_true rfl) ⟨Nat.le_of_ble_eq_true rfl, Nat.le_of_ble_eq_true rfl, Nat.le_of_ble_eq_true rfl, Nat.le_of_ble_eq_true rfl⟩ ?_
                                  refine zy_top (b := zb (works D c y ∧ cFit D c y (z % (D 12 0)).toNat)) rfl ?_
                                  refine zx_if_eq (tgt := 246) (by first | exact hz _ _ | assumption | exact zr_b _ | exact zcmp_r _ _ | exact hzD _ _ | exact zr3 (tS_b hW _) | exact zr3 (lsc_b hW _ _) | exact zr3 (sc_b hW _ _) | exact rkP_zr hW _ | exact scA_zr hW _ _ | exact zr3 (cW_b hW) | exact zr3 (wS_b hW) | (unfold zr at *; omega)) dL_isClue_231 (by decide) (fun h231 => ?_) (fun h231 => ?_)
                                  · have h231 := zb_0.mp h231
                                    refine zy_iinc (b := y + 1) [zf 9 0, zi ((k : Nat) : Int), zi z, zi acc, zi 1, zi ((c : Nat) : Int), zi (y + 1), zi (z % (D 12 0))] dL_isClue_246 rfl (by omega) (Nat.le_of_ble_eq_true rfl) rfl rfl ?_
                                    refine zx_goto (tgt := 87) dL_isClue_249 (by decide) ?_
                                    refine zy_drop 7 [zf 9 0, zi ((k : Nat) : Int), zi z, zi acc, zi 1, zi ((c : Nat) : Int), zi (y + 1), zu] rfl ?_
                                    exact ih87 (y + 1) 1 (by omega) (by
                                           first
                                           | exact Or.inr rfl
                                           | (rcases hg with ⟨g0, g1, g2⟩ | g0
                                              · refine Or.inl ⟨g0, g1, fun v v1 v2 => ?_⟩
                                                by_cases e : v = y
                                                · rw [e]; exact h104
                                                · exact g2 v v1 (by omega)
                                              · exact Or.inr g0)) (by omega)
                                  · have h231 := zb_n.mp h231
                                    refine zx_aloadN dL_isClue_234 rfl rfl ?_
                                    refine zx_iloadN dL_isClue_235 rfl rfl ?_
                                    refine zx_iload dL_isClue_236 rfl ?_
                                    refine zy_cv [zi ((k : Nat) : Int), zi (z % (D 12 0))] (fX9_contradict  hfl hz hB hW (by first | exact hz _ _ | assumption | exact zr_b _ | exact zcmp_r _ _ | exact hzD _ _ | exact zr3 (tS_b hW _) | exact zr3 (lsc_b hW _ _) | exact zr3 (sc_b hW _ _) | exact rkP_zr hW _ | exact scA_zr hW _ _ | exact zr3 (cW_b hW) | exact zr3 (wS_b hW) | (unfold zr at *; omega)) (by first | exact hz _ _ | assumption | exact zr_b _ | exact zcmp_r _ _ | exact hzD _ _ | exact zr3 (tS_b hW _) | exact zr3 (lsc_b hW _ _) | exact zr3 (sc_b hW _ _) | exact rkP_zr hW _ | exact scA_zr hW _ _ | exact zr3 (cW_b hW) | exact zr3 (wS_b hW) | (unfold zr at *; omega)) (by first | assumption | omega) (by first | assumption | omega)) dL_isClue_238 (by decide) rfl cw_RL_162 okX9_contradict rfl (Nat.le_of_ble_eq_true rfl) ⟨Nat.le_of_ble_eq_true rfl, Nat.le_of_ble_eq_true rfl, Nat.le_of_ble_eq_true rfl, Nat.le_of_ble_eq_true rfl⟩ ?_
                                    refine zy_top (b := zb (¬ ((k : Nat) : Int) = (z % (D 12 0)) ∧ ¬ tog D k (z % (D 12 0)).toNat)) rfl ?_
                                    refine zx_if_eq (tgt := 246) (by first | exact hz _ _ | assumption | exact zr_b _ | exact zcmp_r _ _ | exact hzD _ _ | exact zr3 (tS_b hW _) | exact zr3 (lsc_b hW _ _) | exact zr3 (sc_b hW _ _) | exact rkP_zr hW _ | exact scA_zr hW _ _ | exact zr3 (cW_b hW) | exact zr3 (wS_b hW) | (unfold zr at *; omega)) dL_isClue_241 (by decide) (fun h241 => ?_) (fun h241 => ?_)
                                    · have h241 := zb_0.mp h241
                                      refine zy_iinc (b := y + 1) [zf 9 0, zi ((k : Nat) : Int), zi z, zi acc, zi 1, zi ((c : Nat) : Int), zi (y + 1), zi (z % (D 12 0))] dL_isClue_246 rfl (by omega) (Nat.le_of_ble_eq_true rfl) rfl rfl ?_
                                      refine zx_goto (tgt := 87) dL_isClue_249 (by decide) ?_
                                      refine zy_drop 7 [zf 9 0, zi ((k : Nat) : Int), zi z, zi acc, zi 1, zi ((c : Nat) : Int), zi (y + 1), zu] rfl ?_
                                      exact ih87 (y + 1) 1 (by omega) (by
                                             first
                                             | exact Or.inr rfl
                                             | (rcases hg with ⟨g0, g1, g2⟩ | g0
                                                · refine Or.inl ⟨g0, g1, fun v v1 v2 => ?_⟩
                                                  by_cases e : v = y
                                                  · rw [e]; exact h104
                                                  · exact g2 v v1 (by omega)
                                                · exact Or.inr g0)) (by omega)
                                    · have h241 := zb_n.mp h241
                                      exfalso; exact h241.2 (tog_of (by omega) h104.1 h104.2 h231.2)
                                · exfalso
                                  have hcf := h104.2
                                  unfold cFit pFit eYr lYr at hcf
                                  first
                                  | exact h121 h104.1
                                  | exact h143 (hcf.1.1 h129)
                                  | exact h166 (hcf.1.2.1 h152)
                                  | exact h189 (hcf.1.2.2 h175)
                                  | (have e2 := hcf.2
                                     rw [if_pos h198, if_pos h198] at e2
                                     omega)
                            · refine zx_aloadN dL_isClue_178 rfl rfl ?_
                              refine zx_iload dL_isClue_179 rfl ?_
                              refine zy_cv [zi ((c : Nat) : Int)] (fX9_cityOf  hfl hz hB hW (by first | exact hz _ _ | assumption | exact zr_b _ | exact zcmp_r _ _ | exact hzD _ _ | exact zr3 (tS_b hW _) | exact zr3 (lsc_b hW _ _) | exact zr3 (sc_b hW _ _) | exact rkP_zr hW _ | exact scA_zr hW _ _ | exact zr3 (cW_b hW) | exact zr3 (wS_b hW) | (unfold zr at *; omega)) (by first | assumption | omega)) dL_isClue_181 (by decide) rfl cw_RL_168 okX9_cityOf rfl (Nat.le_of_ble_eq_true rfl) ⟨Nat.le_of_ble_eq_true rfl, Nat.le_of_ble_eq_true rfl, Nat.le_of_ble_eq_true rfl, Nat.le_of_ble_eq_true rfl⟩ ?_
                              refine zy_top (b := D 3 c) rfl ?_
                              refine zx_aloadN dL_isClue_184 rfl rfl ?_
                              refine zx_iloadN dL_isClue_185 rfl rfl ?_
                              refine zy_cv [zi ((k : Nat) : Int)] (fX9_valueOf  hfl hz hB hW (by first | exact hz _ _ | assumption | exact zr_b _ | exact zcmp_r _ _ | exact hzD _ _ | exact zr3 (tS_b hW _) | exact zr3 (lsc_b hW _ _) | exact zr3 (sc_b hW _ _) | exact rkP_zr hW _ | exact scA_zr hW _ _ | exact zr3 (cW_b hW) | exact zr3 (wS_b hW) | (unfold zr at *; omega)) (by first | assumption | omega)) dL_isClue_186 (by decide) rfl cw_RL_114 okX9_valueOf rfl (Nat.le_of_ble_eq_true rfl) ⟨Nat.le_of_ble_eq_true rfl, Nat.le_of_ble_eq_true rfl, Nat.le_of_ble_eq_true rfl, Nat.le_of_ble_eq_true rfl⟩ ?_
                              refine zy_top (b := D 15 k) rfl ?_
                              refine zx_icmp_ne (tgt := 211) (by first | exact hz _ _ | assumption | exact zr_b _ | exact zcmp_r _ _ | exact hzD _ _ | exact zr3 (tS_b hW _) | exact zr3 (lsc_b hW _ _) | exact zr3 (sc_b hW _ _) | exact rkP_zr hW _ | exact scA_zr hW _ _ | exact zr3 (cW_b hW) | exact zr3 (wS_b hW) | (unfold zr at *; omega)) (by first | exact hz _ _ | assumption | exact zr_b _ | exact zcmp_r _ _ | exact hzD _ _ | exact zr3 (tS_b hW _) | exact zr3 (lsc_b hW _ _) | exact zr3 (sc_b hW _ _) | exact rkP_zr hW _ | exact scA_zr hW _ _ | exact zr3 (cW_b hW) | exact zr3 (wS_b hW) | (unfold zr at *; omega)) dL_isClue_189 (by decide) (fun h189 => ?_) (fun h189 => ?_)
                              · exfalso
                                have hcf := h104.2
                                unfold cFit pFit eYr lYr at hcf
                                first
                                | exact h121 h104.1
                                | exact h143 (hcf.1.1 h129)
                                | exact h166 (hcf.1.2.1 h152)
                                | exact h189 (hcf.1.2.2 h175)
                                | (have e2 := hcf.2
                                   rw [if_pos h198, if_pos h198] at e2
                                   omega)
                              · refine zx_aloadN dL_isClue_192 rfl rfl ?_
                                refine zx_iloadN dL_isClue_193 rfl rfl ?_
                                refine zy_cv [zi ((k : Nat) : Int)] (fX9_kindOf  hfl hz hB hW (by first | exact hz _ _ | assumption | exact zr_b _ | exact zcmp_r _ _ | exact hzD _ _ | exact zr3 (tS_b hW _) | exact zr3 (lsc_b hW _ _) | exact zr3 (sc_b hW _ _) | exact rkP_zr hW _ | exact scA_zr hW _ _ | exact zr3 (cW_b hW) | exact zr3 (wS_b hW) | (unfold zr at *; omega)) (by first | assumption | omega)) dL_isClue_194 (by decide) rfl cw_RL_109 okX9_kindOf rfl (Nat.le_of_ble_eq_true rfl) ⟨Nat.le_of_ble_eq_true rfl, Nat.le_of_ble_eq_true rfl, Nat.le_of_ble_eq_true rfl, Nat.le_of_ble_eq_true rfl⟩ ?_
                                refine zy_top (b := D 14 k) rfl ?_
                                refine zx_iconst dL_isClue_197 ?_
                                refine zx_icmp_ne (tgt := 213) (by first | exact hz _ _ | assumption | exact zr_b _ | exact zcmp_r _ _ | exact hzD _ _ | exact zr3 (tS_b hW _) | exact zr3 (lsc_b hW _ _) | exact zr3 (sc_b hW _ _) | exact rkP_zr hW _ | exact scA_zr hW _ _ | exact zr3 (cW_b hW) | exact zr3 (wS_b hW) | (unfold zr at *; omega)) (by first | exact hz _ _ | assumption | exact zr_b _ | exact zcmp_r _ _ | exact hzD _ _ | exact zr3 (tS_b hW _) | exact zr3 (lsc_b hW _ _) | exact zr3 (sc_b hW _ _) | exact rkP_zr hW _ | exact scA_zr hW _ _ | exact zr3 (cW_b hW) | exact zr3 (wS_b hW) | (unfold zr at *; omega)) dL_isClue_198 (by decide) (fun h198 => ?_) (fun h198 => ?_)
                                · refine zx_iloadN dL_isClue_213 rfl rfl ?_
                                  refine zx_aloadN dL_isClue_214 rfl rfl ?_
                                  refine zy_cv [] (fX9_clueCount  hfl hz hB hW) dL_isClue_215 (by decide) rfl cw_RL_98 okX9_clueCount rfl (Nat.le_of_ble_eq_true rfl) ⟨Nat.le_of_ble_eq_true rfl, Nat.le_of_ble_eq_true rfl, Nat.le_of_ble_eq_true rfl, Nat.le_of_ble_eq_true rfl⟩ ?_
                                  refine zx_irem (by omega) (by omega) (by omega) (by omega) dL_isClue_218 ?_
                                  refine zy_istore [zf 9 0, zi ((k : Nat) : Int), zi z, zi acc, zi 1, zi ((c : Nat) : Int), zi y, zi (z % (D 12 0))] dL_isClue_219 (Nat.le_of_ble_eq_true rfl) (Nat.le_of_ble_eq_true rfl) rfl rfl ?_
                                  refine zx_aloadN dL_isClue_221 rfl rfl ?_
                                  refine zx_iload dL_isClue_222 rfl ?_
                                  refine zx_iload dL_isClue_224 rfl ?_
                                  refine zx_iload dL_isClue_226 rfl ?_
                                  refine zy_cv [zi ((c : Nat) : Int), zi y, zi (z % (D 12 0))] (fX9_explains  hfl hz hB hW (by first | exact hz _ _ | assumption | exact zr_b _ | exact zcmp_r _ _ | exact hzD _ _ | exact zr3 (tS_b hW _) | exact zr3 (lsc_b hW _ _) | exact zr3 (sc_b hW _ _) | exact rkP_zr hW _ | exact scA_zr hW _ _ | exact zr3 (cW_b hW) | exact zr3 (wS_b hW) | (unfold zr at *; omega)) (by first | exact hz _ _ | assumption | exact zr_b _ | exact zcmp_r _ _ | exact hzD _ _ | exact zr3 (tS_b hW _) | exact zr3 (lsc_b hW _ _) | exact zr3 (sc_b hW _ _) | exact rkP_zr hW _ | exact scA_zr hW _ _ | exact zr3 (cW_b hW) | exact zr3 (wS_b hW) | (unfold zr at *; omega)) (by first | exact hz _ _ | assumption | exact zr_b _ | exact zcmp_r _ _ | exact hzD _ _ | exact zr3 (tS_b hW _) | exact zr3 (lsc_b hW _ _) | exact zr3 (sc_b hW _ _) | exact rkP_zr hW _ | exact scA_zr hW _ _ | exact zr3 (cW_b hW) | exact zr3 (wS_b hW) | (unfold zr at *; omega)) (by first | assumption | omega) (by first | assumption | omega) (by first | assumption | omega)) dL_isClue_228 (by decide) rfl cw_RL_140 okX9_explains rfl (Nat.le_of_ble_eq_true rfl) ⟨Nat.le_of_ble_eq_true rfl, Nat.le_of_ble_eq_true rfl, Nat.le_of_ble_eq_true rfl, Nat.le_of_ble_eq_true rfl⟩ ?_
                                  refine zy_top (b := zb (works D c y ∧ cFit D c y (z % (D 12 0)).toNat)) rfl ?_
                                  refine zx_if_eq (tgt := 246) (by first | exact hz _ _ | assumption | exact zr_b _ | exact zcmp_r _ _ | exact hzD _ _ | exact zr3 (tS_b hW _) | exact zr3 (lsc_b hW _ _) | exact zr3 (sc_b hW _ _) | exact rkP_zr hW _ | exact scA_zr hW _ _ | exact zr3 (cW_b hW) | exact zr3 (wS_b hW) | (unfold zr at *; omega)) dL_isClue_231 (by decide) (fun h231 => ?_) (fun h231 => ?_)
                                  · have h231 := zb_0.mp h231
                                    refine zy_iinc (b := y + 1) [zf 9 0, zi ((k : Nat) : Int), zi z, zi acc, zi 1, zi ((c : Nat) : Int), zi (y + 1), zi (z % (D 12 0))] dL_isClue_246 rfl (by omega) (Nat.le_of_ble_eq_true rfl) rfl rfl ?_
                                    refine zx_goto (tgt := 87) dL_isClue_249 (by decide) ?_
                                    refine zy_drop 7 [zf 9 0, zi ((k : Nat) : Int), zi z, zi acc, zi 1, zi ((c : Nat) : Int), zi (y + 1), zu] rfl ?_
                                    exact ih87 (y + 1) 1 (by omega) (by
                                           first
                                           | exact Or.inr rfl
                                           | (rcases hg with ⟨g0, g1, g2⟩ | g0
                                              · refine Or.inl ⟨g0, g1, fun v v1 v2 => ?_⟩
                                                by_cases e : v = y
                                                · rw [e]; exact h104
                                                · exact g2 v v1 (by omega)
                                              · exact Or.inr g0)) (by omega)
                                  · have h231 := zb_n.mp h231
                                    refine zx_aloadN dL_isClue_234 rfl rfl ?_
                                    refine zx_iloadN dL_isClue_235 rfl rfl ?_
                                    refine zx_iload dL_isClue_236 rfl ?_
                                    refine zy_cv [zi ((k : Nat) : Int), zi (z % (D 12 0))] (fX9_contradict  hfl hz hB hW (by first | exact hz _ _ | assumption | exact zr_b _ | exact zcmp_r _ _ | exact hzD _ _ | exact zr3 (tS_b hW _) | exact zr3 (lsc_b hW _ _) | exact zr3 (sc_b hW _ _) | exact rkP_zr hW _ | exact scA_zr hW _ _ | exact zr3 (cW_b hW) | exact zr3 (wS_b hW) | (unfold zr at *; omega)) (by first | exact hz _ _ | assumption | exact zr_b _ | exact zcmp_r _ _ | exact hzD _ _ | exact zr3 (tS_b hW _) | exact zr3 (lsc_b hW _ _) | exact zr3 (sc_b hW _ _) | exact rkP_zr hW _ | exact scA_zr hW _ _ | exact zr3 (cW_b hW) | exact zr3 (wS_b hW) | (unfold zr at *; omega)) (by first | assumption | omega) (by first | assumption | omega)) dL_isClue_238 (by decide) rfl cw_RL_162 okX9_contradict rfl (Nat.le_of_ble_eq_true rfl) ⟨Nat.le_of_ble_eq_true rfl, Nat.le_of_ble_eq_true rfl, Nat.le_of_ble_eq_true rfl, Nat.le_of_ble_eq_true rfl⟩ ?_
                                    refine zy_top (b := zb (¬ ((k : Nat) : Int) = (z % (D 12 0)) ∧ ¬ tog D k (z % (D 12 0)).toNat)) rfl ?_
                                    refine zx_if_eq (tgt := 246) (by first | exact hz _ _ | assumption | exact zr_b _ | exact zcmp_r _ _ | exact hzD _ _ | exact zr3 (tS_b hW _) | exact zr3 (lsc_b hW _ _) | exact zr3 (sc_b hW _ _) | exact rkP_zr hW _ | exact scA_zr hW _ _ | exact zr3 (cW_b hW) | exact zr3 (wS_b hW) | (unfold zr at *; omega)) dL_isClue_241 (by decide) (fun h241 => ?_) (fun h241 => ?_)
                                    · have h241 := zb_0.mp h241
                                      refine zy_iinc (b := y + 1) [zf 9 0, zi ((k : Nat) : Int), zi z, zi acc, zi 1, zi ((c : Nat) : Int), zi (y + 1), zi (z % (D 12 0))] dL_isClue_246 rfl (by omega) (Nat.le_of_ble_eq_true rfl) rfl rfl ?_
                                      refine zx_goto (tgt := 87) dL_isClue_249 (by decide) ?_
                                      refine zy_drop 7 [zf 9 0, zi ((k : Nat) : Int), zi z, zi acc, zi 1, zi ((c : Nat) : Int), zi (y + 1), zu] rfl ?_
                                      exact ih87 (y + 1) 1 (by omega) (by
                                             first
                                             | exact Or.inr rfl
                                             | (rcases hg with ⟨g0, g1, g2⟩ | g0
                                                · refine Or.inl ⟨g0, g1, fun v v1 v2 => ?_⟩
                                                  by_cases e : v = y
                                                  · rw [e]; exact h104
                                                  · exact g2 v v1 (by omega)
                                                · exact Or.inr g0)) (by omega)
                                    · have h241 := zb_n.mp h241
                                      exfalso; exact h241.2 (tog_of (by omega) h104.1 h104.2 h231.2)
                                · refine zx_iload dL_isClue_201 rfl ?_
                                  refine zx_aloadN dL_isClue_203 rfl rfl ?_
                                  refine zx_iloadN dL_isClue_204 rfl rfl ?_
                                  refine zy_cv [zi ((k : Nat) : Int)] (fX9_valueOf  hfl hz hB hW (by first | exact hz _ _ | assumption | exact zr_b _ | exact zcmp_r _ _ | exact hzD _ _ | exact zr3 (tS_b hW _) | exact zr3 (lsc_b hW _ _) | exact zr3 (sc_b hW _ _) | exact rkP_zr hW _ | exact scA_zr hW _ _ | exact zr3 (cW_b hW) | exact zr3 (wS_b hW) | (unfold zr at *; omega)) (by first | assumption | omega)) dL_isClue_205 (by decide) rfl cw_RL_114 okX9_valueOf rfl (Nat.le_of_ble_eq_true rfl) ⟨Nat.le_of_ble_eq_true rfl, Nat.le_of_ble_eq_true rfl, Nat.le_of_ble_eq_true rfl, Nat.le_of_ble_eq_true rfl⟩ ?_
                                  refine zy_top (b := D 15 k) rfl ?_
                                  refine zx_icmp_eq (tgt := 213) (by first | exact hz _ _ | assumption | exact zr_b _ | exact zcmp_r _ _ | exact hzD _ _ | exact zr3 (tS_b hW _) | exact zr3 (lsc_b hW _ _) | exact zr3 (sc_b hW _ _) | exact rkP_zr hW _ | exact scA_zr hW _ _ | exact zr3 (cW_b hW) | exact zr3 (wS_b hW) | (unfold zr at *; omega)) (by first | exact hz _ _ | assumption | exact zr_b _ | exact zcmp_r _ _ | exact hzD _ _ | exact zr3 (tS_b hW _) | exact zr3 (lsc_b hW _ _) | exact zr3 (sc_b hW _ _) | exact rkP_zr hW _ | exact scA_zr hW _ _ | exact zr3 (cW_b hW) | exact zr3 (wS_b hW) | (unfold zr at *; omega)) dL_isClue_208 (by decide) (fun h208 => ?_) (fun h208 => ?_)
                                  · refine zx_iloadN dL_isClue_213 rfl rfl ?_
                                    refine zx_aloadN dL_isClue_214 rfl rfl ?_
                                    refine zy_cv [] (fX9_clueCount  hfl hz hB hW) dL_isClue_215 (by decide) rfl cw_RL_98 okX9_clueCount rfl (Nat.le_of_ble_eq_true rfl) ⟨Nat.le_of_ble_eq_true rfl, Nat.le_of_ble_eq_true rfl, Nat.le_of_ble_eq_true rfl, Nat.le_of_ble_eq_true rfl⟩ ?_
                                    refine zx_irem (by omega) (by omega) (by omega) (by omega) dL_isClue_218 ?_
                                    refine zy_istore [zf 9 0, zi ((k : Nat) : Int), zi z, zi acc, zi 1, zi ((c : Nat) : Int), zi y, zi (z % (D 12 0))] dL_isClue_219 (Nat.le_of_ble_eq_true rfl) (Nat.le_of_ble_eq_true rfl) rfl rfl ?_
                                    refine zx_aloadN dL_isClue_221 rfl rfl ?_
                                    refine zx_iload dL_isClue_222 rfl ?_
                                    refine zx_iload dL_isClue_224 rfl ?_
                                    refine zx_iload dL_isClue_226 rfl ?_
                                    refine zy_cv [zi ((c : Nat) : Int), zi y, zi (z % (D 12 0))] (fX9_explains  hfl hz hB hW (by first | exact hz _ _ | assumption | exact zr_b _ | exact zcmp_r _ _ | exact hzD _ _ | exact zr3 (tS_b hW _) | exact zr3 (lsc_b hW _ _) | exact zr3 (sc_b hW _ _) | exact rkP_zr hW _ | exact scA_zr hW _ _ | exact zr3 (cW_b hW) | exact zr3 (wS_b hW) | (unfold zr at *; omega)) (by first | exact hz _ _ | assumption | exact zr_b _ | exact zcmp_r _ _ | exact hzD _ _ | exact zr3 (tS_b hW _) | exact zr3 (lsc_b hW _ _) | exact zr3 (sc_b hW _ _) | exact rkP_zr hW _ | exact scA_zr hW _ _ | exact zr3 (cW_b hW) | exact zr3 (wS_b hW) | (unfold zr at *; omega)) (by first | exact hz _ _ | assumption | exact zr_b _ | exact zcmp_r _ _ | exact hzD _ _ | exact zr3 (tS_b hW _) | exact zr3 (lsc_b hW _ _) | exact zr3 (sc_b hW _ _) | exact rkP_zr hW _ | exact scA_zr hW _ _ | exact zr3 (cW_b hW) | exact zr3 (wS_b hW) | (unfold zr at *; omega)) (by first | assumption | omega) (by first | assumption | omega) (by first | assumption | omega)) dL_isClue_228 (by decide) rfl cw_RL_140 okX9_explains rfl (Nat.le_of_ble_eq_true rfl) ⟨Nat.le_of_ble_eq_true rfl, Nat.le_of_ble_eq_true rfl, Nat.le_of_ble_eq_true rfl, Nat.le_of_ble_eq_true rfl⟩ ?_
                                    refine zy_top (b := zb (works D c y ∧ cFit D c y (z % (D 12 0)).toNat)) rfl ?_
                                    refine zx_if_eq (tgt := 246) (by first | exact hz _ _ | assumption | exact zr_b _ | exact zcmp_r _ _ | exact hzD _ _ | exact zr3 (tS_b hW _) | exact zr3 (lsc_b hW _ _) | exact zr3 (sc_b hW _ _) | exact rkP_zr hW _ | exact scA_zr hW _ _ | exact zr3 (cW_b hW) | exact zr3 (wS_b hW) | (unfold zr at *; omega)) dL_isClue_231 (by decide) (fun h231 => ?_) (fun h231 => ?_)
                                    · have h231 := zb_0.mp h231
                                      refine zy_iinc (b := y + 1) [zf 9 0, zi ((k : Nat) : Int), zi z, zi acc, zi 1, zi ((c : Nat) : Int), zi (y + 1), zi (z % (D 12 0))] dL_isClue_246 rfl (by omega) (Nat.le_of_ble_eq_true rfl) rfl rfl ?_
                                      refine zx_goto (tgt := 87) dL_isClue_249 (by decide) ?_
                                      refine zy_drop 7 [zf 9 0, zi ((k : Nat) : Int), zi z, zi acc, zi 1, zi ((c : Nat) : Int), zi (y + 1), zu] rfl ?_
                                      exact ih87 (y + 1) 1 (by omega) (by
                                             first
                                             | exact Or.inr rfl
                                             | (rcases hg with ⟨g0, g1, g2⟩ | g0
                                                · refine Or.inl ⟨g0, g1, fun v v1 v2 => ?_⟩
                                                  by_cases e : v = y
                                                  · rw [e]; exact h104
                                                  · exact g2 v v1 (by omega)
                                                · exact Or.inr g0)) (by omega)
                                    · have h231 := zb_n.mp h231
                                      refine zx_aloadN dL_isClue_234 rfl rfl ?_
                                      refine zx_iloadN dL_isClue_235 rfl rfl ?_
                                      refine zx_iload dL_isClue_236 rfl ?_
                                      refine zy_cv [zi ((k : Nat) : Int), zi (z % (D 12 0))] (fX9_contradict  hfl hz hB hW (by first | exact hz _ _ | assumption | exact zr_b _ | exact zcmp_r _ _ | exact hzD _ _ | exact zr3 (tS_b hW _) | exact zr3 (lsc_b hW _ _) | exact zr3 (sc_b hW _ _) | exact rkP_zr hW _ | exact scA_zr hW _ _ | exact zr3 (cW_b hW) | exact zr3 (wS_b hW) | (unfold zr at *; omega)) (by first | exact hz _ _ | assumption | exact zr_b _ | exact zcmp_r _ _ | exact hzD _ _ | exact zr3 (tS_b hW _) | exact zr3 (lsc_b hW _ _) | exact zr3 (sc_b hW _ _) | exact rkP_zr hW _ | exact scA_zr hW _ _ | exact zr3 (cW_b hW) | exact zr3 (wS_b hW) | (unfold zr at *; omega)) (by first | assumption | omega) (by first | assumption | omega)) dL_isClue_238 (by decide) rfl cw_RL_162 okX9_contradict rfl (Nat.le_of_ble_eq_true rfl) ⟨Nat.le_of_ble_eq_true rfl, Nat.le_of_ble_eq_true rfl, Nat.le_of_ble_eq_true rfl, Nat.le_of_ble_eq_true rfl⟩ ?_
                                      refine zy_top (b := zb (¬ ((k : Nat) : Int) = (z % (D 12 0)) ∧ ¬ tog D k (z % (D 12 0)).toNat)) rfl ?_
                                      refine zx_if_eq (tgt := 246) (by first | exact hz _ _ | assumption | exact zr_b _ | exact zcmp_r _ _ | exact hzD _ _ | exact zr3 (tS_b hW _) | exact zr3 (lsc_b hW _ _) | exact zr3 (sc_b hW _ _) | exact rkP_zr hW _ | exact scA_zr hW _ _ | exact zr3 (cW_b hW) | exact zr3 (wS_b hW) | (unfold zr at *; omega)) dL_isClue_241 (by decide) (fun h241 => ?_) (fun h241 => ?_)
                                      · have h241 := zb_0.mp h241
                                        refine zy_iinc (b := y + 1) [zf 9 0, zi ((k : Nat) : Int), zi z, zi acc, zi 1, zi ((c : Nat) : Int), zi (y + 1), zi (z % (D 12 0))] dL_isClue_246 rfl (by omega) (Nat.le_of_ble_eq_true rfl) rfl rfl ?_
                                        refine zx_goto (tgt := 87) dL_isClue_249 (by decide) ?_
                                        refine zy_drop 7 [zf 9 0, zi ((k : Nat) : Int), zi z, zi acc, zi 1, zi ((c : Nat) : Int), zi (y + 1), zu] rfl ?_
                                        exact ih87 (y + 1) 1 (by omega) (by
                                               first
                                               | exact Or.inr rfl
                                               | (rcases hg with ⟨g0, g1, g2⟩ | g0
                                                  · refine Or.inl ⟨g0, g1, fun v v1 v2 => ?_⟩
                                                    by_cases e : v = y
                                                    · rw [e]; exact h104
                                                    · exact g2 v v1 (by omega)
                                                  · exact Or.inr g0)) (by omega)
                                      · have h241 := zb_n.mp h241
                                        exfalso; exact h241.2 (tog_of (by omega) h104.1 h104.2 h231.2)
                                  · exfalso
                                    have hcf := h104.2
                                    unfold cFit pFit eYr lYr at hcf
                                    first
                                    | exact h121 h104.1
                                    | exact h143 (hcf.1.1 h129)
                                    | exact h166 (hcf.1.2.1 h152)
                                    | exact h189 (hcf.1.2.2 h175)
                                    | (have e2 := hcf.2
                                       rw [if_pos h198, if_pos h198] at e2
                                       omega)
                          · refine zx_aloadN dL_isClue_155 rfl rfl ?_
                            refine zx_iload dL_isClue_156 rfl ?_
                            refine zx_aloadN dL_isClue_158 rfl rfl ?_
                            refine zx_iloadN dL_isClue_159 rfl rfl ?_
                            refine zy_cv [zi ((k : Nat) : Int)] (fX9_valueOf  hfl hz hB hW (by first | exact hz _ _ | assumption | exact zr_b _ | exact zcmp_r _ _ | exact hzD _ _ | exact zr3 (tS_b hW _) | exact zr3 (lsc_b hW _ _) | exact zr3 (sc_b hW _ _) | exact rkP_zr hW _ | exact scA_zr hW _ _ | exact zr3 (cW_b hW) | exact zr3 (wS_b hW) | (unfold zr at *; omega)) (by first | assumption | omega)) dL_isClue_160 (by decide) rfl cw_RL_114 okX9_valueOf rfl (Nat.le_of_ble_eq_true rfl) ⟨Nat.le_of_ble_eq_true rfl, Nat.le_of_ble_eq_true rfl, Nat.le_of_ble_eq_true rfl, Nat.le_of_ble_eq_true rfl⟩ ?_
                            refine zy_top (b := D 15 k) rfl ?_
                            refine zy_cv [zi ((c : Nat) : Int), zi (D 15 k)] (fX9_hasTypeface  hfl hz hB hW (by first | exact hz _ _ | assumption | exact zr_b _ | exact zcmp_r _ _ | exact hzD _ _ | exact zr3 (tS_b hW _) | exact zr3 (lsc_b hW _ _) | exact zr3 (sc_b hW _ _) | exact rkP_zr hW _ | exact scA_zr hW _ _ | exact zr3 (cW_b hW) | exact zr3 (wS_b hW) | (unfold zr at *; omega)) (by first | exact hz _ _ | assumption | exact zr_b _ | exact zcmp_r _ _ | exact hzD _ _ | exact zr3 (tS_b hW _) | exact zr3 (lsc_b hW _ _) | exact zr3 (sc_b hW _ _) | exact rkP_zr hW _ | exact scA_zr hW _ _ | exact zr3 (cW_b hW) | exact zr3 (wS_b hW) | (unfold zr at *; omega)) (by first | assumption | omega)) dL_isClue_163 (by decide) rfl cw_RL_165 okX9_hasTypeface rfl (Nat.le_of_ble_eq_true rfl) ⟨Nat.le_of_ble_eq_true rfl, Nat.le_of_ble_eq_true rfl, Nat.le_of_ble_eq_true rfl, Nat.le_of_ble_eq_true rfl⟩ ?_
                            refine zy_top (b := zb (hasTyp D c (D 15 k))) rfl ?_
                            refine zx_if_eq (tgt := 211) (by first | exact hz _ _ | assumption | exact zr_b _ | exact zcmp_r _ _ | exact hzD _ _ | exact zr3 (tS_b hW _) | exact zr3 (lsc_b hW _ _) | exact zr3 (sc_b hW _ _) | exact rkP_zr hW _ | exact scA_zr hW _ _ | exact zr3 (cW_b hW) | exact zr3 (wS_b hW) | (unfold zr at *; omega)) dL_isClue_166 (by decide) (fun h166 => ?_) (fun h166 => ?_)
                            · have h166 := zb_0.mp h166
                              exfalso
                              have hcf := h104.2
                              unfold cFit pFit eYr lYr at hcf
                              first
                              | exact h121 h104.1
                              | exact h143 (hcf.1.1 h129)
                              | exact h166 (hcf.1.2.1 h152)
                              | exact h189 (hcf.1.2.2 h175)
                              | (have e2 := hcf.2
                                 rw [if_pos h198, if_pos h198] at e2
                                 omega)
                            · have h166 := zb_n.mp h166
                              refine zx_aloadN dL_isClue_169 rfl rfl ?_
                              refine zx_iloadN dL_isClue_170 rfl rfl ?_
                              refine zy_cv [zi ((k : Nat) : Int)] (fX9_kindOf  hfl hz hB hW (by first | exact hz _ _ | assumption | exact zr_b _ | exact zcmp_r _ _ | exact hzD _ _ | exact zr3 (tS_b hW _) | exact zr3 (lsc_b hW _ _) | exact zr3 (sc_b hW _ _) | exact rkP_zr hW _ | exact scA_zr hW _ _ | exact zr3 (cW_b hW) | exact zr3 (wS_b hW) | (unfold zr at *; omega)) (by first | assumption | omega)) dL_isClue_171 (by decide) rfl cw_RL_109 okX9_kindOf rfl (Nat.le_of_ble_eq_true rfl) ⟨Nat.le_of_ble_eq_true rfl, Nat.le_of_ble_eq_true rfl, Nat.le_of_ble_eq_true rfl, Nat.le_of_ble_eq_true rfl⟩ ?_
                              refine zy_top (b := D 14 k) rfl ?_
                              refine zx_iconst dL_isClue_174 ?_
                              refine zx_icmp_ne (tgt := 192) (by first | exact hz _ _ | assumption | exact zr_b _ | exact zcmp_r _ _ | exact hzD _ _ | exact zr3 (tS_b hW _) | exact zr3 (lsc_b hW _ _) | exact zr3 (sc_b hW _ _) | exact rkP_zr hW _ | exact scA_zr hW _ _ | exact zr3 (cW_b hW) | exact zr3 (wS_b hW) | (unfold zr at *; omega)) (by first | exact hz _ _ | assumption | exact zr_b _ | exact zcmp_r _ _ | exact hzD _ _ | exact zr3 (tS_b hW _) | exact zr3 (lsc_b hW _ _) | exact zr3 (sc_b hW _ _) | exact rkP_zr hW _ | exact scA_zr hW _ _ | exact zr3 (cW_b hW) | exact zr3 (wS_b hW) | (unfold zr at *; omega)) dL_isClue_175 (by decide) (fun h175 => ?_) (fun h175 => ?_)
                              · refine zx_aloadN dL_isClue_192 rfl rfl ?_
                                refine zx_iloadN dL_isClue_193 rfl rfl ?_
                                refine zy_cv [zi ((k : Nat) : Int)] (fX9_kindOf  hfl hz hB hW (by first | exact hz _ _ | assumption | exact zr_b _ | exact zcmp_r _ _ | exact hzD _ _ | exact zr3 (tS_b hW _) | exact zr3 (lsc_b hW _ _) | exact zr3 (sc_b hW _ _) | exact rkP_zr hW _ | exact scA_zr hW _ _ | exact zr3 (cW_b hW) | exact zr3 (wS_b hW) | (unfold zr at *; omega)) (by first | assumption | omega)) dL_isClue_194 (by decide) rfl cw_RL_109 okX9_kindOf rfl (Nat.le_of_ble_eq_true rfl) ⟨Nat.le_of_ble_eq_true rfl, Nat.le_of_ble_eq_true rfl, Nat.le_of_ble_eq_true rfl, Nat.le_of_ble_eq_true rfl⟩ ?_
                                refine zy_top (b := D 14 k) rfl ?_
                                refine zx_iconst dL_isClue_197 ?_
                                refine zx_icmp_ne (tgt := 213) (by first | exact hz _ _ | assumption | exact zr_b _ | exact zcmp_r _ _ | exact hzD _ _ | exact zr3 (tS_b hW _) | exact zr3 (lsc_b hW _ _) | exact zr3 (sc_b hW _ _) | exact rkP_zr hW _ | exact scA_zr hW _ _ | exact zr3 (cW_b hW) | exact zr3 (wS_b hW) | (unfold zr at *; omega)) (by first | exact hz _ _ | assumption | exact zr_b _ | exact zcmp_r _ _ | exact hzD _ _ | exact zr3 (tS_b hW _) | exact zr3 (lsc_b hW _ _) | exact zr3 (sc_b hW _ _) | exact rkP_zr hW _ | exact scA_zr hW _ _ | exact zr3 (cW_b hW) | exact zr3 (wS_b hW) | (unfold zr at *; omega)) dL_isClue_198 (by decide) (fun h198 => ?_) (fun h198 => ?_)
                                · refine zx_iloadN dL_isClue_213 rfl rfl ?_
                                  refine zx_aloadN dL_isClue_214 rfl rfl ?_
                                  refine zy_cv [] (fX9_clueCount  hfl hz hB hW) dL_isClue_215 (by decide) rfl cw_RL_98 okX9_clueCount rfl (Nat.le_of_ble_eq_true rfl) ⟨Nat.le_of_ble_eq_true rfl, Nat.le_of_ble_eq_true rfl, Nat.le_of_ble_eq_true rfl, Nat.le_of_ble_eq_true rfl⟩ ?_
                                  refine zx_irem (by omega) (by omega) (by omega) (by omega) dL_isClue_218 ?_
                                  refine zy_istore [zf 9 0, zi ((k : Nat) : Int), zi z, zi acc, zi 1, zi ((c : Nat) : Int), zi y, zi (z % (D 12 0))] dL_isClue_219 (Nat.le_of_ble_eq_true rfl) (Nat.le_of_ble_eq_true rfl) rfl rfl ?_
                                  refine zx_aloadN dL_isClue_221 rfl rfl ?_
                                  refine zx_iload dL_isClue_222 rfl ?_
                                  refine zx_iload dL_isClue_224 rfl ?_
                                  refine zx_iload dL_isClue_226 rfl ?_
                                  refine zy_cv [zi ((c : Nat) : Int), zi y, zi (z % (D 12 0))] (fX9_explains  hfl hz hB hW (by first | exact hz _ _ | assumption | exact zr_b _ | exact zcmp_r _ _ | exact hzD _ _ | exact zr3 (tS_b hW _) | exact zr3 (lsc_b hW _ _) | exact zr3 (sc_b hW _ _) | exact rkP_zr hW _ | exact scA_zr hW _ _ | exact zr3 (cW_b hW) | exact zr3 (wS_b hW) | (unfold zr at *; omega)) (by first | exact hz _ _ | assumption | exact zr_b _ | exact zcmp_r _ _ | exact hzD _ _ | exact zr3 (tS_b hW _) | exact zr3 (lsc_b hW _ _) | exact zr3 (sc_b hW _ _) | exact rkP_zr hW _ | exact scA_zr hW _ _ | exact zr3 (cW_b hW) | exact zr3 (wS_b hW) | (unfold zr at *; omega)) (by first | exact hz _ _ | assumption | exact zr_b _ | exact zcmp_r _ _ | exact hzD _ _ | exact zr3 (tS_b hW _) | exact zr3 (lsc_b hW _ _) | exact zr3 (sc_b hW _ _) | exact rkP_zr hW _ | exact scA_zr hW _ _ | exact zr3 (cW_b hW) | exact zr3 (wS_b hW) | (unfold zr at *; omega)) (by first | assumption | omega) (by first | assumption | omega) (by first | assumption | omega)) dL_isClue_228 (by decide) rfl cw_RL_140 okX9_explains rfl (Nat.le_of_ble_eq_true rfl) ⟨Nat.le_of_ble_eq_true rfl, Nat.le_of_ble_eq_true rfl, Nat.le_of_ble_eq_true rfl, Nat.le_of_ble_eq_true rfl⟩ ?_
                                  refine zy_top (b := zb (works D c y ∧ cFit D c y (z % (D 12 0)).toNat)) rfl ?_
                                  refine zx_if_eq (tgt := 246) (by first | exact hz _ _ | assumption | exact zr_b _ | exact zcmp_r _ _ | exact hzD _ _ | exact zr3 (tS_b hW _) | exact zr3 (lsc_b hW _ _) | exact zr3 (sc_b hW _ _) | exact rkP_zr hW _ | exact scA_zr hW _ _ | exact zr3 (cW_b hW) | exact zr3 (wS_b hW) | (unfold zr at *; omega)) dL_isClue_231 (by decide) (fun h231 => ?_) (fun h231 => ?_)
                                  · have h231 := zb_0.mp h231
                                    refine zy_iinc (b := y + 1) [zf 9 0, zi ((k : Nat) : Int), zi z, zi acc, zi 1, zi ((c : Nat) : Int), zi (y + 1), zi (z % (D 12 0))] dL_isClue_246 rfl (by omega) (Nat.le_of_ble_eq_true rfl) rfl rfl ?_
                                    refine zx_goto (tgt := 87) dL_isClue_249 (by decide) ?_
                                    refine zy_drop 7 [zf 9 0, zi ((k : Nat) : Int), zi z, zi acc, zi 1, zi ((c : Nat) : Int), zi (y + 1), zu] rfl ?_
                                    exact ih87 (y + 1) 1 (by omega) (by
                                           first
                                           | exact Or.inr rfl
                                           | (rcases hg with ⟨g0, g1, g2⟩ | g0
                                              · refine Or.inl ⟨g0, g1, fun v v1 v2 => ?_⟩
                                                by_cases e : v = y
                                                · rw [e]; exact h104
                                                · exact g2 v v1 (by omega)
                                              · exact Or.inr g0)) (by omega)
                                  · have h231 := zb_n.mp h231
                                    refine zx_aloadN dL_isClue_234 rfl rfl ?_
                                    refine zx_iloadN dL_isClue_235 rfl rfl ?_
                                    refine zx_iload dL_isClue_236 rfl ?_
                                    refine zy_cv [zi ((k : Nat) : Int), zi (z % (D 12 0))] (fX9_contradict  hfl hz hB hW (by first | exact hz _ _ | assumption | exact zr_b _ | exact zcmp_r _ _ | exact hzD _ _ | exact zr3 (tS_b hW _) | exact zr3 (lsc_b hW _ _) | exact zr3 (sc_b hW _ _) | exact rkP_zr hW _ | exact scA_zr hW _ _ | exact zr3 (cW_b hW) | exact zr3 (wS_b hW) | (unfold zr at *; omega)) (by first | exact hz _ _ | assumption | exact zr_b _ | exact zcmp_r _ _ | exact hzD _ _ | exact zr3 (tS_b hW _) | exact zr3 (lsc_b hW _ _) | exact zr3 (sc_b hW _ _) | exact rkP_zr hW _ | exact scA_zr hW _ _ | exact zr3 (cW_b hW) | exact zr3 (wS_b hW) | (unfold zr at *; omega)) (by first | assumption | omega) (by first | assumption | omega)) dL_isClue_238 (by decide) rfl cw_RL_162 okX9_contradict rfl (Nat.le_of_ble_eq_true rfl) ⟨Nat.le_of_ble_eq_true rfl, Nat.le_of_ble_eq_true rfl, Nat.le_of_ble_eq_true rfl, Nat.le_of_ble_eq_true rfl⟩ ?_
                                    refine zy_top (b := zb (¬ ((k : Nat) : Int) = (z % (D 12 0)) ∧ ¬ tog D k (z % (D 12 0)).toNat)) rfl ?_
                                    refine zx_if_eq (tgt := 246) (by first | exact hz _ _ | assumption | exact zr_b _ | exact zcmp_r _ _ | exact hzD _ _ | exact zr3 (tS_b hW _) | exact zr3 (lsc_b hW _ _) | exact zr3 (sc_b hW _ _) | exact rkP_zr hW _ | exact scA_zr hW _ _ | exact zr3 (cW_b hW) | exact zr3 (wS_b hW) | (unfold zr at *; omega)) dL_isClue_241 (by decide) (fun h241 => ?_) (fun h241 => ?_)
                                    · have h241 := zb_0.mp h241
                                      refine zy_iinc (b := y + 1) [zf 9 0, zi ((k : Nat) : Int), zi z, zi acc, zi 1, zi ((c : Nat) : Int), zi (y + 1), zi (z % (D 12 0))] dL_isClue_246 rfl (by omega) (Nat.le_of_ble_eq_true rfl) rfl rfl ?_
                                      refine zx_goto (tgt := 87) dL_isClue_249 (by decide) ?_
                                      refine zy_drop 7 [zf 9 0, zi ((k : Nat) : Int), zi z, zi acc, zi 1, zi ((c : Nat) : Int), zi (y + 1), zu] rfl ?_
                                      exact ih87 (y + 1) 1 (by omega) (by
                                             first
                                             | exact Or.inr rfl
                                             | (rcases hg with ⟨g0, g1, g2⟩ | g0
                                                · refine Or.inl ⟨g0, g1, fun v v1 v2 => ?_⟩
                                                  by_cases e : v = y
                                                  · rw [e]; exact h104
                                                  · exact g2 v v1 (by omega)
                                                · exact Or.inr g0)) (by omega)
                                    · have h241 := zb_n.mp h241
                                      exfalso; exact h241.2 (tog_of (by omega) h104.1 h104.2 h231.2)
                                · refine zx_iload dL_isClue_201 rfl ?_
                                  refine zx_aloadN dL_isClue_203 rfl rfl ?_
                                  refine zx_iloadN dL_isClue_204 rfl rfl ?_
                                  refine zy_cv [zi ((k : Nat) : Int)] (fX9_valueOf  hfl hz hB hW (by first | exact hz _ _ | assumption | exact zr_b _ | exact zcmp_r _ _ | exact hzD _ _ | exact zr3 (tS_b hW _) | exact zr3 (lsc_b hW _ _) | exact zr3 (sc_b hW _ _) | exact rkP_zr hW _ | exact scA_zr hW _ _ | exact zr3 (cW_b hW) | exact zr3 (wS_b hW) | (unfold zr at *; omega)) (by first | assumption | omega)) dL_isClue_205 (by decide) rfl cw_RL_114 okX9_valueOf rfl (Nat.le_of_ble_eq_true rfl) ⟨Nat.le_of_ble_eq_true rfl, Nat.le_of_ble_eq_true rfl, Nat.le_of_ble_eq_true rfl, Nat.le_of_ble_eq_true rfl⟩ ?_
                                  refine zy_top (b := D 15 k) rfl ?_
                                  refine zx_icmp_eq (tgt := 213) (by first | exact hz _ _ | assumption | exact zr_b _ | exact zcmp_r _ _ | exact hzD _ _ | exact zr3 (tS_b hW _) | exact zr3 (lsc_b hW _ _) | exact zr3 (sc_b hW _ _) | exact rkP_zr hW _ | exact scA_zr hW _ _ | exact zr3 (cW_b hW) | exact zr3 (wS_b hW) | (unfold zr at *; omega)) (by first | exact hz _ _ | assumption | exact zr_b _ | exact zcmp_r _ _ | exact hzD _ _ | exact zr3 (tS_b hW _) | exact zr3 (lsc_b hW _ _) | exact zr3 (sc_b hW _ _) | exact rkP_zr hW _ | exact scA_zr hW _ _ | exact zr3 (cW_b hW) | exact zr3 (wS_b hW) | (unfold zr at *; omega)) dL_isClue_208 (by decide) (fun h208 => ?_) (fun h208 => ?_)
                                  · refine zx_iloadN dL_isClue_213 rfl rfl ?_
                                    refine zx_aloadN dL_isClue_214 rfl rfl ?_
                                    refine zy_cv [] (fX9_clueCount  hfl hz hB hW) dL_isClue_215 (by decide) rfl cw_RL_98 okX9_clueCount rfl (Nat.le_of_ble_eq_true rfl) ⟨Nat.le_of_ble_eq_true rfl, Nat.le_of_ble_eq_true rfl, Nat.le_of_ble_eq_true rfl, Nat.le_of_ble_eq_true rfl⟩ ?_
                                    refine zx_irem (by omega) (by omega) (by omega) (by omega) dL_isClue_218 ?_
                                    refine zy_istore [zf 9 0, zi ((k : Nat) : Int), zi z, zi acc, zi 1, zi ((c : Nat) : Int), zi y, zi (z % (D 12 0))] dL_isClue_219 (Nat.le_of_ble_eq_true rfl) (Nat.le_of_ble_eq_true rfl) rfl rfl ?_
                                    refine zx_aloadN dL_isClue_221 rfl rfl ?_
                                    refine zx_iload dL_isClue_222 rfl ?_
                                    refine zx_iload dL_isClue_224 rfl ?_
                                    refine zx_iload dL_isClue_226 rfl ?_
                                    refine zy_cv [zi ((c : Nat) : Int), zi y, zi (z % (D 12 0))] (fX9_explains  hfl hz hB hW (by first | exact hz _ _ | assumption | exact zr_b _ | exact zcmp_r _ _ | exact hzD _ _ | exact zr3 (tS_b hW _) | exact zr3 (lsc_b hW _ _) | exact zr3 (sc_b hW _ _) | exact rkP_zr hW _ | exact scA_zr hW _ _ | exact zr3 (cW_b hW) | exact zr3 (wS_b hW) | (unfold zr at *; omega)) (by first | exact hz _ _ | assumption | exact zr_b _ | exact zcmp_r _ _ | exact hzD _ _ | exact zr3 (tS_b hW _) | exact zr3 (lsc_b hW _ _) | exact zr3 (sc_b hW _ _) | exact rkP_zr hW _ | exact scA_zr hW _ _ | exact zr3 (cW_b hW) | exact zr3 (wS_b hW) | (unfold zr at *; omega)) (by first | exact hz _ _ | assumption | exact zr_b _ | exact zcmp_r _ _ | exact hzD _ _ | exact zr3 (tS_b hW _) | exact zr3 (lsc_b hW _ _) | exact zr3 (sc_b hW _ _) | exact rkP_zr hW _ | exact scA_zr hW _ _ | exact zr3 (cW_b hW) | exact zr3 (wS_b hW) | (unfold zr at *; omega)) (by first | assumption | omega) (by first | assumption | omega) (by first | assumption | omega)) dL_isClue_228 (by decide) rfl cw_RL_140 okX9_explains rfl (Nat.le_of_ble_eq_true rfl) ⟨Nat.le_of_ble_eq_true rfl, Nat.le_of_ble_eq_true rfl, Nat.le_of_ble_eq_true rfl, Nat.le_of_ble_eq_true rfl⟩ ?_
                                    refine zy_top (b := zb (works D c y ∧ cFit D c y (z % (D 12 0)).toNat)) rfl ?_
                                    refine zx_if_eq (tgt := 246) (by first | exact hz _ _ | assumption | exact zr_b _ | exact zcmp_r _ _ | exact hzD _ _ | exact zr3 (tS_b hW _) | exact zr3 (lsc_b hW _ _) | exact zr3 (sc_b hW _ _) | exact rkP_zr hW _ | exact scA_zr hW _ _ | exact zr3 (cW_b hW) | exact zr3 (wS_b hW) | (unfold zr at *; omega)) dL_isClue_231 (by decide) (fun h231 => ?_) (fun h231 => ?_)
                                    · have h231 := zb_0.mp h231
                                      refine zy_iinc (b := y + 1) [zf 9 0, zi ((k : Nat) : Int), zi z, zi acc, zi 1, zi ((c : Nat) : Int), zi (y + 1), zi (z % (D 12 0))] dL_isClue_246 rfl (by omega) (Nat.le_of_ble_eq_true rfl) rfl rfl ?_
                                      refine zx_goto (tgt := 87) dL_isClue_249 (by decide) ?_
                                      refine zy_drop 7 [zf 9 0, zi ((k : Nat) : Int), zi z, zi acc, zi 1, zi ((c : Nat) : Int), zi (y + 1), zu] rfl ?_
                                      exact ih87 (y + 1) 1 (by omega) (by
                                             first
                                             | exact Or.inr rfl
                                             | (rcases hg with ⟨g0, g1, g2⟩ | g0
                                                · refine Or.inl ⟨g0, g1, fun v v1 v2 => ?_⟩
                                                  by_cases e : v = y
                                                  · rw [e]; exact h104
                                                  · exact g2 v v1 (by omega)
                                                · exact Or.inr g0)) (by omega)
                                    · have h231 := zb_n.mp h231
                                      refine zx_aloadN dL_isClue_234 rfl rfl ?_
                                      refine zx_iloadN dL_isClue_235 rfl rfl ?_
                                      refine zx_iload dL_isClue_236 rfl ?_
                                      refine zy_cv [zi ((k : Nat) : Int), zi (z % (D 12 0))] (fX9_contradict  hfl hz hB hW (by first | exact hz _ _ | assumption | exact zr_b _ | exact zcmp_r _ _ | exact hzD _ _ | exact zr3 (tS_b hW _) | exact zr3 (lsc_b hW _ _) | exact zr3 (sc_b hW _ _) | exact rkP_zr hW _ | exact scA_zr hW _ _ | exact zr3 (cW_b hW) | exact zr3 (wS_b hW) | (unfold zr at *; omega)) (by first | exact hz _ _ | assumption | exact zr_b _ | exact zcmp_r _ _ | exact hzD _ _ | exact zr3 (tS_b hW _) | exact zr3 (lsc_b hW _ _) | exact zr3 (sc_b hW _ _) | exact rkP_zr hW _ | exact scA_zr hW _ _ | exact zr3 (cW_b hW) | exact zr3 (wS_b hW) | (unfold zr at *; omega)) (by first | assumption | omega) (by first | assumption | omega)) dL_isClue_238 (by decide) rfl cw_RL_162 okX9_contradict rfl (Nat.le_of_ble_eq_true rfl) ⟨Nat.le_of_ble_eq_true rfl, Nat.le_of_ble_eq_true rfl, Nat.le_of_ble_eq_true rfl, Nat.le_of_ble_eq_true rfl⟩ ?_
                                      refine zy_top (b := zb (¬ ((k : Nat) : Int) = (z % (D 12 0)) ∧ ¬ tog D k (z % (D 12 0)).toNat)) rfl ?_
                                      refine zx_if_eq (tgt := 246) (by first | exact hz _ _ | assumption | exact zr_b _ | exact zcmp_r _ _ | exact hzD _ _ | exact zr3 (tS_b hW _) | exact zr3 (lsc_b hW _ _) | exact zr3 (sc_b hW _ _) | exact rkP_zr hW _ | exact scA_zr hW _ _ | exact zr3 (cW_b hW) | exact zr3 (wS_b hW) | (unfold zr at *; omega)) dL_isClue_241 (by decide) (fun h241 => ?_) (fun h241 => ?_)
                                      · have h241 := zb_0.mp h241
                                        refine zy_iinc (b := y + 1) [zf 9 0, zi ((k : Nat) : Int), zi z, zi acc, zi 1, zi ((c : Nat) : Int), zi (y + 1), zi (z % (D 12 0))] dL_isClue_246 rfl (by omega) (Nat.le_of_ble_eq_true rfl) rfl rfl ?_
                                        refine zx_goto (tgt := 87) dL_isClue_249 (by decide) ?_
                                        refine zy_drop 7 [zf 9 0, zi ((k : Nat) : Int), zi z, zi acc, zi 1, zi ((c : Nat) : Int), zi (y + 1), zu] rfl ?_
                                        exact ih87 (y + 1) 1 (by omega) (by
                                               first
                                               | exact Or.inr rfl
                                               | (rcases hg with ⟨g0, g1, g2⟩ | g0
                                                  · refine Or.inl ⟨g0, g1, fun v v1 v2 => ?_⟩
                                                    by_cases e : v = y
                                                    · rw [e]; exact h104
                                                    · exact g2 v v1 (by omega)
                                                  · exact Or.inr g0)) (by omega)
                                      · have h241 := zb_n.mp h241
                                        exfalso; exact h241.2 (tog_of (by omega) h104.1 h104.2 h231.2)
                                  · exfalso
                                    have hcf := h104.2
                                    unfold cFit pFit eYr lYr at hcf
                                    first
                                    | exact h121 h104.1
                                    | exact h143 (hcf.1.1 h129)
                                    | exact h166 (hcf.1.2.1 h152)
                                    | exact h189 (hcf.1.2.2 h175)
                                    | (have e2 := hcf.2
                                       rw [if_pos h198, if_pos h198] at e2
                                       omega)
                              · refine zx_aloadN dL_isClue_178 rfl rfl ?_
                                refine zx_iload dL_isClue_179 rfl ?_
                                refine zy_cv [zi ((c : Nat) : Int)] (fX9_cityOf  hfl hz hB hW (by first | exact hz _ _ | assumption | exact zr_b _ | exact zcmp_r _ _ | exact hzD _ _ | exact zr3 (tS_b hW _) | exact zr3 (lsc_b hW _ _) | exact zr3 (sc_b hW _ _) | exact rkP_zr hW _ | exact scA_zr hW _ _ | exact zr3 (cW_b hW) | exact zr3 (wS_b hW) | (unfold zr at *; omega)) (by first | assumption | omega)) dL_isClue_181 (by decide) rfl cw_RL_168 okX9_cityOf rfl (Nat.le_of_ble_eq_true rfl) ⟨Nat.le_of_ble_eq_true rfl, Nat.le_of_ble_eq_true rfl, Nat.le_of_ble_eq_true rfl, Nat.le_of_ble_eq_true rfl⟩ ?_
                                refine zy_top (b := D 3 c) rfl ?_
                                refine zx_aloadN dL_isClue_184 rfl rfl ?_
                                refine zx_iloadN dL_isClue_185 rfl rfl ?_
                                refine zy_cv [zi ((k : Nat) : Int)] (fX9_valueOf  hfl hz hB hW (by first | exact hz _ _ | assumption | exact zr_b _ | exact zcmp_r _ _ | exact hzD _ _ | exact zr3 (tS_b hW _) | exact zr3 (lsc_b hW _ _) | exact zr3 (sc_b hW _ _) | exact rkP_zr hW _ | exact scA_zr hW _ _ | exact zr3 (cW_b hW) | exact zr3 (wS_b hW) | (unfold zr at *; omega)) (by first | assumption | omega)) dL_isClue_186 (by decide) rfl cw_RL_114 okX9_valueOf rfl (Nat.le_of_ble_eq_true rfl) ⟨Nat.le_of_ble_eq_true rfl, Nat.le_of_ble_eq_true rfl, Nat.le_of_ble_eq_true rfl, Nat.le_of_ble_eq_true rfl⟩ ?_
                                refine zy_top (b := D 15 k) rfl ?_
                                refine zx_icmp_ne (tgt := 211) (by first | exact hz _ _ | assumption | exact zr_b _ | exact zcmp_r _ _ | exact hzD _ _ | exact zr3 (tS_b hW _) | exact zr3 (lsc_b hW _ _) | exact zr3 (sc_b hW _ _) | exact rkP_zr hW _ | exact scA_zr hW _ _ | exact zr3 (cW_b hW) | exact zr3 (wS_b hW) | (unfold zr at *; omega)) (by first | exact hz _ _ | assumption | exact zr_b _ | exact zcmp_r _ _ | exact hzD _ _ | exact zr3 (tS_b hW _) | exact zr3 (lsc_b hW _ _) | exact zr3 (sc_b hW _ _) | exact rkP_zr hW _ | exact scA_zr hW _ _ | exact zr3 (cW_b hW) | exact zr3 (wS_b hW) | (unfold zr at *; omega)) dL_isClue_189 (by decide) (fun h189 => ?_) (fun h189 => ?_)
                                · exfalso
                                  have hcf := h104.2
                                  unfold cFit pFit eYr lYr at hcf
                                  first
                                  | exact h121 h104.1
                                  | exact h143 (hcf.1.1 h129)
                                  | exact h166 (hcf.1.2.1 h152)
                                  | exact h189 (hcf.1.2.2 h175)
                                  | (have e2 := hcf.2
                                     rw [if_pos h198, if_pos h198] at e2
                                     omega)
                                · refine zx_aloadN dL_isClue_192 rfl rfl ?_
                                  refine zx_iloadN dL_isClue_193 rfl rfl ?_
                                  refine zy_cv [zi ((k : Nat) : Int)] (fX9_kindOf  hfl hz hB hW (by first | exact hz _ _ | assumption | exact zr_b _ | exact zcmp_r _ _ | exact hzD _ _ | exact zr3 (tS_b hW _) | exact zr3 (lsc_b hW _ _) | exact zr3 (sc_b hW _ _) | exact rkP_zr hW _ | exact scA_zr hW _ _ | exact zr3 (cW_b hW) | exact zr3 (wS_b hW) | (unfold zr at *; omega)) (by first | assumption | omega)) dL_isClue_194 (by decide) rfl cw_RL_109 okX9_kindOf rfl (Nat.le_of_ble_eq_true rfl) ⟨Nat.le_of_ble_eq_true rfl, Nat.le_of_ble_eq_true rfl, Nat.le_of_ble_eq_true rfl, Nat.le_of_ble_eq_true rfl⟩ ?_
                                  refine zy_top (b := D 14 k) rfl ?_
                                  refine zx_iconst dL_isClue_197 ?_
                                  refine zx_icmp_ne (tgt := 213) (by first | exact hz _ _ | assumption | exact zr_b _ | exact zcmp_r _ _ | exact hzD _ _ | exact zr3 (tS_b hW _) | exact zr3 (lsc_b hW _ _) | exact zr3 (sc_b hW _ _) | exact rkP_zr hW _ | exact scA_zr hW _ _ | exact zr3 (cW_b hW) | exact zr3 (wS_b hW) | (unfold zr at *; omega)) (by first | exact hz _ _ | assumption | exact zr_b _ | exact zcmp_r _ _ | exact hzD _ _ | exact zr3 (tS_b hW _) | exact zr3 (lsc_b hW _ _) | exact zr3 (sc_b hW _ _) | exact rkP_zr hW _ | exact scA_zr hW _ _ | exact zr3 (cW_b hW) | exact zr3 (wS_b hW) | (unfold zr at *; omega)) dL_isClue_198 (by decide) (fun h198 => ?_) (fun h198 => ?_)
                                  · refine zx_iloadN dL_isClue_213 rfl rfl ?_
                                    refine zx_aloadN dL_isClue_214 rfl rfl ?_
                                    refine zy_cv [] (fX9_clueCount  hfl hz hB hW) dL_isClue_215 (by decide) rfl cw_RL_98 okX9_clueCount rfl (Nat.le_of_ble_eq_true rfl) ⟨Nat.le_of_ble_eq_true rfl, Nat.le_of_ble_eq_true rfl, Nat.le_of_ble_eq_true rfl, Nat.le_of_ble_eq_true rfl⟩ ?_
                                    refine zx_irem (by omega) (by omega) (by omega) (by omega) dL_isClue_218 ?_
                                    refine zy_istore [zf 9 0, zi ((k : Nat) : Int), zi z, zi acc, zi 1, zi ((c : Nat) : Int), zi y, zi (z % (D 12 0))] dL_isClue_219 (Nat.le_of_ble_eq_true rfl) (Nat.le_of_ble_eq_true rfl) rfl rfl ?_
                                    refine zx_aloadN dL_isClue_221 rfl rfl ?_
                                    refine zx_iload dL_isClue_222 rfl ?_
                                    refine zx_iload dL_isClue_224 rfl ?_
                                    refine zx_iload dL_isClue_226 rfl ?_
                                    refine zy_cv [zi ((c : Nat) : Int), zi y, zi (z % (D 12 0))] (fX9_explains  hfl hz hB hW (by first | exact hz _ _ | assumption | exact zr_b _ | exact zcmp_r _ _ | exact hzD _ _ | exact zr3 (tS_b hW _) | exact zr3 (lsc_b hW _ _) | exact zr3 (sc_b hW _ _) | exact rkP_zr hW _ | exact scA_zr hW _ _ | exact zr3 (cW_b hW) | exact zr3 (wS_b hW) | (unfold zr at *; omega)) (by first | exact hz _ _ | assumption | exact zr_b _ | exact zcmp_r _ _ | exact hzD _ _ | exact zr3 (tS_b hW _) | exact zr3 (lsc_b hW _ _) | exact zr3 (sc_b hW _ _) | exact rkP_zr hW _ | exact scA_zr hW _ _ | exact zr3 (cW_b hW) | exact zr3 (wS_b hW) | (unfold zr at *; omega)) (by first | exact hz _ _ | assumption | exact zr_b _ | exact zcmp_r _ _ | exact hzD _ _ | exact zr3 (tS_b hW _) | exact zr3 (lsc_b hW _ _) | exact zr3 (sc_b hW _ _) | exact rkP_zr hW _ | exact scA_zr hW _ _ | exact zr3 (cW_b hW) | exact zr3 (wS_b hW) | (unfold zr at *; omega)) (by first | assumption | omega) (by first | assumption | omega) (by first | assumption | omega)) dL_isClue_228 (by decide) rfl cw_RL_140 okX9_explains rfl (Nat.le_of_ble_eq_true rfl) ⟨Nat.le_of_ble_eq_true rfl, Nat.le_of_ble_eq_true rfl, Nat.le_of_ble_eq_true rfl, Nat.le_of_ble_eq_true rfl⟩ ?_
                                    refine zy_top (b := zb (works D c y ∧ cFit D c y (z % (D 12 0)).toNat)) rfl ?_
                                    refine zx_if_eq (tgt := 246) (by first | exact hz _ _ | assumption | exact zr_b _ | exact zcmp_r _ _ | exact hzD _ _ | exact zr3 (tS_b hW _) | exact zr3 (lsc_b hW _ _) | exact zr3 (sc_b hW _ _) | exact rkP_zr hW _ | exact scA_zr hW _ _ | exact zr3 (cW_b hW) | exact zr3 (wS_b hW) | (unfold zr at *; omega)) dL_isClue_231 (by decide) (fun h231 => ?_) (fun h231 => ?_)
                                    · have h231 := zb_0.mp h231
                                      refine zy_iinc (b := y + 1) [zf 9 0, zi ((k : Nat) : Int), zi z, zi acc, zi 1, zi ((c : Nat) : Int), zi (y + 1), zi (z % (D 12 0))] dL_isClue_246 rfl (by omega) (Nat.le_of_ble_eq_true rfl) rfl rfl ?_
                                      refine zx_goto (tgt := 87) dL_isClue_249 (by decide) ?_
                                      refine zy_drop 7 [zf 9 0, zi ((k : Nat) : Int), zi z, zi acc, zi 1, zi ((c : Nat) : Int), zi (y + 1), zu] rfl ?_
                                      exact ih87 (y + 1) 1 (by omega) (by
                                             first
                                             | exact Or.inr rfl
                                             | (rcases hg with ⟨g0, g1, g2⟩ | g0
                                                · refine Or.inl ⟨g0, g1, fun v v1 v2 => ?_⟩
                                                  by_cases e : v = y
                                                  · rw [e]; exact h104
                                                  · exact g2 v v1 (by omega)
                                                · exact Or.inr g0)) (by omega)
                                    · have h231 := zb_n.mp h231
                                      refine zx_aloadN dL_isClue_234 rfl rfl ?_
                                      refine zx_iloadN dL_isClue_235 rfl rfl ?_
                                      refine zx_iload dL_isClue_236 rfl ?_
                                      refine zy_cv [zi ((k : Nat) : Int), zi (z % (D 12 0))] (fX9_contradict  hfl hz hB hW (by first | exact hz _ _ | assumption | exact zr_b _ | exact zcmp_r _ _ | exact hzD _ _ | exact zr3 (tS_b hW _) | exact zr3 (lsc_b hW _ _) | exact zr3 (sc_b hW _ _) | exact rkP_zr hW _ | exact scA_zr hW _ _ | exact zr3 (cW_b hW) | exact zr3 (wS_b hW) | (unfold zr at *; omega)) (by first | exact hz _ _ | assumption | exact zr_b _ | exact zcmp_r _ _ | exact hzD _ _ | exact zr3 (tS_b hW _) | exact zr3 (lsc_b hW _ _) | exact zr3 (sc_b hW _ _) | exact rkP_zr hW _ | exact scA_zr hW _ _ | exact zr3 (cW_b hW) | exact zr3 (wS_b hW) | (unfold zr at *; omega)) (by first | assumption | omega) (by first | assumption | omega)) dL_isClue_238 (by decide) rfl cw_RL_162 okX9_contradict rfl (Nat.le_of_ble_eq_true rfl) ⟨Nat.le_of_ble_eq_true rfl, Nat.le_of_ble_eq_true rfl, Nat.le_of_ble_eq_true rfl, Nat.le_of_ble_eq_true rfl⟩ ?_
                                      refine zy_top (b := zb (¬ ((k : Nat) : Int) = (z % (D 12 0)) ∧ ¬ tog D k (z % (D 12 0)).toNat)) rfl ?_
                                      refine zx_if_eq (tgt := 246) (by first | exact hz _ _ | assumption | exact zr_b _ | exact zcmp_r _ _ | exact hzD _ _ | exact zr3 (tS_b hW _) | exact zr3 (lsc_b hW _ _) | exact zr3 (sc_b hW _ _) | exact rkP_zr hW _ | exact scA_zr hW _ _ | exact zr3 (cW_b hW) | exact zr3 (wS_b hW) | (unfold zr at *; omega)) dL_isClue_241 (by decide) (fun h241 => ?_) (fun h241 => ?_)
                                      · have h241 := zb_0.mp h241
                                        refine zy_iinc (b := y + 1) [zf 9 0, zi ((k : Nat) : Int), zi z, zi acc, zi 1, zi ((c : Nat) : Int), zi (y + 1), zi (z % (D 12 0))] dL_isClue_246 rfl (by omega) (Nat.le_of_ble_eq_true rfl) rfl rfl ?_
                                        refine zx_goto (tgt := 87) dL_isClue_249 (by decide) ?_
                                        refine zy_drop 7 [zf 9 0, zi ((k : Nat) : Int), zi z, zi acc, zi 1, zi ((c : Nat) : Int), zi (y + 1), zu] rfl ?_
                                        exact ih87 (y + 1) 1 (by omega) (by
                                               first
                                               | exact Or.inr rfl
                                               | (rcases hg with ⟨g0, g1, g2⟩ | g0
                                                  · refine Or.inl ⟨g0, g1, fun v v1 v2 => ?_⟩
                                                    by_cases e : v = y
                                                    · rw [e]; exact h104
                                                    · exact g2 v v1 (by omega)
                                                  · exact Or.inr g0)) (by omega)
                                      · have h241 := zb_n.mp h241
                                        exfalso; exact h241.2 (tog_of (by omega) h104.1 h104.2 h231.2)
                                  · refine zx_iload dL_isClue_201 rfl ?_
                                    refine zx_aloadN dL_isClue_203 rfl rfl ?_
                                    refine zx_iloadN dL_isClue_204 rfl rfl ?_
                                    refine zy_cv [zi ((k : Nat) : Int)] (fX9_valueOf  hfl hz hB hW (by first | exact hz _ _ | assumption | exact zr_b _ | exact zcmp_r _ _ | exact hzD _ _ | exact zr3 (tS_b hW _) | exact zr3 (lsc_b hW _ _) | exact zr3 (sc_b hW _ _) | exact rkP_zr hW _ | exact scA_zr hW _ _ | exact zr3 (cW_b hW) | exact zr3 (wS_b hW) | (unfold zr at *; omega)) (by first | assumption | omega)) dL_isClue_205 (by decide) rfl cw_RL_114 okX9_valueOf rfl (Nat.le_of_ble_eq_true rfl) ⟨Nat.le_of_ble_eq_true rfl, Nat.le_of_ble_eq_true rfl, Nat.le_of_ble_eq_true rfl, Nat.le_of_ble_eq_true rfl⟩ ?_
                                    refine zy_top (b := D 15 k) rfl ?_
                                    refine zx_icmp_eq (tgt := 213) (by first | exact hz _ _ | assumption | exact zr_b _ | exact zcmp_r _ _ | exact hzD _ _ | exact zr3 (tS_b hW _) | exact zr3 (lsc_b hW _ _) | exact zr3 (sc_b hW _ _) | exact rkP_zr hW _ | exact scA_zr hW _ _ | exact zr3 (cW_b hW) | exact zr3 (wS_b hW) | (unfold zr at *; omega)) (by first | exact hz _ _ | assumption | exact zr_b _ | exact zcmp_r _ _ | exact hzD _ _ | exact zr3 (tS_b hW _) | exact zr3 (lsc_b hW _ _) | exact zr3 (sc_b hW _ _) | exact rkP_zr hW _ | exact scA_zr hW _ _ | exact zr3 (cW_b hW) | exact zr3 (wS_b hW) | (unfold zr at *; omega)) dL_isClue_208 (by decide) (fun h208 => ?_) (fun h208 => ?_)
                                    · refine zx_iloadN dL_isClue_213 rfl rfl ?_
                                      refine zx_aloadN dL_isClue_214 rfl rfl ?_
                                      refine zy_cv [] (fX9_clueCount  hfl hz hB hW) dL_isClue_215 (by decide) rfl cw_RL_98 okX9_clueCount rfl (Nat.le_of_ble_eq_true rfl) ⟨Nat.le_of_ble_eq_true rfl, Nat.le_of_ble_eq_true rfl, Nat.le_of_ble_eq_true rfl, Nat.le_of_ble_eq_true rfl⟩ ?_
                                      refine zx_irem (by omega) (by omega) (by omega) (by omega) dL_isClue_218 ?_
                                      refine zy_istore [zf 9 0, zi ((k : Nat) : Int), zi z, zi acc, zi 1, zi ((c : Nat) : Int), zi y, zi (z % (D 12 0))] dL_isClue_219 (Nat.le_of_ble_eq_true rfl) (Nat.le_of_ble_eq_true rfl) rfl rfl ?_
                                      refine zx_aloadN dL_isClue_221 rfl rfl ?_
                                      refine zx_iload dL_isClue_222 rfl ?_
                                      refine zx_iload dL_isClue_224 rfl ?_
                                      refine zx_iload dL_isClue_226 rfl ?_
                                      refine zy_cv [zi ((c : Nat) : Int), zi y, zi (z % (D 12 0))] (fX9_explains  hfl hz hB hW (by first | exact hz _ _ | assumption | exact zr_b _ | exact zcmp_r _ _ | exact hzD _ _ | exact zr3 (tS_b hW _) | exact zr3 (lsc_b hW _ _) | exact zr3 (sc_b hW _ _) | exact rkP_zr hW _ | exact scA_zr hW _ _ | exact zr3 (cW_b hW) | exact zr3 (wS_b hW) | (unfold zr at *; omega)) (by first | exact hz _ _ | assumption | exact zr_b _ | exact zcmp_r _ _ | exact hzD _ _ | exact zr3 (tS_b hW _) | exact zr3 (lsc_b hW _ _) | exact zr3 (sc_b hW _ _) | exact rkP_zr hW _ | exact scA_zr hW _ _ | exact zr3 (cW_b hW) | exact zr3 (wS_b hW) | (unfold zr at *; omega)) (by first | exact hz _ _ | assumption | exact zr_b _ | exact zcmp_r _ _ | exact hzD _ _ | exact zr3 (tS_b hW _) | exact zr3 (lsc_b hW _ _) | exact zr3 (sc_b hW _ _) | exact rkP_zr hW _ | exact scA_zr hW _ _ | exact zr3 (cW_b hW) | exact zr3 (wS_b hW) | (unfold zr at *; omega)) (by first | assumption | omega) (by first | assumption | omega) (by first | assumption | omega)) dL_isClue_228 (by decide) rfl cw_RL_140 okX9_explains rfl (Nat.le_of_ble_eq_true rfl) ⟨Nat.le_of_ble_eq_true rfl, Nat.le_of_ble_eq_true rfl, Nat.le_of_ble_eq_true rfl, Nat.le_of_ble_eq_true rfl⟩ ?_
                                      refine zy_top (b := zb (works D c y ∧ cFit D c y (z % (D 12 0)).toNat)) rfl ?_
                                      refine zx_if_eq (tgt := 246) (by first | exact hz _ _ | assumption | exact zr_b _ | exact zcmp_r _ _ | exact hzD _ _ | exact zr3 (tS_b hW _) | exact zr3 (lsc_b hW _ _) | exact zr3 (sc_b hW _ _) | exact rkP_zr hW _ | exact scA_zr hW _ _ | exact zr3 (cW_b hW) | exact zr3 (wS_b hW) | (unfold zr at *; omega)) dL_isClue_231 (by decide) (fun h231 => ?_) (fun h231 => ?_)
                                      · have h231 := zb_0.mp h231
                                        refine zy_iinc (b := y + 1) [zf 9 0, zi ((k : Nat) : Int), zi z, zi acc, zi 1, zi ((c : Nat) : Int), zi (y + 1), zi (z % (D 12 0))] dL_isClue_246 rfl (by omega) (Nat.le_of_ble_eq_true rfl) rfl rfl ?_
                                        refine zx_goto (tgt := 87) dL_isClue_249 (by decide) ?_
                                        refine zy_drop 7 [zf 9 0, zi ((k : Nat) : Int), zi z, zi acc, zi 1, zi ((c : Nat) : Int), zi (y + 1), zu] rfl ?_
                                        exact ih87 (y + 1) 1 (by omega) (by
                                               first
                                               | exact Or.inr rfl
                                               | (rcases hg with ⟨g0, g1, g2⟩ | g0
                                                  · refine Or.inl ⟨g0, g1, fun v v1 v2 => ?_⟩
                                                    by_cases e : v = y
                                                    · rw [e]; exact h104
                                                    · exact g2 v v1 (by omega)
                                                  · exact Or.inr g0)) (by omega)
                                      · have h231 := zb_n.mp h231
                                        refine zx_aloadN dL_isClue_234 rfl rfl ?_
                                        refine zx_iloadN dL_isClue_235 rfl rfl ?_
                                        refine zx_iload dL_isClue_236 rfl ?_
                                        refine zy_cv [zi ((k : Nat) : Int), zi (z % (D 12 0))] (fX9_contradict  hfl hz hB hW (by first | exact hz _ _ | assumption | exact zr_b _ | exact zcmp_r _ _ | exact hzD _ _ | exact zr3 (tS_b hW _) | exact zr3 (lsc_b hW _ _) | exact zr3 (sc_b hW _ _) | exact rkP_zr hW _ | exact scA_zr hW _ _ | exact zr3 (cW_b hW) | exact zr3 (wS_b hW) | (unfold zr at *; omega)) (by first | exact hz _ _ | assumption | exact zr_b _ | exact zcmp_r _ _ | exact hzD _ _ | exact zr3 (tS_b hW _) | exact zr3 (lsc_b hW _ _) | exact zr3 (sc_b hW _ _) | exact rkP_zr hW _ | exact scA_zr hW _ _ | exact zr3 (cW_b hW) | exact zr3 (wS_b hW) | (unfold zr at *; omega)) (by first | assumption | omega) (by first | assumption | omega)) dL_isClue_238 (by decide) rfl cw_RL_162 okX9_contradict rfl (Nat.le_of_ble_eq_true rfl) ⟨Nat.le_of_ble_eq_true rfl, Nat.le_of_ble_eq_true rfl, Nat.le_of_ble_eq_true rfl, Nat.le_of_ble_eq_true rfl⟩ ?_
                                        refine zy_top (b := zb (¬ ((k : Nat) : Int) = (z % (D 12 0)) ∧ ¬ tog D k (z % (D 12 0)).toNat)) rfl ?_
                                        refine zx_if_eq (tgt := 246) (by first | exact hz _ _ | assumption | exact zr_b _ | exact zcmp_r _ _ | exact hzD _ _ | exact zr3 (tS_b hW _) | exact zr3 (lsc_b hW _ _) | exact zr3 (sc_b hW _ _) | exact rkP_zr hW _ | exact scA_zr hW _ _ | exact zr3 (cW_b hW) | exact zr3 (wS_b hW) | (unfold zr at *; omega)) dL_isClue_241 (by decide) (fun h241 => ?_) (fun h241 => ?_)
                                        · have h241 := zb_0.mp h241
                                          refine zy_iinc (b := y + 1) [zf 9 0, zi ((k : Nat) : Int), zi z, zi acc, zi 1, zi ((c : Nat) : Int), zi (y + 1), zi (z % (D 12 0))] dL_isClue_246 rfl (by omega) (Nat.le_of_ble_eq_true rfl) rfl rfl ?_
                                          refine zx_goto (tgt := 87) dL_isClue_249 (by decide) ?_
                                          refine zy_drop 7 [zf 9 0, zi ((k : Nat) : Int), zi z, zi acc, zi 1, zi ((c : Nat) : Int), zi (y + 1), zu] rfl ?_
                                          exact ih87 (y + 1) 1 (by omega) (by
                                                 first
                                                 | exact Or.inr rfl
                                                 | (rcases hg with ⟨g0, g1, g2⟩ | g0
                                                    · refine Or.inl ⟨g0, g1, fun v v1 v2 => ?_⟩
                                                      by_cases e : v = y
                                                      · rw [e]; exact h104
                                                      · exact g2 v v1 (by omega)
                                                    · exact Or.inr g0)) (by omega)
                                        · have h241 := zb_n.mp h241
                                          exfalso; exact h241.2 (tog_of (by omega) h104.1 h104.2 h231.2)
                                    · exfalso
                                      have hcf := h104.2
                                      unfold cFit pFit eYr lYr at hcf
                                      first
                                      | exact h121 h104.1
                                      | exact h143 (hcf.1.1 h129)
                                      | exact h166 (hcf.1.2.1 h152)
                                      | exact h189 (hcf.1.2.2 h175)
                                      | (have e2 := hcf.2
                                         rw [if_pos h198, if_pos h198] at e2
                                         omega)
                        · refine zx_aloadN dL_isClue_132 rfl rfl ?_
                          refine zx_iload dL_isClue_133 rfl ?_
                          refine zx_aloadN dL_isClue_135 rfl rfl ?_
                          refine zx_iloadN dL_isClue_136 rfl rfl ?_
                          refine zy_cv [zi ((k : Nat) : Int)] (fX9_valueOf  hfl hz hB hW (by first | exact hz _ _ | assumption | exact zr_b _ | exact zcmp_r _ _ | exact hzD _ _ | exact zr3 (tS_b hW _) | exact zr3 (lsc_b hW _ _) | exact zr3 (sc_b hW _ _) | exact rkP_zr hW _ | exact scA_zr hW _ _ | exact zr3 (cW_b hW) | exact zr3 (wS_b hW) | (unfold zr at *; omega)) (by first | assumption | omega)) dL_isClue_137 (by decide) rfl cw_RL_114 okX9_valueOf rfl (Nat.le_of_ble_eq_true rfl) ⟨Nat.le_of_ble_eq_true rfl, Nat.le_of_ble_eq_true rfl, Nat.le_of_ble_eq_true rfl, Nat.le_of_ble_eq_true rfl⟩ ?_
                          refine zy_top (b := D 15 k) rfl ?_
                          refine zy_cv [zi ((c : Nat) : Int), zi (D 15 k)] (fX9_hasDevice  hfl hz hB hW (by first | exact hz _ _ | assumption | exact zr_b _ | exact zcmp_r _ _ | exact hzD _ _ | exact zr3 (tS_b hW _) | exact zr3 (lsc_b hW _ _) | exact zr3 (sc_b hW _ _) | exact rkP_zr hW _ | exact scA_zr hW _ _ | exact zr3 (cW_b hW) | exact zr3 (wS_b hW) | (unfold zr at *; omega)) (by first | exact hz _ _ | assumption | exact zr_b _ | exact zcmp_r _ _ | exact hzD _ _ | exact zr3 (tS_b hW _) | exact zr3 (lsc_b hW _ _) | exact zr3 (sc_b hW _ _) | exact rkP_zr hW _ | exact scA_zr hW _ _ | exact zr3 (cW_b hW) | exact zr3 (wS_b hW) | (unfold zr at *; omega)) (by first | assumption | omega)) dL_isClue_140 (by decide) rfl cw_RL_136 okX9_hasDevice rfl (Nat.le_of_ble_eq_true rfl) ⟨Nat.le_of_ble_eq_true rfl, Nat.le_of_ble_eq_true rfl, Nat.le_of_ble_eq_true rfl, Nat.le_of_ble_eq_true rfl⟩ ?_
                          refine zy_top (b := zb (hasDev D c (D 15 k))) rfl ?_
                          refine zx_if_eq (tgt := 211) (by first | exact hz _ _ | assumption | exact zr_b _ | exact zcmp_r _ _ | exact hzD _ _ | exact zr3 (tS_b hW _) | exact zr3 (lsc_b hW _ _) | exact zr3 (sc_b hW _ _) | exact rkP_zr hW _ | exact scA_zr hW _ _ | exact zr3 (cW_b hW) | exact zr3 (wS_b hW) | (unfold zr at *; omega)) dL_isClue_143 (by decide) (fun h143 => ?_) (fun h143 => ?_)
                          · have h143 := zb_0.mp h143
                            exfalso
                            have hcf := h104.2
                            unfold cFit pFit eYr lYr at hcf
                            first
                            | exact h121 h104.1
                            | exact h143 (hcf.1.1 h129)
                            | exact h166 (hcf.1.2.1 h152)
                            | exact h189 (hcf.1.2.2 h175)
                            | (have e2 := hcf.2
                               rw [if_pos h198, if_pos h198] at e2
                               omega)
                          · have h143 := zb_n.mp h143
                            refine zx_aloadN dL_isClue_146 rfl rfl ?_
                            refine zx_iloadN dL_isClue_147 rfl rfl ?_
                            refine zy_cv [zi ((k : Nat) : Int)] (fX9_kindOf  hfl hz hB hW (by first | exact hz _ _ | assumption | exact zr_b _ | exact zcmp_r _ _ | exact hzD _ _ | exact zr3 (tS_b hW _) | exact zr3 (lsc_b hW _ _) | exact zr3 (sc_b hW _ _) | exact rkP_zr hW _ | exact scA_zr hW _ _ | exact zr3 (cW_b hW) | exact zr3 (wS_b hW) | (unfold zr at *; omega)) (by first | assumption | omega)) dL_isClue_148 (by decide) rfl cw_RL_109 okX9_kindOf rfl (Nat.le_of_ble_eq_true rfl) ⟨Nat.le_of_ble_eq_true rfl, Nat.le_of_ble_eq_true rfl, Nat.le_of_ble_eq_true rfl, Nat.le_of_ble_eq_true rfl⟩ ?_
                            refine zy_top (b := D 14 k) rfl ?_
                            refine zx_iconst dL_isClue_151 ?_
                            refine zx_icmp_ne (tgt := 169) (by first | exact hz _ _ | assumption | exact zr_b _ | exact zcmp_r _ _ | exact hzD _ _ | exact zr3 (tS_b hW _) | exact zr3 (lsc_b hW _ _) | exact zr3 (sc_b hW _ _) | exact rkP_zr hW _ | exact scA_zr hW _ _ | exact zr3 (cW_b hW) | exact zr3 (wS_b hW) | (unfold zr at *; omega)) (by first | exact hz _ _ | assumption | exact zr_b _ | exact zcmp_r _ _ | exact hzD _ _ | exact zr3 (tS_b hW _) | exact zr3 (lsc_b hW _ _) | exact zr3 (sc_b hW _ _) | exact rkP_zr hW _ | exact scA_zr hW _ _ | exact zr3 (cW_b hW) | exact zr3 (wS_b hW) | (unfold zr at *; omega)) dL_isClue_152 (by decide) (fun h152 => ?_) (fun h152 => ?_)
                            · refine zx_aloadN dL_isClue_169 rfl rfl ?_
                              refine zx_iloadN dL_isClue_170 rfl rfl ?_
                              refine zy_cv [zi ((k : Nat) : Int)] (fX9_kindOf  hfl hz hB hW (by first | exact hz _ _ | assumption | exact zr_b _ | exact zcmp_r _ _ | exact hzD _ _ | exact zr3 (tS_b hW _) | exact zr3 (lsc_b hW _ _) | exact zr3 (sc_b hW _ _) | exact rkP_zr hW _ | exact scA_zr hW _ _ | exact zr3 (cW_b hW) | exact zr3 (wS_b hW) | (unfold zr at *; omega)) (by first | assumption | omega)) dL_isClue_171 (by decide) rfl cw_RL_109 okX9_kindOf rfl (Nat.le_of_ble_eq_true rfl) ⟨Nat.le_of_ble_eq_true rfl, Nat.le_of_ble_eq_true rfl, Nat.le_of_ble_eq_true rfl, Nat.le_of_ble_eq_true rfl⟩ ?_
                              refine zy_top (b := D 14 k) rfl ?_
                              refine zx_iconst dL_isClue_174 ?_
                              refine zx_icmp_ne (tgt := 192) (by first | exact hz _ _ | assumption | exact zr_b _ | exact zcmp_r _ _ | exact hzD _ _ | exact zr3 (tS_b hW _) | exact zr3 (lsc_b hW _ _) | exact zr3 (sc_b hW _ _) | exact rkP_zr hW _ | exact scA_zr hW _ _ | exact zr3 (cW_b hW) | exact zr3 (wS_b hW) | (unfold zr at *; omega)) (by first | exact hz _ _ | assumption | exact zr_b _ | exact zcmp_r _ _ | exact hzD _ _ | exact zr3 (tS_b hW _) | exact zr3 (lsc_b hW _ _) | exact zr3 (sc_b hW _ _) | exact rkP_zr hW _ | exact scA_zr hW _ _ | exact zr3 (cW_b hW) | exact zr3 (wS_b hW) | (unfold zr at *; omega)) dL_isClue_175 (by decide) (fun h175 => ?_) (fun h175 => ?_)
                              · refine zx_aloadN dL_isClue_192 rfl rfl ?_
                                refine zx_iloadN dL_isClue_193 rfl rfl ?_
                                refine zy_cv [zi ((k : Nat) : Int)] (fX9_kindOf  hfl hz hB hW (by first | exact hz _ _ | assumption | exact zr_b _ | exact zcmp_r _ _ | exact hzD _ _ | exact zr3 (tS_b hW _) | exact zr3 (lsc_b hW _ _) | exact zr3 (sc_b hW _ _) | exact rkP_zr hW _ | exact scA_zr hW _ _ | exact zr3 (cW_b hW) | exact zr3 (wS_b hW) | (unfold zr at *; omega)) (by first | assumption | omega)) dL_isClue_194 (by decide) rfl cw_RL_109 okX9_kindOf rfl (Nat.le_of_ble_eq_true rfl) ⟨Nat.le_of_ble_eq_true rfl, Nat.le_of_ble_eq_true rfl, Nat.le_of_ble_eq_true rfl, Nat.le_of_ble_eq_true rfl⟩ ?_
                                refine zy_top (b := D 14 k) rfl ?_
                                refine zx_iconst dL_isClue_197 ?_
                                refine zx_icmp_ne (tgt := 213) (by first | exact hz _ _ | assumption | exact zr_b _ | exact zcmp_r _ _ | exact hzD _ _ | exact zr3 (tS_b hW _) | exact zr3 (lsc_b hW _ _) | exact zr3 (sc_b hW _ _) | exact rkP_zr hW _ | exact scA_zr hW _ _ | exact zr3 (cW_b hW) | exact zr3 (wS_b hW) | (unfold zr at *; omega)) (by first | exact hz _ _ | assumption | exact zr_b _ | exact zcmp_r _ _ | exact hzD _ _ | exact zr3 (tS_b hW _) | exact zr3 (lsc_b hW _ _) | exact zr3 (sc_b hW _ _) | exact rkP_zr hW _ | exact scA_zr hW _ _ | exact zr3 (cW_b hW) | exact zr3 (wS_b hW) | (unfold zr at *; omega)) dL_isClue_198 (by decide) (fun h198 => ?_) (fun h198 => ?_)
                                · refine zx_iloadN dL_isClue_213 rfl rfl ?_
                                  refine zx_aloadN dL_isClue_214 rfl rfl ?_
                                  refine zy_cv [] (fX9_clueCount  hfl hz hB hW) dL_isClue_215 (by decide) rfl cw_RL_98 okX9_clueCount rfl (Nat.le_of_ble_eq_true rfl) ⟨Nat.le_of_ble_eq_true rfl, Nat.le_of_ble_eq_true rfl, Nat.le_of_ble_eq_true rfl, Nat.le_of_ble_eq_true rfl⟩ ?_
                                  refine zx_irem (by omega) (by omega) (by omega) (by omega) dL_isClue_218 ?_
                                  refine zy_istore [zf 9 0, zi ((k : Nat) : Int), zi z, zi acc, zi 1, zi ((c : Nat) : Int), zi y, zi (z % (D 12 0))] dL_isClue_219 (Nat.le_of_ble_eq_true rfl) (Nat.le_of_ble_eq_true rfl) rfl rfl ?_
                                  refine zx_aloadN dL_isClue_221 rfl rfl ?_
                                  refine zx_iload dL_isClue_222 rfl ?_
                                  refine zx_iload dL_isClue_224 rfl ?_
                                  refine zx_iload dL_isClue_226 rfl ?_
                                  refine zy_cv [zi ((c : Nat) : Int), zi y, zi (z % (D 12 0))] (fX9_explains  hfl hz hB hW (by first | exact hz _ _ | assumption | exact zr_b _ | exact zcmp_r _ _ | exact hzD _ _ | exact zr3 (tS_b hW _) | exact zr3 (lsc_b hW _ _) | exact zr3 (sc_b hW _ _) | exact rkP_zr hW _ | exact scA_zr hW _ _ | exact zr3 (cW_b hW) | exact zr3 (wS_b hW) | (unfold zr at *; omega)) (by first | exact hz _ _ | assumption | exact zr_b _ | exact zcmp_r _ _ | exact hzD _ _ | exact zr3 (tS_b hW _) | exact zr3 (lsc_b hW _ _) | exact zr3 (sc_b hW _ _) | exact rkP_zr hW _ | exact scA_zr hW _ _ | exact zr3 (cW_b hW) | exact zr3 (wS_b hW) | (unfold zr at *; omega)) (by first | exact hz _ _ | assumption | exact zr_b _ | exact zcmp_r _ _ | exact hzD _ _ | exact zr3 (tS_b hW _) | exact zr3 (lsc_b hW _ _) | exact zr3 (sc_b hW _ _) | exact rkP_zr hW _ | exact scA_zr hW _ _ | exact zr3 (cW_b hW) | exact zr3 (wS_b hW) | (unfold zr at *; omega)) (by first | assumption | omega) (by first | assumption | omega) (by first | assumption | omega)) dL_isClue_228 (by decide) rfl cw_RL_140 okX9_explains rfl (Nat.le_of_ble_eq_true rfl) ⟨Nat.le_of_ble_eq_true rfl, Nat.le_of_ble_eq_true rfl, Nat.le_of_ble_eq_true rfl, Nat.le_of_ble_eq_true rfl⟩ ?_
                                  refine zy_top (b := zb (works D c y ∧ cFit D c y (z % (D 12 0)).toNat)) rfl ?_
                                  refine zx_if_eq (tgt := 246) (by first | exact hz _ _ | assumption | exact zr_b _ | exact zcmp_r _ _ | exact hzD _ _ | exact zr3 (tS_b hW _) | exact zr3 (lsc_b hW _ _) | exact zr3 (sc_b hW _ _) | exact rkP_zr hW _ | exact scA_zr hW _ _ | exact zr3 (cW_b hW) | exact zr3 (wS_b hW) | (unfold zr at *; omega)) dL_isClue_231 (by decide) (fun h231 => ?_) (fun h231 => ?_)
                                  · have h231 := zb_0.mp h231
                                    refine zy_iinc (b := y + 1) [zf 9 0, zi ((k : Nat) : Int), zi z, zi acc, zi 1, zi ((c : Nat) : Int), zi (y + 1), zi (z % (D 12 0))] dL_isClue_246 rfl (by omega) (Nat.le_of_ble_eq_true rfl) rfl rfl ?_
                                    refine zx_goto (tgt := 87) dL_isClue_249 (by decide) ?_
                                    refine zy_drop 7 [zf 9 0, zi ((k : Nat) : Int), zi z, zi acc, zi 1, zi ((c : Nat) : Int), zi (y + 1), zu] rfl ?_
                                    exact ih87 (y + 1) 1 (by omega) (by
                                           first
                                           | exact Or.inr rfl
                                           | (rcases hg with ⟨g0, g1, g2⟩ | g0
                                              · refine Or.inl ⟨g0, g1, fun v v1 v2 => ?_⟩
                                                by_cases e : v = y
                                                · rw [e]; exact h104
                                                · exact g2 v v1 (by omega)
                                              · exact Or.inr g0)) (by omega)
                                  · have h231 := zb_n.mp h231
                                    refine zx_aloadN dL_isClue_234 rfl rfl ?_
                                    refine zx_iloadN dL_isClue_235 rfl rfl ?_
                                    refine zx_iload dL_isClue_236 rfl ?_
                                    refine zy_cv [zi ((k : Nat) : Int), zi (z % (D 12 0))] (fX9_contradict  hfl hz hB hW (by first | exact hz _ _ | assumption | exact zr_b _ | exact zcmp_r _ _ | exact hzD _ _ | exact zr3 (tS_b hW _) | exact zr3 (lsc_b hW _ _) | exact zr3 (sc_b hW _ _) | exact rkP_zr hW _ | exact scA_zr hW _ _ | exact zr3 (cW_b hW) | exact zr3 (wS_b hW) | (unfold zr at *; omega)) (by first | exact hz _ _ | assumption | exact zr_b _ | exact zcmp_r _ _ | exact hzD _ _ | exact zr3 (tS_b hW _) | exact zr3 (lsc_b hW _ _) | exact zr3 (sc_b hW _ _) | exact rkP_zr hW _ | exact scA_zr hW _ _ | exact zr3 (cW_b hW) | exact zr3 (wS_b hW) | (unfold zr at *; omega)) (by first | assumption | omega) (by first | assumption | omega)) dL_isClue_238 (by decide) rfl cw_RL_162 okX9_contradict rfl (Nat.le_of_ble_eq_true rfl) ⟨Nat.le_of_ble_eq_true rfl, Nat.le_of_ble_eq_true rfl, Nat.le_of_ble_eq_true rfl, Nat.le_of_ble_eq_true rfl⟩ ?_
                                    refine zy_top (b := zb (¬ ((k : Nat) : Int) = (z % (D 12 0)) ∧ ¬ tog D k (z % (D 12 0)).toNat)) rfl ?_
                                    refine zx_if_eq (tgt := 246) (by first | exact hz _ _ | assumption | exact zr_b _ | exact zcmp_r _ _ | exact hzD _ _ | exact zr3 (tS_b hW _) | exact zr3 (lsc_b hW _ _) | exact zr3 (sc_b hW _ _) | exact rkP_zr hW _ | exact scA_zr hW _ _ | exact zr3 (cW_b hW) | exact zr3 (wS_b hW) | (unfold zr at *; omega)) dL_isClue_241 (by decide) (fun h241 => ?_) (fun h241 => ?_)
                                    · have h241 := zb_0.mp h241
                                      refine zy_iinc (b := y + 1) [zf 9 0, zi ((k : Nat) : Int), zi z, zi acc, zi 1, zi ((c : Nat) : Int), zi (y + 1), zi (z % (D 12 0))] dL_isClue_246 rfl (by omega) (Nat.le_of_ble_eq_true rfl) rfl rfl ?_
                                      refine zx_goto (tgt := 87) dL_isClue_249 (by decide) ?_
                                      refine zy_drop 7 [zf 9 0, zi ((k : Nat) : Int), zi z, zi acc, zi 1, zi ((c : Nat) : Int), zi (y + 1), zu] rfl ?_
                                      exact ih87 (y + 1) 1 (by omega) (by
                                             first
                                             | exact Or.inr rfl
                                             | (rcases hg with ⟨g0, g1, g2⟩ | g0
                                                · refine Or.inl ⟨g0, g1, fun v v1 v2 => ?_⟩
                                                  by_cases e : v = y
                                                  · rw [e]; exact h104
                                                  · exact g2 v v1 (by omega)
                                                · exact Or.inr g0)) (by omega)
                                    · have h241 := zb_n.mp h241
                                      exfalso; exact h241.2 (tog_of (by omega) h104.1 h104.2 h231.2)
                                · refine zx_iload dL_isClue_201 rfl ?_
                                  refine zx_aloadN dL_isClue_203 rfl rfl ?_
                                  refine zx_iloadN dL_isClue_204 rfl rfl ?_
                                  refine zy_cv [zi ((k : Nat) : Int)] (fX9_valueOf  hfl hz hB hW (by first | exact hz _ _ | assumption | exact zr_b _ | exact zcmp_r _ _ | exact hzD _ _ | exact zr3 (tS_b hW _) | exact zr3 (lsc_b hW _ _) | exact zr3 (sc_b hW _ _) | exact rkP_zr hW _ | exact scA_zr hW _ _ | exact zr3 (cW_b hW) | exact zr3 (wS_b hW) | (unfold zr at *; omega)) (by first | assumption | omega)) dL_isClue_205 (by decide) rfl cw_RL_114 okX9_valueOf rfl (Nat.le_of_ble_eq_true rfl) ⟨Nat.le_of_ble_eq_true rfl, Nat.le_of_ble_eq_true rfl, Nat.le_of_ble_eq_true rfl, Nat.le_of_ble_eq_true rfl⟩ ?_
                                  refine zy_top (b := D 15 k) rfl ?_
                                  refine zx_icmp_eq (tgt := 213) (by first | exact hz _ _ | assumption | exact zr_b _ | exact zcmp_r _ _ | exact hzD _ _ | exact zr3 (tS_b hW _) | exact zr3 (lsc_b hW _ _) | exact zr3 (sc_b hW _ _) | exact rkP_zr hW _ | exact scA_zr hW _ _ | exact zr3 (cW_b hW) | exact zr3 (wS_b hW) | (unfold zr at *; omega)) (by first | exact hz _ _ | assumption | exact zr_b _ | exact zcmp_r _ _ | exact hzD _ _ | exact zr3 (tS_b hW _) | exact zr3 (lsc_b hW _ _) | exact zr3 (sc_b hW _ _) | exact rkP_zr hW _ | exact scA_zr hW _ _ | exact zr3 (cW_b hW) | exact zr3 (wS_b hW) | (unfold zr at *; omega)) dL_isClue_208 (by decide) (fun h208 => ?_) (fun h208 => ?_)
                                  · refine zx_iloadN dL_isClue_213 rfl rfl ?_
                                    refine zx_aloadN dL_isClue_214 rfl rfl ?_
                                    refine zy_cv [] (fX9_clueCount  hfl hz hB hW) dL_isClue_215 (by decide) rfl cw_RL_98 okX9_clueCount rfl (Nat.le_of_ble_eq_true rfl) ⟨Nat.le_of_ble_eq_true rfl, Nat.le_of_ble_eq_true rfl, Nat.le_of_ble_eq_true rfl, Nat.le_of_ble_eq_true rfl⟩ ?_
                                    refine zx_irem (by omega) (by omega) (by omega) (by omega) dL_isClue_218 ?_
                                    refine zy_istore [zf 9 0, zi ((k : Nat) : Int), zi z, zi acc, zi 1, zi ((c : Nat) : Int), zi y, zi (z % (D 12 0))] dL_isClue_219 (Nat.le_of_ble_eq_true rfl) (Nat.le_of_ble_eq_true rfl) rfl rfl ?_
                                    refine zx_aloadN dL_isClue_221 rfl rfl ?_
                                    refine zx_iload dL_isClue_222 rfl ?_
                                    refine zx_iload dL_isClue_224 rfl ?_
                                    refine zx_iload dL_isClue_226 rfl ?_
                                    refine zy_cv [zi ((c : Nat) : Int), zi y, zi (z % (D 12 0))] (fX9_explains  hfl hz hB hW (by first | exact hz _ _ | assumption | exact zr_b _ | exact zcmp_r _ _ | exact hzD _ _ | exact zr3 (tS_b hW _) | exact zr3 (lsc_b hW _ _) | exact zr3 (sc_b hW _ _) | exact rkP_zr hW _ | exact scA_zr hW _ _ | exact zr3 (cW_b hW) | exact zr3 (wS_b hW) | (unfold zr at *; omega)) (by first | exact hz _ _ | assumption | exact zr_b _ | exact zcmp_r _ _ | exact hzD _ _ | exact zr3 (tS_b hW _) | exact zr3 (lsc_b hW _ _) | exact zr3 (sc_b hW _ _) | exact rkP_zr hW _ | exact scA_zr hW _ _ | exact zr3 (cW_b hW) | exact zr3 (wS_b hW) | (unfold zr at *; omega)) (by first | exact hz _ _ | assumption | exact zr_b _ | exact zcmp_r _ _ | exact hzD _ _ | exact zr3 (tS_b hW _) | exact zr3 (lsc_b hW _ _) | exact zr3 (sc_b hW _ _) | exact rkP_zr hW _ | exact scA_zr hW _ _ | exact zr3 (cW_b hW) | exact zr3 (wS_b hW) | (unfold zr at *; omega)) (by first | assumption | omega) (by first | assumption | omega) (by first | assumption | omega)) dL_isClue_228 (by decide) rfl cw_RL_140 okX9_explains rfl (Nat.le_of_ble_eq_true rfl) ⟨Nat.le_of_ble_eq_true rfl, Nat.le_of_ble_eq_true rfl, Nat.le_of_ble_eq_true rfl, Nat.le_of_ble_eq_true rfl⟩ ?_
                                    refine zy_top (b := zb (works D c y ∧ cFit D c y (z % (D 12 0)).toNat)) rfl ?_
                                    refine zx_if_eq (tgt := 246) (by first | exact hz _ _ | assumption | exact zr_b _ | exact zcmp_r _ _ | exact hzD _ _ | exact zr3 (tS_b hW _) | exact zr3 (lsc_b hW _ _) | exact zr3 (sc_b hW _ _) | exact rkP_zr hW _ | exact scA_zr hW _ _ | exact zr3 (cW_b hW) | exact zr3 (wS_b hW) | (unfold zr at *; omega)) dL_isClue_231 (by decide) (fun h231 => ?_) (fun h231 => ?_)
                                    · have h231 := zb_0.mp h231
                                      refine zy_iinc (b := y + 1) [zf 9 0, zi ((k : Nat) : Int), zi z, zi acc, zi 1, zi ((c : Nat) : Int), zi (y + 1), zi (z % (D 12 0))] dL_isClue_246 rfl (by omega) (Nat.le_of_ble_eq_true rfl) rfl rfl ?_
                                      refine zx_goto (tgt := 87) dL_isClue_249 (by decide) ?_
                                      refine zy_drop 7 [zf 9 0, zi ((k : Nat) : Int), zi z, zi acc, zi 1, zi ((c : Nat) : Int), zi (y + 1), zu] rfl ?_
                                      exact ih87 (y + 1) 1 (by omega) (by
                                             first
                                             | exact Or.inr rfl
                                             | (rcases hg with ⟨g0, g1, g2⟩ | g0
                                                · refine Or.inl ⟨g0, g1, fun v v1 v2 => ?_⟩
                                                  by_cases e : v = y
                                                  · rw [e]; exact h104
                                                  · exact g2 v v1 (by omega)
                                                · exact Or.inr g0)) (by omega)
                                    · have h231 := zb_n.mp h231
                                      refine zx_aloadN dL_isClue_234 rfl rfl ?_
                                      refine zx_iloadN dL_isClue_235 rfl rfl ?_
                                      refine zx_iload dL_isClue_236 rfl ?_
                                      refine zy_cv [zi ((k : Nat) : Int), zi (z % (D 12 0))] (fX9_contradict  hfl hz hB hW (by first | exact hz _ _ | assumption | exact zr_b _ | exact zcmp_r _ _ | exact hzD _ _ | exact zr3 (tS_b hW _) | exact zr3 (lsc_b hW _ _) | exact zr3 (sc_b hW _ _) | exact rkP_zr hW _ | exact scA_zr hW _ _ | exact zr3 (cW_b hW) | exact zr3 (wS_b hW) | (unfold zr at *; omega)) (by first | exact hz _ _ | assumption | exact zr_b _ | exact zcmp_r _ _ | exact hzD _ _ | exact zr3 (tS_b hW _) | exact zr3 (lsc_b hW _ _) | exact zr3 (sc_b hW _ _) | exact rkP_zr hW _ | exact scA_zr hW _ _ | exact zr3 (cW_b hW) | exact zr3 (wS_b hW) | (unfold zr at *; omega)) (by first | assumption | omega) (by first | assumption | omega)) dL_isClue_238 (by decide) rfl cw_RL_162 okX9_contradict rfl (Nat.le_of_ble_eq_true rfl) ⟨Nat.le_of_ble_eq_true rfl, Nat.le_of_ble_eq_true rfl, Nat.le_of_ble_eq_true rfl, Nat.le_of_ble_eq_true rfl⟩ ?_
                                      refine zy_top (b := zb (¬ ((k : Nat) : Int) = (z % (D 12 0)) ∧ ¬ tog D k (z % (D 12 0)).toNat)) rfl ?_
                                      refine zx_if_eq (tgt := 246) (by first | exact hz _ _ | assumption | exact zr_b _ | exact zcmp_r _ _ | exact hzD _ _ | exact zr3 (tS_b hW _) | exact zr3 (lsc_b hW _ _) | exact zr3 (sc_b hW _ _) | exact rkP_zr hW _ | exact scA_zr hW _ _ | exact zr3 (cW_b hW) | exact zr3 (wS_b hW) | (unfold zr at *; omega)) dL_isClue_241 (by decide) (fun h241 => ?_) (fun h241 => ?_)
                                      · have h241 := zb_0.mp h241
                                        refine zy_iinc (b := y + 1) [zf 9 0, zi ((k : Nat) : Int), zi z, zi acc, zi 1, zi ((c : Nat) : Int), zi (y + 1), zi (z % (D 12 0))] dL_isClue_246 rfl (by omega) (Nat.le_of_ble_eq_true rfl) rfl rfl ?_
                                        refine zx_goto (tgt := 87) dL_isClue_249 (by decide) ?_
                                        refine zy_drop 7 [zf 9 0, zi ((k : Nat) : Int), zi z, zi acc, zi 1, zi ((c : Nat) : Int), zi (y + 1), zu] rfl ?_
                                        exact ih87 (y + 1) 1 (by omega) (by
                                               first
                                               | exact Or.inr rfl
                                               | (rcases hg with ⟨g0, g1, g2⟩ | g0
                                                  · refine Or.inl ⟨g0, g1, fun v v1 v2 => ?_⟩
                                                    by_cases e : v = y
                                                    · rw [e]; exact h104
                                                    · exact g2 v v1 (by omega)
                                                  · exact Or.inr g0)) (by omega)
                                      · have h241 := zb_n.mp h241
                                        exfalso; exact h241.2 (tog_of (by omega) h104.1 h104.2 h231.2)
                                  · exfalso
                                    have hcf := h104.2
                                    unfold cFit pFit eYr lYr at hcf
                                    first
                                    | exact h121 h104.1
                                    | exact h143 (hcf.1.1 h129)
                                    | exact h166 (hcf.1.2.1 h152)
                                    | exact h189 (hcf.1.2.2 h175)
                                    | (have e2 := hcf.2
                                       rw [if_pos h198, if_pos h198] at e2
                                       omega)
                              · refine zx_aloadN dL_isClue_178 rfl rfl ?_
                                refine zx_iload dL_isClue_179 rfl ?_
                                refine zy_cv [zi ((c : Nat) : Int)] (fX9_cityOf  hfl hz hB hW (by first | exact hz _ _ | assumption | exact zr_b _ | exact zcmp_r _ _ | exact hzD _ _ | exact zr3 (tS_b hW _) | exact zr3 (lsc_b hW _ _) | exact zr3 (sc_b hW _ _) | exact rkP_zr hW _ | exact scA_zr hW _ _ | exact zr3 (cW_b hW) | exact zr3 (wS_b hW) | (unfold zr at *; omega)) (by first | assumption | omega)) dL_isClue_181 (by decide) rfl cw_RL_168 okX9_cityOf rfl (Nat.le_of_ble_eq_true rfl) ⟨Nat.le_of_ble_eq_true rfl, Nat.le_of_ble_eq_true rfl, Nat.le_of_ble_eq_true rfl, Nat.le_of_ble_eq_true rfl⟩ ?_
                                refine zy_top (b := D 3 c) rfl ?_
                                refine zx_aloadN dL_isClue_184 rfl rfl ?_
                                refine zx_iloadN dL_isClue_185 rfl rfl ?_
                                refine zy_cv [zi ((k : Nat) : Int)] (fX9_valueOf  hfl hz hB hW (by first | exact hz _ _ | assumption | exact zr_b _ | exact zcmp_r _ _ | exact hzD _ _ | exact zr3 (tS_b hW _) | exact zr3 (lsc_b hW _ _) | exact zr3 (sc_b hW _ _) | exact rkP_zr hW _ | exact scA_zr hW _ _ | exact zr3 (cW_b hW) | exact zr3 (wS_b hW) | (unfold zr at *; omega)) (by first | assumption | omega)) dL_isClue_186 (by decide) rfl cw_RL_114 okX9_valueOf rfl (Nat.le_of_ble_eq_true rfl) ⟨Nat.le_of_ble_eq_true rfl, Nat.le_of_ble_eq_true rfl, Nat.le_of_ble_eq_true rfl, Nat.le_of_ble_eq_true rfl⟩ ?_
                                refine zy_top (b := D 15 k) rfl ?_
                                refine zx_icmp_ne (tgt := 211) (by first | exact hz _ _ | assumption | exact zr_b _ | exact zcmp_r _ _ | exact hzD _ _ | exact zr3 (tS_b hW _) | exact zr3 (lsc_b hW _ _) | exact zr3 (sc_b hW _ _) | exact rkP_zr hW _ | exact scA_zr hW _ _ | exact zr3 (cW_b hW) | exact zr3 (wS_b hW) | (unfold zr at *; omega)) (by first | exact hz _ _ | assumption | exact zr_b _ | exact zcmp_r _ _ | exact hzD _ _ | exact zr3 (tS_b hW _) | exact zr3 (lsc_b hW _ _) | exact zr3 (sc_b hW _ _) | exact rkP_zr hW _ | exact scA_zr hW _ _ | exact zr3 (cW_b hW) | exact zr3 (wS_b hW) | (unfold zr at *; omega)) dL_isClue_189 (by decide) (fun h189 => ?_) (fun h189 => ?_)
                                · exfalso
                                  have hcf := h104.2
                                  unfold cFit pFit eYr lYr at hcf
                                  first
                                  | exact h121 h104.1
                                  | exact h143 (hcf.1.1 h129)
                                  | exact h166 (hcf.1.2.1 h152)
                                  | exact h189 (hcf.1.2.2 h175)
                                  | (have e2 := hcf.2
                                     rw [if_pos h198, if_pos h198] at e2
                                     omega)
                                · refine zx_aloadN dL_isClue_192 rfl rfl ?_
                                  refine zx_iloadN dL_isClue_193 rfl rfl ?_
                                  refine zy_cv [zi ((k : Nat) : Int)] (fX9_kindOf  hfl hz hB hW (by first | exact hz _ _ | assumption | exact zr_b _ | exact zcmp_r _ _ | exact hzD _ _ | exact zr3 (tS_b hW _) | exact zr3 (lsc_b hW _ _) | exact zr3 (sc_b hW _ _) | exact rkP_zr hW _ | exact scA_zr hW _ _ | exact zr3 (cW_b hW) | exact zr3 (wS_b hW) | (unfold zr at *; omega)) (by first | assumption | omega)) dL_isClue_194 (by decide) rfl cw_RL_109 okX9_kindOf rfl (Nat.le_of_ble_eq_true rfl) ⟨Nat.le_of_ble_eq_true rfl, Nat.le_of_ble_eq_true rfl, Nat.le_of_ble_eq_true rfl, Nat.le_of_ble_eq_true rfl⟩ ?_
                                  refine zy_top (b := D 14 k) rfl ?_
                                  refine zx_iconst dL_isClue_197 ?_
                                  refine zx_icmp_ne (tgt := 213) (by first | exact hz _ _ | assumption | exact zr_b _ | exact zcmp_r _ _ | exact hzD _ _ | exact zr3 (tS_b hW _) | exact zr3 (lsc_b hW _ _) | exact zr3 (sc_b hW _ _) | exact rkP_zr hW _ | exact scA_zr hW _ _ | exact zr3 (cW_b hW) | exact zr3 (wS_b hW) | (unfold zr at *; omega)) (by first | exact hz _ _ | assumption | exact zr_b _ | exact zcmp_r _ _ | exact hzD _ _ | exact zr3 (tS_b hW _) | exact zr3 (lsc_b hW _ _) | exact zr3 (sc_b hW _ _) | exact rkP_zr hW _ | exact scA_zr hW _ _ | exact zr3 (cW_b hW) | exact zr3 (wS_b hW) | (unfold zr at *; omega)) dL_isClue_198 (by decide) (fun h198 => ?_) (fun h198 => ?_)
                                  · refine zx_iloadN dL_isClue_213 rfl rfl ?_
                                    refine zx_aloadN dL_isClue_214 rfl rfl ?_
                                    refine zy_cv [] (fX9_clueCount  hfl hz hB hW) dL_isClue_215 (by decide) rfl cw_RL_98 okX9_clueCount rfl (Nat.le_of_ble_eq_true rfl) ⟨Nat.le_of_ble_eq_true rfl, Nat.le_of_ble_eq_true rfl, Nat.le_of_ble_eq_true rfl, Nat.le_of_ble_eq_true rfl⟩ ?_
                                    refine zx_irem (by omega) (by omega) (by omega) (by omega) dL_isClue_218 ?_
                                    refine zy_istore [zf 9 0, zi ((k : Nat) : Int), zi z, zi acc, zi 1, zi ((c : Nat) : Int), zi y, zi (z % (D 12 0))] dL_isClue_219 (Nat.le_of_ble_eq_true rfl) (Nat.le_of_ble_eq_true rfl) rfl rfl ?_
                                    refine zx_aloadN dL_isClue_221 rfl rfl ?_
                                    refine zx_iload dL_isClue_222 rfl ?_
                                    refine zx_iload dL_isClue_224 rfl ?_
                                    refine zx_iload dL_isClue_226 rfl ?_
                                    refine zy_cv [zi ((c : Nat) : Int), zi y, zi (z % (D 12 0))] (fX9_explains  hfl hz hB hW (by first | exact hz _ _ | assumption | exact zr_b _ | exact zcmp_r _ _ | exact hzD _ _ | exact zr3 (tS_b hW _) | exact zr3 (lsc_b hW _ _) | exact zr3 (sc_b hW _ _) | exact rkP_zr hW _ | exact scA_zr hW _ _ | exact zr3 (cW_b hW) | exact zr3 (wS_b hW) | (unfold zr at *; omega)) (by first | exact hz _ _ | assumption | exact zr_b _ | exact zcmp_r _ _ | exact hzD _ _ | exact zr3 (tS_b hW _) | exact zr3 (lsc_b hW _ _) | exact zr3 (sc_b hW _ _) | exact rkP_zr hW _ | exact scA_zr hW _ _ | exact zr3 (cW_b hW) | exact zr3 (wS_b hW) | (unfold zr at *; omega)) (by first | exact hz _ _ | assumption | exact zr_b _ | exact zcmp_r _ _ | exact hzD _ _ | exact zr3 (tS_b hW _) | exact zr3 (lsc_b hW _ _) | exact zr3 (sc_b hW _ _) | exact rkP_zr hW _ | exact scA_zr hW _ _ | exact zr3 (cW_b hW) | exact zr3 (wS_b hW) | (unfold zr at *; omega)) (by first | assumption | omega) (by first | assumption | omega) (by first | assumption | omega)) dL_isClue_228 (by decide) rfl cw_RL_140 okX9_explains rfl (Nat.le_of_ble_eq_true rfl) ⟨Nat.le_of_ble_eq_true rfl, Nat.le_of_ble_eq_true rfl, Nat.le_of_ble_eq_true rfl, Nat.le_of_ble_eq_true rfl⟩ ?_
                                    refine zy_top (b := zb (works D c y ∧ cFit D c y (z % (D 12 0)).toNat)) rfl ?_
                                    refine zx_if_eq (tgt := 246) (by first | exact hz _ _ | assumption | exact zr_b _ | exact zcmp_r _ _ | exact hzD _ _ | exact zr3 (tS_b hW _) | exact zr3 (lsc_b hW _ _) | exact zr3 (sc_b hW _ _) | exact rkP_zr hW _ | exact scA_zr hW _ _ | exact zr3 (cW_b hW) | exact zr3 (wS_b hW) | (unfold zr at *; omega)) dL_isClue_231 (by decide) (fun h231 => ?_) (fun h231 => ?_)
                                    · have h231 := zb_0.mp h231
                                      refine zy_iinc (b := y + 1) [zf 9 0, zi ((k : Nat) : Int), zi z, zi acc, zi 1, zi ((c : Nat) : Int), zi (y + 1), zi (z % (D 12 0))] dL_isClue_246 rfl (by omega) (Nat.le_of_ble_eq_true rfl) rfl rfl ?_
                                      refine zx_goto (tgt := 87) dL_isClue_249 (by decide) ?_
                                      refine zy_drop 7 [zf 9 0, zi ((k : Nat) : Int), zi z, zi acc, zi 1, zi ((c : Nat) : Int), zi (y + 1), zu] rfl ?_
                                      exact ih87 (y + 1) 1 (by omega) (by
                                             first
                                             | exact Or.inr rfl
                                             | (rcases hg with ⟨g0, g1, g2⟩ | g0
                                                · refine Or.inl ⟨g0, g1, fun v v1 v2 => ?_⟩
                                                  by_cases e : v = y
                                                  · rw [e]; exact h104
                                                  · exact g2 v v1 (by omega)
                                                · exact Or.inr g0)) (by omega)
                                    · have h231 := zb_n.mp h231
                                      refine zx_aloadN dL_isClue_234 rfl rfl ?_
                                      refine zx_iloadN dL_isClue_235 rfl rfl ?_
                                      refine zx_iload dL_isClue_236 rfl ?_
                                      refine zy_cv [zi ((k : Nat) : Int), zi (z % (D 12 0))] (fX9_contradict  hfl hz hB hW (by first | exact hz _ _ | assumption | exact zr_b _ | exact zcmp_r _ _ | exact hzD _ _ | exact zr3 (tS_b hW _) | exact zr3 (lsc_b hW _ _) | exact zr3 (sc_b hW _ _) | exact rkP_zr hW _ | exact scA_zr hW _ _ | exact zr3 (cW_b hW) | exact zr3 (wS_b hW) | (unfold zr at *; omega)) (by first | exact hz _ _ | assumption | exact zr_b _ | exact zcmp_r _ _ | exact hzD _ _ | exact zr3 (tS_b hW _) | exact zr3 (lsc_b hW _ _) | exact zr3 (sc_b hW _ _) | exact rkP_zr hW _ | exact scA_zr hW _ _ | exact zr3 (cW_b hW) | exact zr3 (wS_b hW) | (unfold zr at *; omega)) (by first | assumption | omega) (by first | assumption | omega)) dL_isClue_238 (by decide) rfl cw_RL_162 okX9_contradict rfl (Nat.le_of_ble_eq_true rfl) ⟨Nat.le_of_ble_eq_true rfl, Nat.le_of_ble_eq_true rfl, Nat.le_of_ble_eq_true rfl, Nat.le_of_ble_eq_true rfl⟩ ?_
                                      refine zy_top (b := zb (¬ ((k : Nat) : Int) = (z % (D 12 0)) ∧ ¬ tog D k (z % (D 12 0)).toNat)) rfl ?_
                                      refine zx_if_eq (tgt := 246) (by first | exact hz _ _ | assumption | exact zr_b _ | exact zcmp_r _ _ | exact hzD _ _ | exact zr3 (tS_b hW _) | exact zr3 (lsc_b hW _ _) | exact zr3 (sc_b hW _ _) | exact rkP_zr hW _ | exact scA_zr hW _ _ | exact zr3 (cW_b hW) | exact zr3 (wS_b hW) | (unfold zr at *; omega)) dL_isClue_241 (by decide) (fun h241 => ?_) (fun h241 => ?_)
                                      · have h241 := zb_0.mp h241
                                        refine zy_iinc (b := y + 1) [zf 9 0, zi ((k : Nat) : Int), zi z, zi acc, zi 1, zi ((c : Nat) : Int), zi (y + 1), zi (z % (D 12 0))] dL_isClue_246 rfl (by omega) (Nat.le_of_ble_eq_true rfl) rfl rfl ?_
                                        refine zx_goto (tgt := 87) dL_isClue_249 (by decide) ?_
                                        refine zy_drop 7 [zf 9 0, zi ((k : Nat) : Int), zi z, zi acc, zi 1, zi ((c : Nat) : Int), zi (y + 1), zu] rfl ?_
                                        exact ih87 (y + 1) 1 (by omega) (by
                                               first
                                               | exact Or.inr rfl
                                               | (rcases hg with ⟨g0, g1, g2⟩ | g0
                                                  · refine Or.inl ⟨g0, g1, fun v v1 v2 => ?_⟩
                                                    by_cases e : v = y
                                                    · rw [e]; exact h104
                                                    · exact g2 v v1 (by omega)
                                                  · exact Or.inr g0)) (by omega)
                                      · have h241 := zb_n.mp h241
                                        exfalso; exact h241.2 (tog_of (by omega) h104.1 h104.2 h231.2)
                                  · refine zx_iload dL_isClue_201 rfl ?_
                                    refine zx_aloadN dL_isClue_203 rfl rfl ?_
                                    refine zx_iloadN dL_isClue_204 rfl rfl ?_
                                    refine zy_cv [zi ((k : Nat) : Int)] (fX9_valueOf  hfl hz hB hW (by first | exact hz _ _ | assumption | exact zr_b _ | exact zcmp_r _ _ | exact hzD _ _ | exact zr3 (tS_b hW _) | exact zr3 (lsc_b hW _ _) | exact zr3 (sc_b hW _ _) | exact rkP_zr hW _ | exact scA_zr hW _ _ | exact zr3 (cW_b hW) | exact zr3 (wS_b hW) | (unfold zr at *; omega)) (by first | assumption | omega)) dL_isClue_205 (by decide) rfl cw_RL_114 okX9_valueOf rfl (Nat.le_of_ble_eq_true rfl) ⟨Nat.le_of_ble_eq_true rfl, Nat.le_of_ble_eq_true rfl, Nat.le_of_ble_eq_true rfl, Nat.le_of_ble_eq_true rfl⟩ ?_
                                    refine zy_top (b := D 15 k) rfl ?_
                                    refine zx_icmp_eq (tgt := 213) (by first | exact hz _ _ | assumption | exact zr_b _ | exact zcmp_r _ _ | exact hzD _ _ | exact zr3 (tS_b hW _) | exact zr3 (lsc_b hW _ _) | exact zr3 (sc_b hW _ _) | exact rkP_zr hW _ | exact scA_zr hW _ _ | exact zr3 (cW_b hW) | exact zr3 (wS_b hW) | (unfold zr at *; omega)) (by first | exact hz _ _ | assumption | exact zr_b _ | exact zcmp_r _ _ | exact hzD _ _ | exact zr3 (tS_b hW _) | exact zr3 (lsc_b hW _ _) | exact zr3 (sc_b hW _ _) | exact rkP_zr hW _ | exact scA_zr hW _ _ | exact zr3 (cW_b hW) | exact zr3 (wS_b hW) | (unfold zr at *; omega)) dL_isClue_208 (by decide) (fun h208 => ?_) (fun h208 => ?_)
                                    · refine zx_iloadN dL_isClue_213 rfl rfl ?_
                                      refine zx_aloadN dL_isClue_214 rfl rfl ?_
                                      refine zy_cv [] (fX9_clueCount  hfl hz hB hW) dL_isClue_215 (by decide) rfl cw_RL_98 okX9_clueCount rfl (Nat.le_of_ble_eq_true rfl) ⟨Nat.le_of_ble_eq_true rfl, Nat.le_of_ble_eq_true rfl, Nat.le_of_ble_eq_true rfl, Nat.le_of_ble_eq_true rfl⟩ ?_
                                      refine zx_irem (by omega) (by omega) (by omega) (by omega) dL_isClue_218 ?_
                                      refine zy_istore [zf 9 0, zi ((k : Nat) : Int), zi z, zi acc, zi 1, zi ((c : Nat) : Int), zi y, zi (z % (D 12 0))] dL_isClue_219 (Nat.le_of_ble_eq_true rfl) (Nat.le_of_ble_eq_true rfl) rfl rfl ?_
                                      refine zx_aloadN dL_isClue_221 rfl rfl ?_
                                      refine zx_iload dL_isClue_222 rfl ?_
                                      refine zx_iload dL_isClue_224 rfl ?_
                                      refine zx_iload dL_isClue_226 rfl ?_
                                      refine zy_cv [zi ((c : Nat) : Int), zi y, zi (z % (D 12 0))] (fX9_explains  hfl hz hB hW (by first | exact hz _ _ | assumption | exact zr_b _ | exact zcmp_r _ _ | exact hzD _ _ | exact zr3 (tS_b hW _) | exact zr3 (lsc_b hW _ _) | exact zr3 (sc_b hW _ _) | exact rkP_zr hW _ | exact scA_zr hW _ _ | exact zr3 (cW_b hW) | exact zr3 (wS_b hW) | (unfold zr at *; omega)) (by first | exact hz _ _ | assumption | exact zr_b _ | exact zcmp_r _ _ | exact hzD _ _ | exact zr3 (tS_b hW _) | exact zr3 (lsc_b hW _ _) | exact zr3 (sc_b hW _ _) | exact rkP_zr hW _ | exact scA_zr hW _ _ | exact zr3 (cW_b hW) | exact zr3 (wS_b hW) | (unfold zr at *; omega)) (by first | exact hz _ _ | assumption | exact zr_b _ | exact zcmp_r _ _ | exact hzD _ _ | exact zr3 (tS_b hW _) | exact zr3 (lsc_b hW _ _) | exact zr3 (sc_b hW _ _) | exact rkP_zr hW _ | exact scA_zr hW _ _ | exact zr3 (cW_b hW) | exact zr3 (wS_b hW) | (unfold zr at *; omega)) (by first | assumption | omega) (by first | assumption | omega) (by first | assumption | omega)) dL_isClue_228 (by decide) rfl cw_RL_140 okX9_explains rfl (Nat.le_of_ble_eq_true rfl) ⟨Nat.le_of_ble_eq_true rfl, Nat.le_of_ble_eq_true rfl, Nat.le_of_ble_eq_true rfl, Nat.le_of_ble_eq_true rfl⟩ ?_
                                      refine zy_top (b := zb (works D c y ∧ cFit D c y (z % (D 12 0)).toNat)) rfl ?_
                                      refine zx_if_eq (tgt := 246) (by first | exact hz _ _ | assumption | exact zr_b _ | exact zcmp_r _ _ | exact hzD _ _ | exact zr3 (tS_b hW _) | exact zr3 (lsc_b hW _ _) | exact zr3 (sc_b hW _ _) | exact rkP_zr hW _ | exact scA_zr hW _ _ | exact zr3 (cW_b hW) | exact zr3 (wS_b hW) | (unfold zr at *; omega)) dL_isClue_231 (by decide) (fun h231 => ?_) (fun h231 => ?_)
                                      · have h231 := zb_0.mp h231
                                        refine zy_iinc (b := y + 1) [zf 9 0, zi ((k : Nat) : Int), zi z, zi acc, zi 1, zi ((c : Nat) : Int), zi (y + 1), zi (z % (D 12 0))] dL_isClue_246 rfl (by omega) (Nat.le_of_ble_eq_true rfl) rfl rfl ?_
                                        refine zx_goto (tgt := 87) dL_isClue_249 (by decide) ?_
                                        refine zy_drop 7 [zf 9 0, zi ((k : Nat) : Int), zi z, zi acc, zi 1, zi ((c : Nat) : Int), zi (y + 1), zu] rfl ?_
                                        exact ih87 (y + 1) 1 (by omega) (by
                                               first
                                               | exact Or.inr rfl
                                               | (rcases hg with ⟨g0, g1, g2⟩ | g0
                                                  · refine Or.inl ⟨g0, g1, fun v v1 v2 => ?_⟩
                                                    by_cases e : v = y
                                                    · rw [e]; exact h104
                                                    · exact g2 v v1 (by omega)
                                                  · exact Or.inr g0)) (by omega)
                                      · have h231 := zb_n.mp h231
                                        refine zx_aloadN dL_isClue_234 rfl rfl ?_
                                        refine zx_iloadN dL_isClue_235 rfl rfl ?_
                                        refine zx_iload dL_isClue_236 rfl ?_
                                        refine zy_cv [zi ((k : Nat) : Int), zi (z % (D 12 0))] (fX9_contradict  hfl hz hB hW (by first | exact hz _ _ | assumption | exact zr_b _ | exact zcmp_r _ _ | exact hzD _ _ | exact zr3 (tS_b hW _) | exact zr3 (lsc_b hW _ _) | exact zr3 (sc_b hW _ _) | exact rkP_zr hW _ | exact scA_zr hW _ _ | exact zr3 (cW_b hW) | exact zr3 (wS_b hW) | (unfold zr at *; omega)) (by first | exact hz _ _ | assumption | exact zr_b _ | exact zcmp_r _ _ | exact hzD _ _ | exact zr3 (tS_b hW _) | exact zr3 (lsc_b hW _ _) | exact zr3 (sc_b hW _ _) | exact rkP_zr hW _ | exact scA_zr hW _ _ | exact zr3 (cW_b hW) | exact zr3 (wS_b hW) | (unfold zr at *; omega)) (by first | assumption | omega) (by first | assumption | omega)) dL_isClue_238 (by decide) rfl cw_RL_162 okX9_contradict rfl (Nat.le_of_ble_eq_true rfl) ⟨Nat.le_of_ble_eq_true rfl, Nat.le_of_ble_eq_true rfl, Nat.le_of_ble_eq_true rfl, Nat.le_of_ble_eq_true rfl⟩ ?_
                                        refine zy_top (b := zb (¬ ((k : Nat) : Int) = (z % (D 12 0)) ∧ ¬ tog D k (z % (D 12 0)).toNat)) rfl ?_
                                        refine zx_if_eq (tgt := 246) (by first | exact hz _ _ | assumption | exact zr_b _ | exact zcmp_r _ _ | exact hzD _ _ | exact zr3 (tS_b hW _) | exact zr3 (lsc_b hW _ _) | exact zr3 (sc_b hW _ _) | exact rkP_zr hW _ | exact scA_zr hW _ _ | exact zr3 (cW_b hW) | exact zr3 (wS_b hW) | (unfold zr at *; omega)) dL_isClue_241 (by decide) (fun h241 => ?_) (fun h241 => ?_)
                                        · have h241 := zb_0.mp h241
                                          refine zy_iinc (b := y + 1) [zf 9 0, zi ((k : Nat) : Int), zi z, zi acc, zi 1, zi ((c : Nat) : Int), zi (y + 1), zi (z % (D 12 0))] dL_isClue_246 rfl (by omega) (Nat.le_of_ble_eq_true rfl) rfl rfl ?_
                                          refine zx_goto (tgt := 87) dL_isClue_249 (by decide) ?_
                                          refine zy_drop 7 [zf 9 0, zi ((k : Nat) : Int), zi z, zi acc, zi 1, zi ((c : Nat) : Int), zi (y + 1), zu] rfl ?_
                                          exact ih87 (y + 1) 1 (by omega) (by
                                                 first
                                                 | exact Or.inr rfl
                                                 | (rcases hg with ⟨g0, g1, g2⟩ | g0
                                                    · refine Or.inl ⟨g0, g1, fun v v1 v2 => ?_⟩
                                                      by_cases e : v = y
                                                      · rw [e]; exact h104
                                                      · exact g2 v v1 (by omega)
                                                    · exact Or.inr g0)) (by omega)
                                        · have h241 := zb_n.mp h241
                                          exfalso; exact h241.2 (tog_of (by omega) h104.1 h104.2 h231.2)
                                    · exfalso
                                      have hcf := h104.2
                                      unfold cFit pFit eYr lYr at hcf
                                      first
                                      | exact h121 h104.1
                                      | exact h143 (hcf.1.1 h129)
                                      | exact h166 (hcf.1.2.1 h152)
                                      | exact h189 (hcf.1.2.2 h175)
                                      | (have e2 := hcf.2
                                         rw [if_pos h198, if_pos h198] at e2
                                         omega)
                            · refine zx_aloadN dL_isClue_155 rfl rfl ?_
                              refine zx_iload dL_isClue_156 rfl ?_
                              refine zx_aloadN dL_isClue_158 rfl rfl ?_
                              refine zx_iloadN dL_isClue_159 rfl rfl ?_
                              refine zy_cv [zi ((k : Nat) : Int)] (fX9_valueOf  hfl hz hB hW (by first | exact hz _ _ | assumption | exact zr_b _ | exact zcmp_r _ _ | exact hzD _ _ | exact zr3 (tS_b hW _) | exact zr3 (lsc_b hW _ _) | exact zr3 (sc_b hW _ _) | exact rkP_zr hW _ | exact scA_zr hW _ _ | exact zr3 (cW_b hW) | exact zr3 (wS_b hW) | (unfold zr at *; omega)) (by first | assumption | omega)) dL_isClue_160 (by decide) rfl cw_RL_114 okX9_valueOf rfl (Nat.le_of_ble_eq_true rfl) ⟨Nat.le_of_ble_eq_true rfl, Nat.le_of_ble_eq_true rfl, Nat.le_of_ble_eq_true rfl, Nat.le_of_ble_eq_true rfl⟩ ?_
                              refine zy_top (b := D 15 k) rfl ?_
                              refine zy_cv [zi ((c : Nat) : Int), zi (D 15 k)] (fX9_hasTypeface  hfl hz hB hW (by first | exact hz _ _ | assumption | exact zr_b _ | exact zcmp_r _ _ | exact hzD _ _ | exact zr3 (tS_b hW _) | exact zr3 (lsc_b hW _ _) | exact zr3 (sc_b hW _ _) | exact rkP_zr hW _ | exact scA_zr hW _ _ | exact zr3 (cW_b hW) | exact zr3 (wS_b hW) | (unfold zr at *; omega)) (by first | exact hz _ _ | assumption | exact zr_b _ | exact zcmp_r _ _ | exact hzD _ _ | exact zr3 (tS_b hW _) | exact zr3 (lsc_b hW _ _) | exact zr3 (sc_b hW _ _) | exact rkP_zr hW _ | exact scA_zr hW _ _ | exact zr3 (cW_b hW) | exact zr3 (wS_b hW) | (unfold zr at *; omega)) (by first | assumption | omega)) dL_isClue_163 (by decide) rfl cw_RL_165 okX9_hasTypeface rfl (Nat.le_of_ble_eq_true rfl) ⟨Nat.le_of_ble_eq_true rfl, Nat.le_of_ble_eq_true rfl, Nat.le_of_ble_eq_true rfl, Nat.le_of_ble_eq_true rfl⟩ ?_
                              refine zy_top (b := zb (hasTyp D c (D 15 k))) rfl ?_
                              refine zx_if_eq (tgt := 211) (by first | exact hz _ _ | assumption | exact zr_b _ | exact zcmp_r _ _ | exact hzD _ _ | exact zr3 (tS_b hW _) | exact zr3 (lsc_b hW _ _) | exact zr3 (sc_b hW _ _) | exact rkP_zr hW _ | exact scA_zr hW _ _ | exact zr3 (cW_b hW) | exact zr3 (wS_b hW) | (unfold zr at *; omega)) dL_isClue_166 (by decide) (fun h166 => ?_) (fun h166 => ?_)
                              · have h166 := zb_0.mp h166
                                exfalso
                                have hcf := h104.2
                                unfold cFit pFit eYr lYr at hcf
                                first
                                | exact h121 h104.1
                                | exact h143 (hcf.1.1 h129)
                                | exact h166 (hcf.1.2.1 h152)
                                | exact h189 (hcf.1.2.2 h175)
                                | (have e2 := hcf.2
                                   rw [if_pos h198, if_pos h198] at e2
                                   omega)
                              · have h166 := zb_n.mp h166
                                refine zx_aloadN dL_isClue_169 rfl rfl ?_
                                refine zx_iloadN dL_isClue_170 rfl rfl ?_
                                refine zy_cv [zi ((k : Nat) : Int)] (fX9_kindOf  hfl hz hB hW (by first | exact hz _ _ | assumption | exact zr_b _ | exact zcmp_r _ _ | exact hzD _ _ | exact zr3 (tS_b hW _) | exact zr3 (lsc_b hW _ _) | exact zr3 (sc_b hW _ _) | exact rkP_zr hW _ | exact scA_zr hW _ _ | exact zr3 (cW_b hW) | exact zr3 (wS_b hW) | (unfold zr at *; omega)) (by first | assumption | omega)) dL_isClue_171 (by decide) rfl cw_RL_109 okX9_kindOf rfl (Nat.le_of_ble_eq_true rfl) ⟨Nat.le_of_ble_eq_true rfl, Nat.le_of_ble_eq_true rfl, Nat.le_of_ble_eq_true rfl, Nat.le_of_ble_eq_true rfl⟩ ?_
                                refine zy_top (b := D 14 k) rfl ?_
                                refine zx_iconst dL_isClue_174 ?_
                                refine zx_icmp_ne (tgt := 192) (by first | exact hz _ _ | assumption | exact zr_b _ | exact zcmp_r _ _ | exact hzD _ _ | exact zr3 (tS_b hW _) | exact zr3 (lsc_b hW _ _) | exact zr3 (sc_b hW _ _) | exact rkP_zr hW _ | exact scA_zr hW _ _ | exact zr3 (cW_b hW) | exact zr3 (wS_b hW) | (unfold zr at *; omega)) (by first | exact hz _ _ | assumption | exact zr_b _ | exact zcmp_r _ _ | exact hzD _ _ | exact zr3 (tS_b hW _) | exact zr3 (lsc_b hW _ _) | exact zr3 (sc_b hW _ _) | exact rkP_zr hW _ | exact scA_zr hW _ _ | exact zr3 (cW_b hW) | exact zr3 (wS_b hW) | (unfold zr at *; omega)) dL_isClue_175 (by decide) (fun h175 => ?_) (fun h175 => ?_)
                                · refine zx_aloadN dL_isClue_192 rfl rfl ?_
                                  refine zx_iloadN dL_isClue_193 rfl rfl ?_
                                  refine zy_cv [zi ((k : Nat) : Int)] (fX9_kindOf  hfl hz hB hW (by first | exact hz _ _ | assumption | exact zr_b _ | exact zcmp_r _ _ | exact hzD _ _ | exact zr3 (tS_b hW _) | exact zr3 (lsc_b hW _ _) | exact zr3 (sc_b hW _ _) | exact rkP_zr hW _ | exact scA_zr hW _ _ | exact zr3 (cW_b hW) | exact zr3 (wS_b hW) | (unfold zr at *; omega)) (by first | assumption | omega)) dL_isClue_194 (by decide) rfl cw_RL_109 okX9_kindOf rfl (Nat.le_of_ble_eq_true rfl) ⟨Nat.le_of_ble_eq_true rfl, Nat.le_of_ble_eq_true rfl, Nat.le_of_ble_eq_true rfl, Nat.le_of_ble_eq_true rfl⟩ ?_
                                  refine zy_top (b := D 14 k) rfl ?_
                                  refine zx_iconst dL_isClue_197 ?_
                                  refine zx_icmp_ne (tgt := 213) (by first | exact hz _ _ | assumption | exact zr_b _ | exact zcmp_r _ _ | exact hzD _ _ | exact zr3 (tS_b hW _) | exact zr3 (lsc_b hW _ _) | exact zr3 (sc_b hW _ _) | exact rkP_zr hW _ | exact scA_zr hW _ _ | exact zr3 (cW_b hW) | exact zr3 (wS_b hW) | (unfold zr at *; omega)) (by first | exact hz _ _ | assumption | exact zr_b _ | exact zcmp_r _ _ | exact hzD _ _ | exact zr3 (tS_b hW _) | exact zr3 (lsc_b hW _ _) | exact zr3 (sc_b hW _ _) | exact rkP_zr hW _ | exact scA_zr hW _ _ | exact zr3 (cW_b hW) | exact zr3 (wS_b hW) | (unfold zr at *; omega)) dL_isClue_198 (by decide) (fun h198 => ?_) (fun h198 => ?_)
                                  · refine zx_iloadN dL_isClue_213 rfl rfl ?_
                                    refine zx_aloadN dL_isClue_214 rfl rfl ?_
                                    refine zy_cv [] (fX9_clueCount  hfl hz hB hW) dL_isClue_215 (by decide) rfl cw_RL_98 okX9_clueCount rfl (Nat.le_of_ble_eq_true rfl) ⟨Nat.le_of_ble_eq_true rfl, Nat.le_of_ble_eq_true rfl, Nat.le_of_ble_eq_true rfl, Nat.le_of_ble_eq_true rfl⟩ ?_
                                    refine zx_irem (by omega) (by omega) (by omega) (by omega) dL_isClue_218 ?_
                                    refine zy_istore [zf 9 0, zi ((k : Nat) : Int), zi z, zi acc, zi 1, zi ((c : Nat) : Int), zi y, zi (z % (D 12 0))] dL_isClue_219 (Nat.le_of_ble_eq_true rfl) (Nat.le_of_ble_eq_true rfl) rfl rfl ?_
                                    refine zx_aloadN dL_isClue_221 rfl rfl ?_
                                    refine zx_iload dL_isClue_222 rfl ?_
                                    refine zx_iload dL_isClue_224 rfl ?_
                                    refine zx_iload dL_isClue_226 rfl ?_
                                    refine zy_cv [zi ((c : Nat) : Int), zi y, zi (z % (D 12 0))] (fX9_explains  hfl hz hB hW (by first | exact hz _ _ | assumption | exact zr_b _ | exact zcmp_r _ _ | exact hzD _ _ | exact zr3 (tS_b hW _) | exact zr3 (lsc_b hW _ _) | exact zr3 (sc_b hW _ _) | exact rkP_zr hW _ | exact scA_zr hW _ _ | exact zr3 (cW_b hW) | exact zr3 (wS_b hW) | (unfold zr at *; omega)) (by first | exact hz _ _ | assumption | exact zr_b _ | exact zcmp_r _ _ | exact hzD _ _ | exact zr3 (tS_b hW _) | exact zr3 (lsc_b hW _ _) | exact zr3 (sc_b hW _ _) | exact rkP_zr hW _ | exact scA_zr hW _ _ | exact zr3 (cW_b hW) | exact zr3 (wS_b hW) | (unfold zr at *; omega)) (by first | exact hz _ _ | assumption | exact zr_b _ | exact zcmp_r _ _ | exact hzD _ _ | exact zr3 (tS_b hW _) | exact zr3 (lsc_b hW _ _) | exact zr3 (sc_b hW _ _) | exact rkP_zr hW _ | exact scA_zr hW _ _ | exact zr3 (cW_b hW) | exact zr3 (wS_b hW) | (unfold zr at *; omega)) (by first | assumption | omega) (by first | assumption | omega) (by first | assumption | omega)) dL_isClue_228 (by decide) rfl cw_RL_140 okX9_explains rfl (Nat.le_of_ble_eq_true rfl) ⟨Nat.le_of_ble_eq_true rfl, Nat.le_of_ble_eq_true rfl, Nat.le_of_ble_eq_true rfl, Nat.le_of_ble_eq_true rfl⟩ ?_
                                    refine zy_top (b := zb (works D c y ∧ cFit D c y (z % (D 12 0)).toNat)) rfl ?_
                                    refine zx_if_eq (tgt := 246) (by first | exact hz _ _ | assumption | exact zr_b _ | exact zcmp_r _ _ | exact hzD _ _ | exact zr3 (tS_b hW _) | exact zr3 (lsc_b hW _ _) | exact zr3 (sc_b hW _ _) | exact rkP_zr hW _ | exact scA_zr hW _ _ | exact zr3 (cW_b hW) | exact zr3 (wS_b hW) | (unfold zr at *; omega)) dL_isClue_231 (by decide) (fun h231 => ?_) (fun h231 => ?_)
                                    · have h231 := zb_0.mp h231
                                      refine zy_iinc (b := y + 1) [zf 9 0, zi ((k : Nat) : Int), zi z, zi acc, zi 1, zi ((c : Nat) : Int), zi (y + 1), zi (z % (D 12 0))] dL_isClue_246 rfl (by omega) (Nat.le_of_ble_eq_true rfl) rfl rfl ?_
                                      refine zx_goto (tgt := 87) dL_isClue_249 (by decide) ?_
                                      refine zy_drop 7 [zf 9 0, zi ((k : Nat) : Int), zi z, zi acc, zi 1, zi ((c : Nat) : Int), zi (y + 1), zu] rfl ?_
                                      exact ih87 (y + 1) 1 (by omega) (by
                                             first
                                             | exact Or.inr rfl
                                             | (rcases hg with ⟨g0, g1, g2⟩ | g0
                                                · refine Or.inl ⟨g0, g1, fun v v1 v2 => ?_⟩
                                                  by_cases e : v = y
                                                  · rw [e]; exact h104
                                                  · exact g2 v v1 (by omega)
                                                · exact Or.inr g0)) (by omega)
                                    · have h231 := zb_n.mp h231
                                      refine zx_aloadN dL_isClue_234 rfl rfl ?_
                                      refine zx_iloadN dL_isClue_235 rfl rfl ?_
                                      refine zx_iload dL_isClue_236 rfl ?_
                                      refine zy_cv [zi ((k : Nat) : Int), zi (z % (D 12 0))] (fX9_contradict  hfl hz hB hW (by first | exact hz _ _ | assumption | exact zr_b _ | exact zcmp_r _ _ | exact hzD _ _ | exact zr3 (tS_b hW _) | exact zr3 (lsc_b hW _ _) | exact zr3 (sc_b hW _ _) | exact rkP_zr hW _ | exact scA_zr hW _ _ | exact zr3 (cW_b hW) | exact zr3 (wS_b hW) | (unfold zr at *; omega)) (by first | exact hz _ _ | assumption | exact zr_b _ | exact zcmp_r _ _ | exact hzD _ _ | exact zr3 (tS_b hW _) | exact zr3 (lsc_b hW _ _) | exact zr3 (sc_b hW _ _) | exact rkP_zr hW _ | exact scA_zr hW _ _ | exact zr3 (cW_b hW) | exact zr3 (wS_b hW) | (unfold zr at *; omega)) (by first | assumption | omega) (by first | assumption | omega)) dL_isClue_238 (by decide) rfl cw_RL_162 okX9_contradict rfl (Nat.le_of_ble_eq_true rfl) ⟨Nat.le_of_ble_eq_true rfl, Nat.le_of_ble_eq_true rfl, Nat.le_of_ble_eq_true rfl, Nat.le_of_ble_eq_true rfl⟩ ?_
                                      refine zy_top (b := zb (¬ ((k : Nat) : Int) = (z % (D 12 0)) ∧ ¬ tog D k (z % (D 12 0)).toNat)) rfl ?_
                                      refine zx_if_eq (tgt := 246) (by first | exact hz _ _ | assumption | exact zr_b _ | exact zcmp_r _ _ | exact hzD _ _ | exact zr3 (tS_b hW _) | exact zr3 (lsc_b hW _ _) | exact zr3 (sc_b hW _ _) | exact rkP_zr hW _ | exact scA_zr hW _ _ | exact zr3 (cW_b hW) | exact zr3 (wS_b hW) | (unfold zr at *; omega)) dL_isClue_241 (by decide) (fun h241 => ?_) (fun h241 => ?_)
                                      · have h241 := zb_0.mp h241
                                        refine zy_iinc (b := y + 1) [zf 9 0, zi ((k : Nat) : Int), zi z, zi acc, zi 1, zi ((c : Nat) : Int), zi (y + 1), zi (z % (D 12 0))] dL_isClue_246 rfl (by omega) (Nat.le_of_ble_eq_true rfl) rfl rfl ?_
                                        refine zx_goto (tgt := 87) dL_isClue_249 (by decide) ?_
                                        refine zy_drop 7 [zf 9 0, zi ((k : Nat) : Int), zi z, zi acc, zi 1, zi ((c : Nat) : Int), zi (y + 1), zu] rfl ?_
                                        exact ih87 (y + 1) 1 (by omega) (by
                                               first
                                               | exact Or.inr rfl
                                               | (rcases hg with ⟨g0, g1, g2⟩ | g0
                                                  · refine Or.inl ⟨g0, g1, fun v v1 v2 => ?_⟩
                                                    by_cases e : v = y
                                                    · rw [e]; exact h104
                                                    · exact g2 v v1 (by omega)
                                                  · exact Or.inr g0)) (by omega)
                                      · have h241 := zb_n.mp h241
                                        exfalso; exact h241.2 (tog_of (by omega) h104.1 h104.2 h231.2)
                                  · refine zx_iload dL_isClue_201 rfl ?_
                                    refine zx_aloadN dL_isClue_203 rfl rfl ?_
                                    refine zx_iloadN dL_isClue_204 rfl rfl ?_
                                    refine zy_cv [zi ((k : Nat) : Int)] (fX9_valueOf  hfl hz hB hW (by first | exact hz _ _ | assumption | exact zr_b _ | exact zcmp_r _ _ | exact hzD _ _ | exact zr3 (tS_b hW _) | exact zr3 (lsc_b hW _ _) | exact zr3 (sc_b hW _ _) | exact rkP_zr hW _ | exact scA_zr hW _ _ | exact zr3 (cW_b hW) | exact zr3 (wS_b hW) | (unfold zr at *; omega)) (by first | assumption | omega)) dL_isClue_205 (by decide) rfl cw_RL_114 okX9_valueOf rfl (Nat.le_of_ble_eq_true rfl) ⟨Nat.le_of_ble_eq_true rfl, Nat.le_of_ble_eq_true rfl, Nat.le_of_ble_eq_true rfl, Nat.le_of_ble_eq_true rfl⟩ ?_
                                    refine zy_top (b := D 15 k) rfl ?_
                                    refine zx_icmp_eq (tgt := 213) (by first | exact hz _ _ | assumption | exact zr_b _ | exact zcmp_r _ _ | exact hzD _ _ | exact zr3 (tS_b hW _) | exact zr3 (lsc_b hW _ _) | exact zr3 (sc_b hW _ _) | exact rkP_zr hW _ | exact scA_zr hW _ _ | exact zr3 (cW_b hW) | exact zr3 (wS_b hW) | (unfold zr at *; omega)) (by first | exact hz _ _ | assumption | exact zr_b _ | exact zcmp_r _ _ | exact hzD _ _ | exact zr3 (tS_b hW _) | exact zr3 (lsc_b hW _ _) | exact zr3 (sc_b hW _ _) | exact rkP_zr hW _ | exact scA_zr hW _ _ | exact zr3 (cW_b hW) | exact zr3 (wS_b hW) | (unfold zr at *; omega)) dL_isClue_208 (by decide) (fun h208 => ?_) (fun h208 => ?_)
                                    · refine zx_iloadN dL_isClue_213 rfl rfl ?_
                                      refine zx_aloadN dL_isClue_214 rfl rfl ?_
                                      refine zy_cv [] (fX9_clueCount  hfl hz hB hW) dL_isClue_215 (by decide) rfl cw_RL_98 okX9_clueCount rfl (Nat.le_of_ble_eq_true rfl) ⟨Nat.le_of_ble_eq_true rfl, Nat.le_of_ble_eq_true rfl, Nat.le_of_ble_eq_true rfl, Nat.le_of_ble_eq_true rfl⟩ ?_
                                      refine zx_irem (by omega) (by omega) (by omega) (by omega) dL_isClue_218 ?_
                                      refine zy_istore [zf 9 0, zi ((k : Nat) : Int), zi z, zi acc, zi 1, zi ((c : Nat) : Int), zi y, zi (z % (D 12 0))] dL_isClue_219 (Nat.le_of_ble_eq_true rfl) (Nat.le_of_ble_eq_true rfl) rfl rfl ?_
                                      refine zx_aloadN dL_isClue_221 rfl rfl ?_
                                      refine zx_iload dL_isClue_222 rfl ?_
                                      refine zx_iload dL_isClue_224 rfl ?_
                                      refine zx_iload dL_isClue_226 rfl ?_
                                      refine zy_cv [zi ((c : Nat) : Int), zi y, zi (z % (D 12 0))] (fX9_explains  hfl hz hB hW (by first | exact hz _ _ | assumption | exact zr_b _ | exact zcmp_r _ _ | exact hzD _ _ | exact zr3 (tS_b hW _) | exact zr3 (lsc_b hW _ _) | exact zr3 (sc_b hW _ _) | exact rkP_zr hW _ | exact scA_zr hW _ _ | exact zr3 (cW_b hW) | exact zr3 (wS_b hW) | (unfold zr at *; omega)) (by first | exact hz _ _ | assumption | exact zr_b _ | exact zcmp_r _ _ | exact hzD _ _ | exact zr3 (tS_b hW _) | exact zr3 (lsc_b hW _ _) | exact zr3 (sc_b hW _ _) | exact rkP_zr hW _ | exact scA_zr hW _ _ | exact zr3 (cW_b hW) | exact zr3 (wS_b hW) | (unfold zr at *; omega)) (by first | exact hz _ _ | assumption | exact zr_b _ | exact zcmp_r _ _ | exact hzD _ _ | exact zr3 (tS_b hW _) | exact zr3 (lsc_b hW _ _) | exact zr3 (sc_b hW _ _) | exact rkP_zr hW _ | exact scA_zr hW _ _ | exact zr3 (cW_b hW) | exact zr3 (wS_b hW) | (unfold zr at *; omega)) (by first | assumption | omega) (by first | assumption | omega) (by first | assumption | omega)) dL_isClue_228 (by decide) rfl cw_RL_140 okX9_explains rfl (Nat.le_of_ble_eq_true rfl) ⟨Nat.le_of_ble_eq_true rfl, Nat.le_of_ble_eq_true rfl, Nat.le_of_ble_eq_true rfl, Nat.le_of_ble_eq_true rfl⟩ ?_
                                      refine zy_top (b := zb (works D c y ∧ cFit D c y (z % (D 12 0)).toNat)) rfl ?_
                                      refine zx_if_eq (tgt := 246) (by first | exact hz _ _ | assumption | exact zr_b _ | exact zcmp_r _ _ | exact hzD _ _ | exact zr3 (tS_b hW _) | exact zr3 (lsc_b hW _ _) | exact zr3 (sc_b hW _ _) | exact rkP_zr hW _ | exact scA_zr hW _ _ | exact zr3 (cW_b hW) | exact zr3 (wS_b hW) | (unfold zr at *; omega)) dL_isClue_231 (by decide) (fun h231 => ?_) (fun h231 => ?_)
                                      · have h231 := zb_0.mp h231
                                        refine zy_iinc (b := y + 1) [zf 9 0, zi ((k : Nat) : Int), zi z, zi acc, zi 1, zi ((c : Nat) : Int), zi (y + 1), zi (z % (D 12 0))] dL_isClue_246 rfl (by omega) (Nat.le_of_ble_eq_true rfl) rfl rfl ?_
                                        refine zx_goto (tgt := 87) dL_isClue_249 (by decide) ?_
                                        refine zy_drop 7 [zf 9 0, zi ((k : Nat) : Int), zi z, zi acc, zi 1, zi ((c : Nat) : Int), zi (y + 1), zu] rfl ?_
                                        exact ih87 (y + 1) 1 (by omega) (by
                                               first
                                               | exact Or.inr rfl
                                               | (rcases hg with ⟨g0, g1, g2⟩ | g0
                                                  · refine Or.inl ⟨g0, g1, fun v v1 v2 => ?_⟩
                                                    by_cases e : v = y
                                                    · rw [e]; exact h104
                                                    · exact g2 v v1 (by omega)
                                                  · exact Or.inr g0)) (by omega)
                                      · have h231 := zb_n.mp h231
                                        refine zx_aloadN dL_isClue_234 rfl rfl ?_
                                        refine zx_iloadN dL_isClue_235 rfl rfl ?_
                                        refine zx_iload dL_isClue_236 rfl ?_
                                        refine zy_cv [zi ((k : Nat) : Int), zi (z % (D 12 0))] (fX9_contradict  hfl hz hB hW (by first | exact hz _ _ | assumption | exact zr_b _ | exact zcmp_r _ _ | exact hzD _ _ | exact zr3 (tS_b hW _) | exact zr3 (lsc_b hW _ _) | exact zr3 (sc_b hW _ _) | exact rkP_zr hW _ | exact scA_zr hW _ _ | exact zr3 (cW_b hW) | exact zr3 (wS_b hW) | (unfold zr at *; omega)) (by first | exact hz _ _ | assumption | exact zr_b _ | exact zcmp_r _ _ | exact hzD _ _ | exact zr3 (tS_b hW _) | exact zr3 (lsc_b hW _ _) | exact zr3 (sc_b hW _ _) | exact rkP_zr hW _ | exact scA_zr hW _ _ | exact zr3 (cW_b hW) | exact zr3 (wS_b hW) | (unfold zr at *; omega)) (by first | assumption | omega) (by first | assumption | omega)) dL_isClue_238 (by decide) rfl cw_RL_162 okX9_contradict rfl (Nat.le_of_ble_eq_true rfl) ⟨Nat.le_of_ble_eq_true rfl, Nat.le_of_ble_eq_true rfl, Nat.le_of_ble_eq_true rfl, Nat.le_of_ble_eq_true rfl⟩ ?_
                                        refine zy_top (b := zb (¬ ((k : Nat) : Int) = (z % (D 12 0)) ∧ ¬ tog D k (z % (D 12 0)).toNat)) rfl ?_
                                        refine zx_if_eq (tgt := 246) (by first | exact hz _ _ | assumption | exact zr_b _ | exact zcmp_r _ _ | exact hzD _ _ | exact zr3 (tS_b hW _) | exact zr3 (lsc_b hW _ _) | exact zr3 (sc_b hW _ _) | exact rkP_zr hW _ | exact scA_zr hW _ _ | exact zr3 (cW_b hW) | exact zr3 (wS_b hW) | (unfold zr at *; omega)) dL_isClue_241 (by decide) (fun h241 => ?_) (fun h241 => ?_)
                                        · have h241 := zb_0.mp h241
                                          refine zy_iinc (b := y + 1) [zf 9 0, zi ((k : Nat) : Int), zi z, zi acc, zi 1, zi ((c : Nat) : Int), zi (y + 1), zi (z % (D 12 0))] dL_isClue_246 rfl (by omega) (Nat.le_of_ble_eq_true rfl) rfl rfl ?_
                                          refine zx_goto (tgt := 87) dL_isClue_249 (by decide) ?_
                                          refine zy_drop 7 [zf 9 0, zi ((k : Nat) : Int), zi z, zi acc, zi 1, zi ((c : Nat) : Int), zi (y + 1), zu] rfl ?_
                                          exact ih87 (y + 1) 1 (by omega) (by
                                                 first
                                                 | exact Or.inr rfl
                                                 | (rcases hg with ⟨g0, g1, g2⟩ | g0
                                                    · refine Or.inl ⟨g0, g1, fun v v1 v2 => ?_⟩
                                                      by_cases e : v = y
                                                      · rw [e]; exact h104
                                                      · exact g2 v v1 (by omega)
                                                    · exact Or.inr g0)) (by omega)
                                        · have h241 := zb_n.mp h241
                                          exfalso; exact h241.2 (tog_of (by omega) h104.1 h104.2 h231.2)
                                    · exfalso
                                      have hcf := h104.2
                                      unfold cFit pFit eYr lYr at hcf
                                      first
                                      | exact h121 h104.1
                                      | exact h143 (hcf.1.1 h129)
                                      | exact h166 (hcf.1.2.1 h152)
                                      | exact h189 (hcf.1.2.2 h175)
                                      | (have e2 := hcf.2
                                         rw [if_pos h198, if_pos h198] at e2
                                         omega)
                                · refine zx_aloadN dL_isClue_178 rfl rfl ?_
                                  refine zx_iload dL_isClue_179 rfl ?_
                                  refine zy_cv [zi ((c : Nat) : Int)] (fX9_cityOf  hfl hz hB hW (by first | exact hz _ _ | assumption | exact zr_b _ | exact zcmp_r _ _ | exact hzD _ _ | exact zr3 (tS_b hW _) | exact zr3 (lsc_b hW _ _) | exact zr3 (sc_b hW _ _) | exact rkP_zr hW _ | exact scA_zr hW _ _ | exact zr3 (cW_b hW) | exact zr3 (wS_b hW) | (unfold zr at *; omega)) (by first | assumption | omega)) dL_isClue_181 (by decide) rfl cw_RL_168 okX9_cityOf rfl (Nat.le_of_ble_eq_true rfl) ⟨Nat.le_of_ble_eq_true rfl, Nat.le_of_ble_eq_true rfl, Nat.le_of_ble_eq_true rfl, Nat.le_of_ble_eq_true rfl⟩ ?_
                                  refine zy_top (b := D 3 c) rfl ?_
                                  refine zx_aloadN dL_isClue_184 rfl rfl ?_
                                  refine zx_iloadN dL_isClue_185 rfl rfl ?_
                                  refine zy_cv [zi ((k : Nat) : Int)] (fX9_valueOf  hfl hz hB hW (by first | exact hz _ _ | assumption | exact zr_b _ | exact zcmp_r _ _ | exact hzD _ _ | exact zr3 (tS_b hW _) | exact zr3 (lsc_b hW _ _) | exact zr3 (sc_b hW _ _) | exact rkP_zr hW _ | exact scA_zr hW _ _ | exact zr3 (cW_b hW) | exact zr3 (wS_b hW) | (unfold zr at *; omega)) (by first | assumption | omega)) dL_isClue_186 (by decide) rfl cw_RL_114 okX9_valueOf rfl (Nat.le_of_ble_eq_true rfl) ⟨Nat.le_of_ble_eq_true rfl, Nat.le_of_ble_eq_true rfl, Nat.le_of_ble_eq_true rfl, Nat.le_of_ble_eq_true rfl⟩ ?_
                                  refine zy_top (b := D 15 k) rfl ?_
                                  refine zx_icmp_ne (tgt := 211) (by first | exact hz _ _ | assumption | exact zr_b _ | exact zcmp_r _ _ | exact hzD _ _ | exact zr3 (tS_b hW _) | exact zr3 (lsc_b hW _ _) | exact zr3 (sc_b hW _ _) | exact rkP_zr hW _ | exact scA_zr hW _ _ | exact zr3 (cW_b hW) | exact zr3 (wS_b hW) | (unfold zr at *; omega)) (by first | exact hz _ _ | assumption | exact zr_b _ | exact zcmp_r _ _ | exact hzD _ _ | exact zr3 (tS_b hW _) | exact zr3 (lsc_b hW _ _) | exact zr3 (sc_b hW _ _) | exact rkP_zr hW _ | exact scA_zr hW _ _ | exact zr3 (cW_b hW) | exact zr3 (wS_b hW) | (unfold zr at *; omega)) dL_isClue_189 (by decide) (fun h189 => ?_) (fun h189 => ?_)
                                  · exfalso
                                    have hcf := h104.2
                                    unfold cFit pFit eYr lYr at hcf
                                    first
                                    | exact h121 h104.1
                                    | exact h143 (hcf.1.1 h129)
                                    | exact h166 (hcf.1.2.1 h152)
                                    | exact h189 (hcf.1.2.2 h175)
                                    | (have e2 := hcf.2
                                       rw [if_pos h198, if_pos h198] at e2
                                       omega)
                                  · refine zx_aloadN dL_isClue_192 rfl rfl ?_
                                    refine zx_iloadN dL_isClue_193 rfl rfl ?_
                                    refine zy_cv [zi ((k : Nat) : Int)] (fX9_kindOf  hfl hz hB hW (by first | exact hz _ _ | assumption | exact zr_b _ | exact zcmp_r _ _ | exact hzD _ _ | exact zr3 (tS_b hW _) | exact zr3 (lsc_b hW _ _) | exact zr3 (sc_b hW _ _) | exact rkP_zr hW _ | exact scA_zr hW _ _ | exact zr3 (cW_b hW) | exact zr3 (wS_b hW) | (unfold zr at *; omega)) (by first | assumption | omega)) dL_isClue_194 (by decide) rfl cw_RL_109 okX9_kindOf rfl (Nat.le_of_ble_eq_true rfl) ⟨Nat.le_of_ble_eq_true rfl, Nat.le_of_ble_eq_true rfl, Nat.le_of_ble_eq_true rfl, Nat.le_of_ble_eq_true rfl⟩ ?_
                                    refine zy_top (b := D 14 k) rfl ?_
                                    refine zx_iconst dL_isClue_197 ?_
                                    refine zx_icmp_ne (tgt := 213) (by first | exact hz _ _ | assumption | exact zr_b _ | exact zcmp_r _ _ | exact hzD _ _ | exact zr3 (tS_b hW _) | exact zr3 (lsc_b hW _ _) | exact zr3 (sc_b hW _ _) | exact rkP_zr hW _ | exact scA_zr hW _ _ | exact zr3 (cW_b hW) | exact zr3 (wS_b hW) | (unfold zr at *; omega)) (by first | exact hz _ _ | assumption | exact zr_b _ | exact zcmp_r _ _ | exact hzD _ _ | exact zr3 (tS_b hW _) | exact zr3 (lsc_b hW _ _) | exact zr3 (sc_b hW _ _) | exact rkP_zr hW _ | exact scA_zr hW _ _ | exact zr3 (cW_b hW) | exact zr3 (wS_b hW) | (unfold zr at *; omega)) dL_isClue_198 (by decide) (fun h198 => ?_) (fun h198 => ?_)
                                    · refine zx_iloadN dL_isClue_213 rfl rfl ?_
                                      refine zx_aloadN dL_isClue_214 rfl rfl ?_
                                      refine zy_cv [] (fX9_clueCount  hfl hz hB hW) dL_isClue_215 (by decide) rfl cw_RL_98 okX9_clueCount rfl (Nat.le_of_ble_eq_true rfl) ⟨Nat.le_of_ble_eq_true rfl, Nat.le_of_ble_eq_true rfl, Nat.le_of_ble_eq_true rfl, Nat.le_of_ble_eq_true rfl⟩ ?_
                                      refine zx_irem (by omega) (by omega) (by omega) (by omega) dL_isClue_218 ?_
                                      refine zy_istore [zf 9 0, zi ((k : Nat) : Int), zi z, zi acc, zi 1, zi ((c : Nat) : Int), zi y, zi (z % (D 12 0))] dL_isClue_219 (Nat.le_of_ble_eq_true rfl) (Nat.le_of_ble_eq_true rfl) rfl rfl ?_
                                      refine zx_aloadN dL_isClue_221 rfl rfl ?_
                                      refine zx_iload dL_isClue_222 rfl ?_
                                      refine zx_iload dL_isClue_224 rfl ?_
                                      refine zx_iload dL_isClue_226 rfl ?_
                                      refine zy_cv [zi ((c : Nat) : Int), zi y, zi (z % (D 12 0))] (fX9_explains  hfl hz hB hW (by first | exact hz _ _ | assumption | exact zr_b _ | exact zcmp_r _ _ | exact hzD _ _ | exact zr3 (tS_b hW _) | exact zr3 (lsc_b hW _ _) | exact zr3 (sc_b hW _ _) | exact rkP_zr hW _ | exact scA_zr hW _ _ | exact zr3 (cW_b hW) | exact zr3 (wS_b hW) | (unfold zr at *; omega)) (by first | exact hz _ _ | assumption | exact zr_b _ | exact zcmp_r _ _ | exact hzD _ _ | exact zr3 (tS_b hW _) | exact zr3 (lsc_b hW _ _) | exact zr3 (sc_b hW _ _) | exact rkP_zr hW _ | exact scA_zr hW _ _ | exact zr3 (cW_b hW) | exact zr3 (wS_b hW) | (unfold zr at *; omega)) (by first | exact hz _ _ | assumption | exact zr_b _ | exact zcmp_r _ _ | exact hzD _ _ | exact zr3 (tS_b hW _) | exact zr3 (lsc_b hW _ _) | exact zr3 (sc_b hW _ _) | exact rkP_zr hW _ | exact scA_zr hW _ _ | exact zr3 (cW_b hW) | exact zr3 (wS_b hW) | (unfold zr at *; omega)) (by first | assumption | omega) (by first | assumption | omega) (by first | assumption | omega)) dL_isClue_228 (by decide) rfl cw_RL_140 okX9_explains rfl (Nat.le_of_ble_eq_true rfl) ⟨Nat.le_of_ble_eq_true rfl, Nat.le_of_ble_eq_true rfl, Nat.le_of_ble_eq_true rfl, Nat.le_of_ble_eq_true rfl⟩ ?_
                                      refine zy_top (b := zb (works D c y ∧ cFit D c y (z % (D 12 0)).toNat)) rfl ?_
                                      refine zx_if_eq (tgt := 246) (by first | exact hz _ _ | assumption | exact zr_b _ | exact zcmp_r _ _ | exact hzD _ _ | exact zr3 (tS_b hW _) | exact zr3 (lsc_b hW _ _) | exact zr3 (sc_b hW _ _) | exact rkP_zr hW _ | exact scA_zr hW _ _ | exact zr3 (cW_b hW) | exact zr3 (wS_b hW) | (unfold zr at *; omega)) dL_isClue_231 (by decide) (fun h231 => ?_) (fun h231 => ?_)
                                      · have h231 := zb_0.mp h231
                                        refine zy_iinc (b := y + 1) [zf 9 0, zi ((k : Nat) : Int), zi z, zi acc, zi 1, zi ((c : Nat) : Int), zi (y + 1), zi (z % (D 12 0))] dL_isClue_246 rfl (by omega) (Nat.le_of_ble_eq_true rfl) rfl rfl ?_
                                        refine zx_goto (tgt := 87) dL_isClue_249 (by decide) ?_
                                        refine zy_drop 7 [zf 9 0, zi ((k : Nat) : Int), zi z, zi acc, zi 1, zi ((c : Nat) : Int), zi (y + 1), zu] rfl ?_
                                        exact ih87 (y + 1) 1 (by omega) (by
                                               first
                                               | exact Or.inr rfl
                                               | (rcases hg with ⟨g0, g1, g2⟩ | g0
                                                  · refine Or.inl ⟨g0, g1, fun v v1 v2 => ?_⟩
                                                    by_cases e : v = y
                                                    · rw [e]; exact h104
                                                    · exact g2 v v1 (by omega)
                                                  · exact Or.inr g0)) (by omega)
                                      · have h231 := zb_n.mp h231
                                        refine zx_aloadN dL_isClue_234 rfl rfl ?_
                                        refine zx_iloadN dL_isClue_235 rfl rfl ?_
                                        refine zx_iload dL_isClue_236 rfl ?_
                                        refine zy_cv [zi ((k : Nat) : Int), zi (z % (D 12 0))] (fX9_contradict  hfl hz hB hW (by first | exact hz _ _ | assumption | exact zr_b _ | exact zcmp_r _ _ | exact hzD _ _ | exact zr3 (tS_b hW _) | exact zr3 (lsc_b hW _ _) | exact zr3 (sc_b hW _ _) | exact rkP_zr hW _ | exact scA_zr hW _ _ | exact zr3 (cW_b hW) | exact zr3 (wS_b hW) | (unfold zr at *; omega)) (by first | exact hz _ _ | assumption | exact zr_b _ | exact zcmp_r _ _ | exact hzD _ _ | exact zr3 (tS_b hW _) | exact zr3 (lsc_b hW _ _) | exact zr3 (sc_b hW _ _) | exact rkP_zr hW _ | exact scA_zr hW _ _ | exact zr3 (cW_b hW) | exact zr3 (wS_b hW) | (unfold zr at *; omega)) (by first | assumption | omega) (by first | assumption | omega)) dL_isClue_238 (by decide) rfl cw_RL_162 okX9_contradict rfl (Nat.le_of_ble_eq_true rfl) ⟨Nat.le_of_ble_eq_true rfl, Nat.le_of_ble_eq_true rfl, Nat.le_of_ble_eq_true rfl, Nat.le_of_ble_eq_true rfl⟩ ?_
                                        refine zy_top (b := zb (¬ ((k : Nat) : Int) = (z % (D 12 0)) ∧ ¬ tog D k (z % (D 12 0)).toNat)) rfl ?_
                                        refine zx_if_eq (tgt := 246) (by first | exact hz _ _ | assumption | exact zr_b _ | exact zcmp_r _ _ | exact hzD _ _ | exact zr3 (tS_b hW _) | exact zr3 (lsc_b hW _ _) | exact zr3 (sc_b hW _ _) | exact rkP_zr hW _ | exact scA_zr hW _ _ | exact zr3 (cW_b hW) | exact zr3 (wS_b hW) | (unfold zr at *; omega)) dL_isClue_241 (by decide) (fun h241 => ?_) (fun h241 => ?_)
                                        · have h241 := zb_0.mp h241
                                          refine zy_iinc (b := y + 1) [zf 9 0, zi ((k : Nat) : Int), zi z, zi acc, zi 1, zi ((c : Nat) : Int), zi (y + 1), zi (z % (D 12 0))] dL_isClue_246 rfl (by omega) (Nat.le_of_ble_eq_true rfl) rfl rfl ?_
                                          refine zx_goto (tgt := 87) dL_isClue_249 (by decide) ?_
                                          refine zy_drop 7 [zf 9 0, zi ((k : Nat) : Int), zi z, zi acc, zi 1, zi ((c : Nat) : Int), zi (y + 1), zu] rfl ?_
                                          exact ih87 (y + 1) 1 (by omega) (by
                                                 first
                                                 | exact Or.inr rfl
                                                 | (rcases hg with ⟨g0, g1, g2⟩ | g0
                                                    · refine Or.inl ⟨g0, g1, fun v v1 v2 => ?_⟩
                                                      by_cases e : v = y
                                                      · rw [e]; exact h104
                                                      · exact g2 v v1 (by omega)
                                                    · exact Or.inr g0)) (by omega)
                                        · have h241 := zb_n.mp h241
                                          exfalso; exact h241.2 (tog_of (by omega) h104.1 h104.2 h231.2)
                                    · refine zx_iload dL_isClue_201 rfl ?_
                                      refine zx_aloadN dL_isClue_203 rfl rfl ?_
                                      refine zx_iloadN dL_isClue_204 rfl rfl ?_
                                      refine zy_cv [zi ((k : Nat) : Int)] (fX9_valueOf  hfl hz hB hW (by first | exact hz _ _ | assumption | exact zr_b _ | exact zcmp_r _ _ | exact hzD _ _ | exact zr3 (tS_b hW _) | exact zr3 (lsc_b hW _ _) | exact zr3 (sc_b hW _ _) | exact rkP_zr hW _ | exact scA_zr hW _ _ | exact zr3 (cW_b hW) | exact zr3 (wS_b hW) | (unfold zr at *; omega)) (by first | assumption | omega)) dL_isClue_205 (by decide) rfl cw_RL_114 okX9_valueOf rfl (Nat.le_of_ble_eq_true rfl) ⟨Nat.le_of_ble_eq_true rfl, Nat.le_of_ble_eq_true rfl, Nat.le_of_ble_eq_true rfl, Nat.le_of_ble_eq_true rfl⟩ ?_
                                      refine zy_top (b := D 15 k) rfl ?_
                                      refine zx_icmp_eq (tgt := 213) (by first | exact hz _ _ | assumption | exact zr_b _ | exact zcmp_r _ _ | exact hzD _ _ | exact zr3 (tS_b hW _) | exact zr3 (lsc_b hW _ _) | exact zr3 (sc_b hW _ _) | exact rkP_zr hW _ | exact scA_zr hW _ _ | exact zr3 (cW_b hW) | exact zr3 (wS_b hW) | (unfold zr at *; omega)) (by first | exact hz _ _ | assumption | exact zr_b _ | exact zcmp_r _ _ | exact hzD _ _ | exact zr3 (tS_b hW _) | exact zr3 (lsc_b hW _ _) | exact zr3 (sc_b hW _ _) | exact rkP_zr hW _ | exact scA_zr hW _ _ | exact zr3 (cW_b hW) | exact zr3 (wS_b hW) | (unfold zr at *; omega)) dL_isClue_208 (by decide) (fun h208 => ?_) (fun h208 => ?_)
                                      · refine zx_iloadN dL_isClue_213 rfl rfl ?_
                                        refine zx_aloadN dL_isClue_214 rfl rfl ?_
                                        refine zy_cv [] (fX9_clueCount  hfl hz hB hW) dL_isClue_215 (by decide) rfl cw_RL_98 okX9_clueCount rfl (Nat.le_of_ble_eq_true rfl) ⟨Nat.le_of_ble_eq_true rfl, Nat.le_of_ble_eq_true rfl, Nat.le_of_ble_eq_true rfl, Nat.le_of_ble_eq_true rfl⟩ ?_
                                        refine zx_irem (by omega) (by omega) (by omega) (by omega) dL_isClue_218 ?_
                                        refine zy_istore [zf 9 0, zi ((k : Nat) : Int), zi z, zi acc, zi 1, zi ((c : Nat) : Int), zi y, zi (z % (D 12 0))] dL_isClue_219 (Nat.le_of_ble_eq_true rfl) (Nat.le_of_ble_eq_true rfl) rfl rfl ?_
                                        refine zx_aloadN dL_isClue_221 rfl rfl ?_
                                        refine zx_iload dL_isClue_222 rfl ?_
                                        refine zx_iload dL_isClue_224 rfl ?_
                                        refine zx_iload dL_isClue_226 rfl ?_
                                        refine zy_cv [zi ((c : Nat) : Int), zi y, zi (z % (D 12 0))] (fX9_explains  hfl hz hB hW (by first | exact hz _ _ | assumption | exact zr_b _ | exact zcmp_r _ _ | exact hzD _ _ | exact zr3 (tS_b hW _) | exact zr3 (lsc_b hW _ _) | exact zr3 (sc_b hW _ _) | exact rkP_zr hW _ | exact scA_zr hW _ _ | exact zr3 (cW_b hW) | exact zr3 (wS_b hW) | (unfold zr at *; omega)) (by first | exact hz _ _ | assumption | exact zr_b _ | exact zcmp_r _ _ | exact hzD _ _ | exact zr3 (tS_b hW _) | exact zr3 (lsc_b hW _ _) | exact zr3 (sc_b hW _ _) | exact rkP_zr hW _ | exact scA_zr hW _ _ | exact zr3 (cW_b hW) | exact zr3 (wS_b hW) | (unfold zr at *; omega)) (by first | exact hz _ _ | assumption | exact zr_b _ | exact zcmp_r _ _ | exact hzD _ _ | exact zr3 (tS_b hW _) | exact zr3 (lsc_b hW _ _) | exact zr3 (sc_b hW _ _) | exact rkP_zr hW _ | exact scA_zr hW _ _ | exact zr3 (cW_b hW) | exact zr3 (wS_b hW) | (unfold zr at *; omega)) (by first | assumption | omega) (by first | assumption | omega) (by first | assumption | omega)) dL_isClue_228 (by decide) rfl cw_RL_140 okX9_explains rfl (Nat.le_of_ble_eq_true rfl) ⟨Nat.le_of_ble_eq_true rfl, Nat.le_of_ble_eq_true rfl, Nat.le_of_ble_eq_true rfl, Nat.le_of_ble_eq_true rfl⟩ ?_
                                        refine zy_top (b := zb (works D c y ∧ cFit D c y (z % (D 12 0)).toNat)) rfl ?_
                                        refine zx_if_eq (tgt := 246) (by first | exact hz _ _ | assumption | exact zr_b _ | exact zcmp_r _ _ | exact hzD _ _ | exact zr3 (tS_b hW _) | exact zr3 (lsc_b hW _ _) | exact zr3 (sc_b hW _ _) | exact rkP_zr hW _ | exact scA_zr hW _ _ | exact zr3 (cW_b hW) | exact zr3 (wS_b hW) | (unfold zr at *; omega)) dL_isClue_231 (by decide) (fun h231 => ?_) (fun h231 => ?_)
                                        · have h231 := zb_0.mp h231
                                          refine zy_iinc (b := y + 1) [zf 9 0, zi ((k : Nat) : Int), zi z, zi acc, zi 1, zi ((c : Nat) : Int), zi (y + 1), zi (z % (D 12 0))] dL_isClue_246 rfl (by omega) (Nat.le_of_ble_eq_true rfl) rfl rfl ?_
                                          refine zx_goto (tgt := 87) dL_isClue_249 (by decide) ?_
                                          refine zy_drop 7 [zf 9 0, zi ((k : Nat) : Int), zi z, zi acc, zi 1, zi ((c : Nat) : Int), zi (y + 1), zu] rfl ?_
                                          exact ih87 (y + 1) 1 (by omega) (by
                                                 first
                                                 | exact Or.inr rfl
                                                 | (rcases hg with ⟨g0, g1, g2⟩ | g0
                                                    · refine Or.inl ⟨g0, g1, fun v v1 v2 => ?_⟩
                                                      by_cases e : v = y
                                                      · rw [e]; exact h104
                                                      · exact g2 v v1 (by omega)
                                                    · exact Or.inr g0)) (by omega)
                                        · have h231 := zb_n.mp h231
                                          refine zx_aloadN dL_isClue_234 rfl rfl ?_
                                          refine zx_iloadN dL_isClue_235 rfl rfl ?_
                                          refine zx_iload dL_isClue_236 rfl ?_
                                          refine zy_cv [zi ((k : Nat) : Int), zi (z % (D 12 0))] (fX9_contradict  hfl hz hB hW (by first | exact hz _ _ | assumption | exact zr_b _ | exact zcmp_r _ _ | exact hzD _ _ | exact zr3 (tS_b hW _) | exact zr3 (lsc_b hW _ _) | exact zr3 (sc_b hW _ _) | exact rkP_zr hW _ | exact scA_zr hW _ _ | exact zr3 (cW_b hW) | exact zr3 (wS_b hW) | (unfold zr at *; omega)) (by first | exact hz _ _ | assumption | exact zr_b _ | exact zcmp_r _ _ | exact hzD _ _ | exact zr3 (tS_b hW _) | exact zr3 (lsc_b hW _ _) | exact zr3 (sc_b hW _ _) | exact rkP_zr hW _ | exact scA_zr hW _ _ | exact zr3 (cW_b hW) | exact zr3 (wS_b hW) | (unfold zr at *; omega)) (by first | assumption | omega) (by first | assumption | omega)) dL_isClue_238 (by decide) rfl cw_RL_162 okX9_contradict rfl (Nat.le_of_ble_eq_true rfl) ⟨Nat.le_of_ble_eq_true rfl, Nat.le_of_ble_eq_true rfl, Nat.le_of_ble_eq_true rfl, Nat.le_of_ble_eq_true rfl⟩ ?_
                                          refine zy_top (b := zb (¬ ((k : Nat) : Int) = (z % (D 12 0)) ∧ ¬ tog D k (z % (D 12 0)).toNat)) rfl ?_
                                          refine zx_if_eq (tgt := 246) (by first | exact hz _ _ | assumption | exact zr_b _ | exact zcmp_r _ _ | exact hzD _ _ | exact zr3 (tS_b hW _) | exact zr3 (lsc_b hW _ _) | exact zr3 (sc_b hW _ _) | exact rkP_zr hW _ | exact scA_zr hW _ _ | exact zr3 (cW_b hW) | exact zr3 (wS_b hW) | (unfold zr at *; omega)) dL_isClue_241 (by decide) (fun h241 => ?_) (fun h241 => ?_)
                                          · have h241 := zb_0.mp h241
                                            refine zy_iinc (b := y + 1) [zf 9 0, zi ((k : Nat) : Int), zi z, zi acc, zi 1, zi ((c : Nat) : Int), zi (y + 1), zi (z % (D 12 0))] dL_isClue_246 rfl (by omega) (Nat.le_of_ble_eq_true rfl) rfl rfl ?_
                                            refine zx_goto (tgt := 87) dL_isClue_249 (by decide) ?_
                                            refine zy_drop 7 [zf 9 0, zi ((k : Nat) : Int), zi z, zi acc, zi 1, zi ((c : Nat) : Int), zi (y + 1), zu] rfl ?_
                                            exact ih87 (y + 1) 1 (by omega) (by
                                                   first
                                                   | exact Or.inr rfl
                                                   | (rcases hg with ⟨g0, g1, g2⟩ | g0
                                                      · refine Or.inl ⟨g0, g1, fun v v1 v2 => ?_⟩
                                                        by_cases e : v = y
                                                        · rw [e]; exact h104
                                                        · exact g2 v v1 (by omega)
                                                      · exact Or.inr g0)) (by omega)
                                          · have h241 := zb_n.mp h241
                                            exfalso; exact h241.2 (tog_of (by omega) h104.1 h104.2 h231.2)
                                      · exfalso
                                        have hcf := h104.2
                                        unfold cFit pFit eYr lYr at hcf
                                        first
                                        | exact h121 h104.1
                                        | exact h143 (hcf.1.1 h129)
                                        | exact h166 (hcf.1.2.1 h152)
                                        | exact h189 (hcf.1.2.2 h175)
                                        | (have e2 := hcf.2
                                           rw [if_pos h198, if_pos h198] at e2
                                           omega)
                    · have h104 := zb_0.mp h104
                      refine zx_goto (tgt := 246) dL_isClue_107 (by decide) ?_
                      refine zy_iinc (b := y + 1) [zf 9 0, zi ((k : Nat) : Int), zi z, zi acc, zi g, zi ((c : Nat) : Int), zi (y + 1), zu] dL_isClue_246 rfl (by omega) (Nat.le_of_ble_eq_true rfl) rfl rfl ?_
                      refine zx_goto (tgt := 87) dL_isClue_249 (by decide) ?_
                      exact ih87 (y + 1) g (by omega) (by
                             first
                             | exact Or.inr rfl
                             | (rcases hg with ⟨g0, g1, g2⟩ | g0
                                · refine Or.inl ⟨g0, g1, fun v v1 v2 => ?_⟩
                                  by_cases e : v = y
                                  · rw [e]; exact h104
                                  · exact g2 v v1 (by omega)
                                · exact Or.inr g0)) (by omega)
              exact L87 _ 1500 f (by omega) (hf.imp (fun q => ⟨q.1, q.2, fun v v1 v2 => by omega⟩) id) (Nat.lt_succ_self _)
        exact L73 _ 0 0 (by omega) (Or.inl ⟨rfl, fun q hq => absurd hq (Nat.not_lt_zero q)⟩) (Nat.lt_succ_self _)
      · refine zx_aloadN dL_isClue_17 rfl rfl ?_
        refine zx_iloadN dL_isClue_18 rfl rfl ?_
        refine zx_iload dL_isClue_19 rfl ?_
        refine zy_cv [zi ((k : Nat) : Int), zi ((o : Nat) : Int)] (fX9_contradict  hfl hz hB hW (by first | exact hz _ _ | assumption | exact zr_b _ | exact zcmp_r _ _ | exact hzD _ _ | exact zr3 (tS_b hW _) | exact zr3 (lsc_b hW _ _) | exact zr3 (sc_b hW _ _) | exact rkP_zr hW _ | exact scA_zr hW _ _ | exact zr3 (cW_b hW) | exact zr3 (wS_b hW) | (unfold zr at *; omega)) (by first | exact hz _ _ | assumption | exact zr_b _ | exact zcmp_r _ _ | exact hzD _ _ | exact zr3 (tS_b hW _) | exact zr3 (lsc_b hW _ _) | exact zr3 (sc_b hW _ _) | exact rkP_zr hW _ | exact scA_zr hW _ _ | exact zr3 (cW_b hW) | exact zr3 (wS_b hW) | (unfold zr at *; omega)) (by first | assumption | omega) (by first | assumption | omega)) dL_isClue_21 (by decide) rfl cw_RL_162 okX9_contradict rfl (Nat.le_of_ble_eq_true rfl) ⟨Nat.le_of_ble_eq_true rfl, Nat.le_of_ble_eq_true rfl, Nat.le_of_ble_eq_true rfl, Nat.le_of_ble_eq_true rfl⟩ ?_
        refine zy_top (b := zb (¬ ((k : Nat) : Int) = ((o : Nat) : Int) ∧ ¬ tog D k o)) rfl ?_
        refine zy_istore [zf 9 0, zi ((k : Nat) : Int), zi z, zi acc, zi 0, zi ((o : Nat) : Int), zi (zb (¬ ((k : Nat) : Int) = ((o : Nat) : Int) ∧ ¬ tog D k o)), zu] dL_isClue_24 (Nat.le_of_ble_eq_true rfl) (Nat.le_of_ble_eq_true rfl) rfl rfl ?_
        refine zx_iloadN dL_isClue_26 rfl rfl ?_
        refine zx_iload dL_isClue_27 rfl ?_
        refine zx_if_eq (tgt := 36) (by first | exact hz _ _ | assumption | exact zr_b _ | exact zcmp_r _ _ | exact hzD _ _ | exact zr3 (tS_b hW _) | exact zr3 (lsc_b hW _ _) | exact zr3 (sc_b hW _ _) | exact rkP_zr hW _ | exact scA_zr hW _ _ | exact zr3 (cW_b hW) | exact zr3 (wS_b hW) | (unfold zr at *; omega)) dL_isClue_29 (by decide) (fun h29 => ?_) (fun h29 => ?_)
        · have h29 := zb_0.mp h29
          refine zx_iconst dL_isClue_36 ?_
          refine zx_iadd dL_isClue_37 ?_
          refine zy_istoreN [zf 9 0, zi ((k : Nat) : Int), zi z, zi (acc + 0), zi 0, zi ((o : Nat) : Int), zi (zb (¬ ((k : Nat) : Int) = ((o : Nat) : Int) ∧ ¬ tog D k o)), zu] dL_isClue_38 rfl (Nat.le_of_ble_eq_true rfl) (Nat.le_of_ble_eq_true rfl) rfl rfl ?_
          refine zx_iload dL_isClue_39 rfl ?_
          refine zx_aloadN dL_isClue_41 rfl rfl ?_
          refine zx_iload dL_isClue_42 rfl ?_
          refine zx_iloadN dL_isClue_44 rfl rfl ?_
          refine zy_cv [zi ((o : Nat) : Int), zi ((k : Nat) : Int)] (fX9_contradict  hfl hz hB hW (by first | exact hz _ _ | assumption | exact zr_b _ | exact zcmp_r _ _ | exact hzD _ _ | exact zr3 (tS_b hW _) | exact zr3 (lsc_b hW _ _) | exact zr3 (sc_b hW _ _) | exact rkP_zr hW _ | exact scA_zr hW _ _ | exact zr3 (cW_b hW) | exact zr3 (wS_b hW) | (unfold zr at *; omega)) (by first | exact hz _ _ | assumption | exact zr_b _ | exact zcmp_r _ _ | exact hzD _ _ | exact zr3 (tS_b hW _) | exact zr3 (lsc_b hW _ _) | exact zr3 (sc_b hW _ _) | exact rkP_zr hW _ | exact scA_zr hW _ _ | exact zr3 (cW_b hW) | exact zr3 (wS_b hW) | (unfold zr at *; omega)) (by first | assumption | omega) (by first | assumption | omega)) dL_isClue_45 (by decide) rfl cw_RL_162 okX9_contradict rfl (Nat.le_of_ble_eq_true rfl) ⟨Nat.le_of_ble_eq_true rfl, Nat.le_of_ble_eq_true rfl, Nat.le_of_ble_eq_true rfl, Nat.le_of_ble_eq_true rfl⟩ ?_
          refine zy_top (b := zb (¬ ((o : Nat) : Int) = ((k : Nat) : Int) ∧ ¬ tog D o k)) rfl ?_
          refine zx_icmp_ne (tgt := 62) (by first | exact hz _ _ | assumption | exact zr_b _ | exact zcmp_r _ _ | exact hzD _ _ | exact zr3 (tS_b hW _) | exact zr3 (lsc_b hW _ _) | exact zr3 (sc_b hW _ _) | exact rkP_zr hW _ | exact scA_zr hW _ _ | exact zr3 (cW_b hW) | exact zr3 (wS_b hW) | (unfold zr at *; omega)) (by first | exact hz _ _ | assumption | exact zr_b _ | exact zcmp_r _ _ | exact hzD _ _ | exact zr3 (tS_b hW _) | exact zr3 (lsc_b hW _ _) | exact zr3 (sc_b hW _ _) | exact rkP_zr hW _ | exact scA_zr hW _ _ | exact zr3 (cW_b hW) | exact zr3 (wS_b hW) | (unfold zr at *; omega)) dL_isClue_48 (by decide) (fun h48 => ?_) (fun h48 => ?_)
          · exfalso
            first
            | exact h48 (zb_c ⟨fun q => ⟨fun z => q.1 z.symm, fun z => q.2 ((tog_sy _ _).mp z)⟩, fun q => ⟨fun z => q.1 z.symm, fun z => q.2 ((tog_sy _ _).mp z)⟩⟩)
            | exact h59.1 h54.symm
            | exact h29.1 h54.symm
            | omega
          · refine zx_iload dL_isClue_51 rfl ?_
            refine zx_iloadN dL_isClue_53 rfl rfl ?_
            refine zx_icmp_ne (tgt := 64) (by first | exact hz _ _ | assumption | exact zr_b _ | exact zcmp_r _ _ | exact hzD _ _ | exact zr3 (tS_b hW _) | exact zr3 (lsc_b hW _ _) | exact zr3 (sc_b hW _ _) | exact rkP_zr hW _ | exact scA_zr hW _ _ | exact zr3 (cW_b hW) | exact zr3 (wS_b hW) | (unfold zr at *; omega)) (by first | exact hz _ _ | assumption | exact zr_b _ | exact zcmp_r _ _ | exact hzD _ _ | exact zr3 (tS_b hW _) | exact zr3 (lsc_b hW _ _) | exact zr3 (sc_b hW _ _) | exact rkP_zr hW _ | exact scA_zr hW _ _ | exact zr3 (cW_b hW) | exact zr3 (wS_b hW) | (unfold zr at *; omega)) dL_isClue_54 (by decide) (fun h54 => ?_) (fun h54 => ?_)
            · refine zy_iinc (b := ((o + 1 : Nat) : Int)) [zf 9 0, zi ((k : Nat) : Int), zi z, zi (acc + 0), zi 0, zi ((o + 1 : Nat) : Int), zi (zb (¬ ((k : Nat) : Int) = ((o : Nat) : Int) ∧ ¬ tog D k o)), zu] dL_isClue_64 rfl (by omega) (Nat.le_of_ble_eq_true rfl) rfl rfl ?_
              refine zx_goto (tgt := 8) dL_isClue_67 (by decide) ?_
              refine zy_drop 6 [zf 9 0, zi ((k : Nat) : Int), zi z, zi (acc + 0), zi 0, zi ((o + 1 : Nat) : Int), zu, zu] rfl ?_
              exact ih8 (o + 1) (acc + 0) (by first | assumption | omega) (by
                    subst hacc
                    first
                    | exact zsb_t (P := fun c : Nat => ¬ (c : Int) = (k : Int) ∧ ¬ tog D k c) ⟨fun q => h29.1 q.symm, h29.2⟩
                    | (rw [Int.add_zero]; exact zsb_f (P := fun c : Nat => ¬ (c : Int) = (k : Int) ∧ ¬ tog D k c) (fun q => h29 ⟨fun z => q.1 z.symm, q.2⟩))) (by omega)
            · refine zx_iload dL_isClue_57 rfl ?_
              refine zx_if_eq (tgt := 64) (by first | exact hz _ _ | assumption | exact zr_b _ | exact zcmp_r _ _ | exact hzD _ _ | exact zr3 (tS_b hW _) | exact zr3 (lsc_b hW _ _) | exact zr3 (sc_b hW _ _) | exact rkP_zr hW _ | exact scA_zr hW _ _ | exact zr3 (cW_b hW) | exact zr3 (wS_b hW) | (unfold zr at *; omega)) dL_isClue_59 (by decide) (fun h59 => ?_) (fun h59 => ?_)
              · have h59 := zb_0.mp h59
                refine zy_iinc (b := ((o + 1 : Nat) : Int)) [zf 9 0, zi ((k : Nat) : Int), zi z, zi (acc + 0), zi 0, zi ((o + 1 : Nat) : Int), zi (zb (¬ ((k : Nat) : Int) = ((o : Nat) : Int) ∧ ¬ tog D k o)), zu] dL_isClue_64 rfl (by omega) (Nat.le_of_ble_eq_true rfl) rfl rfl ?_
                refine zx_goto (tgt := 8) dL_isClue_67 (by decide) ?_
                refine zy_drop 6 [zf 9 0, zi ((k : Nat) : Int), zi z, zi (acc + 0), zi 0, zi ((o + 1 : Nat) : Int), zu, zu] rfl ?_
                exact ih8 (o + 1) (acc + 0) (by first | assumption | omega) (by
                      subst hacc
                      first
                      | exact zsb_t (P := fun c : Nat => ¬ (c : Int) = (k : Int) ∧ ¬ tog D k c) ⟨fun q => h29.1 q.symm, h29.2⟩
                      | (rw [Int.add_zero]; exact zsb_f (P := fun c : Nat => ¬ (c : Int) = (k : Int) ∧ ¬ tog D k c) (fun q => h29 ⟨fun z => q.1 z.symm, q.2⟩))) (by omega)
              · have h59 := zb_n.mp h59
                exfalso
                first
                | exact h48 (zb_c ⟨fun q => ⟨fun z => q.1 z.symm, fun z => q.2 ((tog_sy _ _).mp z)⟩, fun q => ⟨fun z => q.1 z.symm, fun z => q.2 ((tog_sy _ _).mp z)⟩⟩)
                | exact h59.1 h54.symm
                | exact h29.1 h54.symm
                | omega
        · have h29 := zb_n.mp h29
          refine zx_iconst dL_isClue_32 ?_
          refine zx_goto (tgt := 37) dL_isClue_33 (by decide) ?_
          refine zx_iadd dL_isClue_37 ?_
          refine zy_istoreN [zf 9 0, zi ((k : Nat) : Int), zi z, zi (acc + 1), zi 0, zi ((o : Nat) : Int), zi (zb (¬ ((k : Nat) : Int) = ((o : Nat) : Int) ∧ ¬ tog D k o)), zu] dL_isClue_38 rfl (Nat.le_of_ble_eq_true rfl) (Nat.le_of_ble_eq_true rfl) rfl rfl ?_
          refine zx_iload dL_isClue_39 rfl ?_
          refine zx_aloadN dL_isClue_41 rfl rfl ?_
          refine zx_iload dL_isClue_42 rfl ?_
          refine zx_iloadN dL_isClue_44 rfl rfl ?_
          refine zy_cv [zi ((o : Nat) : Int), zi ((k : Nat) : Int)] (fX9_contradict  hfl hz hB hW (by first | exact hz _ _ | assumption | exact zr_b _ | exact zcmp_r _ _ | exact hzD _ _ | exact zr3 (tS_b hW _) | exact zr3 (lsc_b hW _ _) | exact zr3 (sc_b hW _ _) | exact rkP_zr hW _ | exact scA_zr hW _ _ | exact zr3 (cW_b hW) | exact zr3 (wS_b hW) | (unfold zr at *; omega)) (by first | exact hz _ _ | assumption | exact zr_b _ | exact zcmp_r _ _ | exact hzD _ _ | exact zr3 (tS_b hW _) | exact zr3 (lsc_b hW _ _) | exact zr3 (sc_b hW _ _) | exact rkP_zr hW _ | exact scA_zr hW _ _ | exact zr3 (cW_b hW) | exact zr3 (wS_b hW) | (unfold zr at *; omega)) (by first | assumption | omega) (by first | assumption | omega)) dL_isClue_45 (by decide) rfl cw_RL_162 okX9_contradict rfl (Nat.le_of_ble_eq_true rfl) ⟨Nat.le_of_ble_eq_true rfl, Nat.le_of_ble_eq_true rfl, Nat.le_of_ble_eq_true rfl, Nat.le_of_ble_eq_true rfl⟩ ?_
          refine zy_top (b := zb (¬ ((o : Nat) : Int) = ((k : Nat) : Int) ∧ ¬ tog D o k)) rfl ?_
          refine zx_icmp_ne (tgt := 62) (by first | exact hz _ _ | assumption | exact zr_b _ | exact zcmp_r _ _ | exact hzD _ _ | exact zr3 (tS_b hW _) | exact zr3 (lsc_b hW _ _) | exact zr3 (sc_b hW _ _) | exact rkP_zr hW _ | exact scA_zr hW _ _ | exact zr3 (cW_b hW) | exact zr3 (wS_b hW) | (unfold zr at *; omega)) (by first | exact hz _ _ | assumption | exact zr_b _ | exact zcmp_r _ _ | exact hzD _ _ | exact zr3 (tS_b hW _) | exact zr3 (lsc_b hW _ _) | exact zr3 (sc_b hW _ _) | exact rkP_zr hW _ | exact scA_zr hW _ _ | exact zr3 (cW_b hW) | exact zr3 (wS_b hW) | (unfold zr at *; omega)) dL_isClue_48 (by decide) (fun h48 => ?_) (fun h48 => ?_)
          · exfalso
            first
            | exact h48 (zb_c ⟨fun q => ⟨fun z => q.1 z.symm, fun z => q.2 ((tog_sy _ _).mp z)⟩, fun q => ⟨fun z => q.1 z.symm, fun z => q.2 ((tog_sy _ _).mp z)⟩⟩)
            | exact h59.1 h54.symm
            | exact h29.1 h54.symm
            | omega
          · refine zx_iload dL_isClue_51 rfl ?_
            refine zx_iloadN dL_isClue_53 rfl rfl ?_
            refine zx_icmp_ne (tgt := 64) (by first | exact hz _ _ | assumption | exact zr_b _ | exact zcmp_r _ _ | exact hzD _ _ | exact zr3 (tS_b hW _) | exact zr3 (lsc_b hW _ _) | exact zr3 (sc_b hW _ _) | exact rkP_zr hW _ | exact scA_zr hW _ _ | exact zr3 (cW_b hW) | exact zr3 (wS_b hW) | (unfold zr at *; omega)) (by first | exact hz _ _ | assumption | exact zr_b _ | exact zcmp_r _ _ | exact hzD _ _ | exact zr3 (tS_b hW _) | exact zr3 (lsc_b hW _ _) | exact zr3 (sc_b hW _ _) | exact rkP_zr hW _ | exact scA_zr hW _ _ | exact zr3 (cW_b hW) | exact zr3 (wS_b hW) | (unfold zr at *; omega)) dL_isClue_54 (by decide) (fun h54 => ?_) (fun h54 => ?_)
            · refine zy_iinc (b := ((o + 1 : Nat) : Int)) [zf 9 0, zi ((k : Nat) : Int), zi z, zi (acc + 1), zi 0, zi ((o + 1 : Nat) : Int), zi (zb (¬ ((k : Nat) : Int) = ((o : Nat) : Int) ∧ ¬ tog D k o)), zu] dL_isClue_64 rfl (by omega) (Nat.le_of_ble_eq_true rfl) rfl rfl ?_
              refine zx_goto (tgt := 8) dL_isClue_67 (by decide) ?_
              refine zy_drop 6 [zf 9 0, zi ((k : Nat) : Int), zi z, zi (acc + 1), zi 0, zi ((o + 1 : Nat) : Int), zu, zu] rfl ?_
              exact ih8 (o + 1) (acc + 1) (by first | assumption | omega) (by
                    subst hacc
                    first
                    | exact zsb_t (P := fun c : Nat => ¬ (c : Int) = (k : Int) ∧ ¬ tog D k c) ⟨fun q => h29.1 q.symm, h29.2⟩
                    | (rw [Int.add_zero]; exact zsb_f (P := fun c : Nat => ¬ (c : Int) = (k : Int) ∧ ¬ tog D k c) (fun q => h29 ⟨fun z => q.1 z.symm, q.2⟩))) (by omega)
            · refine zx_iload dL_isClue_57 rfl ?_
              refine zx_if_eq (tgt := 64) (by first | exact hz _ _ | assumption | exact zr_b _ | exact zcmp_r _ _ | exact hzD _ _ | exact zr3 (tS_b hW _) | exact zr3 (lsc_b hW _ _) | exact zr3 (sc_b hW _ _) | exact rkP_zr hW _ | exact scA_zr hW _ _ | exact zr3 (cW_b hW) | exact zr3 (wS_b hW) | (unfold zr at *; omega)) dL_isClue_59 (by decide) (fun h59 => ?_) (fun h59 => ?_)
              · have h59 := zb_0.mp h59
                refine zy_iinc (b := ((o + 1 : Nat) : Int)) [zf 9 0, zi ((k : Nat) : Int), zi z, zi (acc + 1), zi 0, zi ((o + 1 : Nat) : Int), zi (zb (¬ ((k : Nat) : Int) = ((o : Nat) : Int) ∧ ¬ tog D k o)), zu] dL_isClue_64 rfl (by omega) (Nat.le_of_ble_eq_true rfl) rfl rfl ?_
                refine zx_goto (tgt := 8) dL_isClue_67 (by decide) ?_
                refine zy_drop 6 [zf 9 0, zi ((k : Nat) : Int), zi z, zi (acc + 1), zi 0, zi ((o + 1 : Nat) : Int), zu, zu] rfl ?_
                exact ih8 (o + 1) (acc + 1) (by first | assumption | omega) (by
                      subst hacc
                      first
                      | exact zsb_t (P := fun c : Nat => ¬ (c : Int) = (k : Int) ∧ ¬ tog D k c) ⟨fun q => h29.1 q.symm, h29.2⟩
                      | (rw [Int.add_zero]; exact zsb_f (P := fun c : Nat => ¬ (c : Int) = (k : Int) ∧ ¬ tog D k c) (fun q => h29 ⟨fun z => q.1 z.symm, q.2⟩))) (by omega)
              · have h59 := zb_n.mp h59
                exfalso
                first
                | exact h48 (zb_c ⟨fun q => ⟨fun z => q.1 z.symm, fun z => q.2 ((tog_sy _ _).mp z)⟩, fun q => ⟨fun z => q.1 z.symm, fun z => q.2 ((tog_sy _ _).mp z)⟩⟩)
                | exact h59.1 h54.symm
                | exact h29.1 h54.symm
                | omega
  exact L8 _ 0 0 (by first | assumption | omega) rfl (Nat.lt_succ_self _)

