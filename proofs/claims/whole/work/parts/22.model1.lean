abbrev mX10_laysSteps : zM := (yX10_laysSteps, cX10_laysSteps, 3, none, [])
theorem okX10_laysSteps : zMok mX10_laysSteps 1 := ⟨by decide, by decide, by decide +kernel⟩
theorem dX10_laysSteps_0 : decode cX10_laysSteps 0 = .ok (.iconst 0, 1) := by decide +kernel
theorem dX10_laysSteps_1 : decode cX10_laysSteps 1 = .ok (.istore_n 2, 1) := by decide +kernel
theorem dX10_laysSteps_2 : decode cX10_laysSteps 2 = .ok (.iload_n 2, 1) := by decide +kernel
theorem dX10_laysSteps_3 : decode cX10_laysSteps 3 = .ok (.aload_n 0, 1) := by decide +kernel
theorem dX10_laysSteps_4 : decode cX10_laysSteps 4 = .ok (.getfield 25, 3) := by decide +kernel
theorem fl_RX10_25 : zFl RX10 25 10 8 := ⟨RX10, TX10, 28, rfl, by decide, zmem1 1661 (by decide +kernel) rfl, rfl⟩
theorem dX10_laysSteps_7 : decode cX10_laysSteps 7 = .ok (.arraylength, 1) := by decide +kernel
theorem dX10_laysSteps_8 : decode cX10_laysSteps 8 = .ok (.if_icmp .ge 16, 3) := by decide +kernel
theorem dX10_laysSteps_24 : decode cX10_laysSteps 24 = .ok (.iconst 0, 1) := by decide +kernel
theorem dX10_laysSteps_25 : decode cX10_laysSteps 25 = .ok (.istore_n 2, 1) := by decide +kernel
theorem dX10_laysSteps_26 : decode cX10_laysSteps 26 = .ok (.iload_n 2, 1) := by decide +kernel
theorem dX10_laysSteps_27 : decode cX10_laysSteps 27 = .ok (.aload_n 0, 1) := by decide +kernel
theorem dX10_laysSteps_28 : decode cX10_laysSteps 28 = .ok (.getfield 7, 3) := by decide +kernel
theorem dX10_laysSteps_31 : decode cX10_laysSteps 31 = .ok (.iconst 3, 1) := by decide +kernel
theorem dX10_laysSteps_32 : decode cX10_laysSteps 32 = .ok (.iaload, 1) := by decide +kernel
theorem dX10_laysSteps_33 : decode cX10_laysSteps 33 = .ok (.if_icmp .ge 77, 3) := by decide +kernel
theorem dX10_laysSteps_110 : decode cX10_laysSteps 110 = .ok (.return_, 1) := by decide +kernel
theorem dX10_laysSteps_36 : decode cX10_laysSteps 36 = .ok (.aload_n 0, 1) := by decide +kernel
theorem dX10_laysSteps_37 : decode cX10_laysSteps 37 = .ok (.iload_n 2, 1) := by decide +kernel
theorem dX10_laysSteps_38 : decode cX10_laysSteps 38 = .ok (.invokevirtual 121, 3) := by decide +kernel
theorem dX10_laysSteps_41 : decode cX10_laysSteps 41 = .ok (.ifCond .eq 63, 3) := by decide +kernel
theorem dX10_laysSteps_104 : decode cX10_laysSteps 104 = .ok (.iinc 2 1, 3) := by decide +kernel
theorem dX10_laysSteps_107 : decode cX10_laysSteps 107 = .ok (.goto (-81), 3) := by decide +kernel
theorem dX10_laysSteps_44 : decode cX10_laysSteps 44 = .ok (.aload_n 0, 1) := by decide +kernel
theorem dX10_laysSteps_45 : decode cX10_laysSteps 45 = .ok (.iload_n 2, 1) := by decide +kernel
theorem dX10_laysSteps_46 : decode cX10_laysSteps 46 = .ok (.iload_n 1, 1) := by decide +kernel
theorem dX10_laysSteps_47 : decode cX10_laysSteps 47 = .ok (.invokevirtual 111, 3) := by decide +kernel
theorem dX10_laysSteps_50 : decode cX10_laysSteps 50 = .ok (.ifCond .ne 6, 3) := by decide +kernel
theorem dX10_laysSteps_56 : decode cX10_laysSteps 56 = .ok (.aload_n 0, 1) := by decide +kernel
theorem dX10_laysSteps_57 : decode cX10_laysSteps 57 = .ok (.getfield 25, 3) := by decide +kernel
theorem dX10_laysSteps_60 : decode cX10_laysSteps 60 = .ok (.aload_n 0, 1) := by decide +kernel
theorem dX10_laysSteps_61 : decode cX10_laysSteps 61 = .ok (.iload_n 2, 1) := by decide +kernel
theorem dX10_laysSteps_62 : decode cX10_laysSteps 62 = .ok (.invokevirtual 114, 3) := by decide +kernel
theorem dX10_laysSteps_65 : decode cX10_laysSteps 65 = .ok (.sipush 1450, 3) := by decide +kernel
theorem dX10_laysSteps_68 : decode cX10_laysSteps 68 = .ok (.isub, 1) := by decide +kernel
theorem dX10_laysSteps_69 : decode cX10_laysSteps 69 = .ok (.dup2, 1) := by decide +kernel
theorem dX10_laysSteps_70 : decode cX10_laysSteps 70 = .ok (.iaload, 1) := by decide +kernel
theorem dX10_laysSteps_71 : decode cX10_laysSteps 71 = .ok (.aload_n 0, 1) := by decide +kernel
theorem dX10_laysSteps_72 : decode cX10_laysSteps 72 = .ok (.iload_n 2, 1) := by decide +kernel
theorem dX10_laysSteps_73 : decode cX10_laysSteps 73 = .ok (.iconst 3, 1) := by decide +kernel
theorem dX10_laysSteps_74 : decode cX10_laysSteps 74 = .ok (.invokevirtual 102, 3) := by decide +kernel
theorem dX10_laysSteps_77 : decode cX10_laysSteps 77 = .ok (.iadd, 1) := by decide +kernel
theorem dX10_laysSteps_78 : decode cX10_laysSteps 78 = .ok (.iastore, 1) := by decide +kernel
theorem dX10_laysSteps_79 : decode cX10_laysSteps 79 = .ok (.aload_n 0, 1) := by decide +kernel
theorem dX10_laysSteps_80 : decode cX10_laysSteps 80 = .ok (.getfield 25, 3) := by decide +kernel
theorem dX10_laysSteps_83 : decode cX10_laysSteps 83 = .ok (.aload_n 0, 1) := by decide +kernel
theorem dX10_laysSteps_84 : decode cX10_laysSteps 84 = .ok (.iload_n 2, 1) := by decide +kernel
theorem dX10_laysSteps_85 : decode cX10_laysSteps 85 = .ok (.invokevirtual 118, 3) := by decide +kernel
theorem dX10_laysSteps_88 : decode cX10_laysSteps 88 = .ok (.iconst 1, 1) := by decide +kernel
theorem dX10_laysSteps_89 : decode cX10_laysSteps 89 = .ok (.iadd, 1) := by decide +kernel
theorem dX10_laysSteps_90 : decode cX10_laysSteps 90 = .ok (.sipush 1450, 3) := by decide +kernel
theorem dX10_laysSteps_93 : decode cX10_laysSteps 93 = .ok (.isub, 1) := by decide +kernel
theorem dX10_laysSteps_94 : decode cX10_laysSteps 94 = .ok (.dup2, 1) := by decide +kernel
theorem dX10_laysSteps_95 : decode cX10_laysSteps 95 = .ok (.iaload, 1) := by decide +kernel
theorem dX10_laysSteps_96 : decode cX10_laysSteps 96 = .ok (.aload_n 0, 1) := by decide +kernel
theorem dX10_laysSteps_97 : decode cX10_laysSteps 97 = .ok (.iload_n 2, 1) := by decide +kernel
theorem dX10_laysSteps_98 : decode cX10_laysSteps 98 = .ok (.iconst 3, 1) := by decide +kernel
theorem dX10_laysSteps_99 : decode cX10_laysSteps 99 = .ok (.invokevirtual 102, 3) := by decide +kernel
theorem dX10_laysSteps_102 : decode cX10_laysSteps 102 = .ok (.isub, 1) := by decide +kernel
theorem dX10_laysSteps_103 : decode cX10_laysSteps 103 = .ok (.iastore, 1) := by decide +kernel
theorem dX10_laysSteps_53 : decode cX10_laysSteps 53 = .ok (.goto 51, 3) := by decide +kernel
theorem dX10_laysSteps_11 : decode cX10_laysSteps 11 = .ok (.aload_n 0, 1) := by decide +kernel
theorem dX10_laysSteps_12 : decode cX10_laysSteps 12 = .ok (.getfield 25, 3) := by decide +kernel
theorem dX10_laysSteps_15 : decode cX10_laysSteps 15 = .ok (.iload_n 2, 1) := by decide +kernel
theorem dX10_laysSteps_16 : decode cX10_laysSteps 16 = .ok (.iconst 0, 1) := by decide +kernel
theorem dX10_laysSteps_17 : decode cX10_laysSteps 17 = .ok (.iastore, 1) := by decide +kernel
theorem dX10_laysSteps_18 : decode cX10_laysSteps 18 = .ok (.iinc 2 1, 3) := by decide +kernel
theorem dX10_laysSteps_21 : decode cX10_laysSteps 21 = .ok (.goto (-19), 3) := by decide +kernel
abbrev mX10_findsBest : zM := (yX10_findsBest, cX10_findsBest, 4, none, [])
theorem okX10_findsBest : zMok mX10_findsBest 1 := ⟨by decide, by decide, by decide +kernel⟩
theorem dX10_findsBest_0 : decode cX10_findsBest 0 = .ok (.aload_n 0, 1) := by decide +kernel
theorem dX10_findsBest_1 : decode cX10_findsBest 1 = .ok (.iload_n 1, 1) := by decide +kernel
theorem dX10_findsBest_2 : decode cX10_findsBest 2 = .ok (.invokevirtual 129, 3) := by decide +kernel
theorem cw_RX10_129 : zCwV RX10 129 mX10_laysSteps := zall [1856, 1858, 74, 128, 1859] (by decide +kernel) (by decide +kernel)
theorem dX10_findsBest_5 : decode cX10_findsBest 5 = .ok (.iconst 0, 1) := by decide +kernel
theorem dX10_findsBest_6 : decode cX10_findsBest 6 = .ok (.istore_n 2, 1) := by decide +kernel
theorem dX10_findsBest_7 : decode cX10_findsBest 7 = .ok (.aload_n 0, 1) := by decide +kernel
theorem dX10_findsBest_8 : decode cX10_findsBest 8 = .ok (.iconst (-1), 1) := by decide +kernel
theorem dX10_findsBest_9 : decode cX10_findsBest 9 = .ok (.putfield 133, 3) := by decide +kernel
theorem fl_RX10_133 : zFl RX10 133 10 9 := ⟨RX10, TX10, 28, rfl, by decide, zmem1 1662 (by decide +kernel) rfl, rfl⟩
theorem fp_10_9 : zFi 10 9 "I" := ⟨RX10, TX10, 28, rfl, rfl, rfl⟩
theorem dX10_findsBest_12 : decode cX10_findsBest 12 = .ok (.sipush 1450, 3) := by decide +kernel
theorem dX10_findsBest_15 : decode cX10_findsBest 15 = .ok (.istore_n 3, 1) := by decide +kernel
theorem dX10_findsBest_16 : decode cX10_findsBest 16 = .ok (.iload_n 3, 1) := by decide +kernel
theorem dX10_findsBest_17 : decode cX10_findsBest 17 = .ok (.aload_n 0, 1) := by decide +kernel
theorem dX10_findsBest_18 : decode cX10_findsBest 18 = .ok (.iload_n 1, 1) := by decide +kernel
theorem dX10_findsBest_19 : decode cX10_findsBest 19 = .ok (.bipush 9, 2) := by decide +kernel
theorem dX10_findsBest_21 : decode cX10_findsBest 21 = .ok (.invokevirtual 82, 3) := by decide +kernel
theorem dX10_findsBest_24 : decode cX10_findsBest 24 = .ok (.if_icmp .gt 92, 3) := by decide +kernel
theorem dX10_findsBest_116 : decode cX10_findsBest 116 = .ok (.return_, 1) := by decide +kernel
theorem dX10_findsBest_27 : decode cX10_findsBest 27 = .ok (.iload_n 2, 1) := by decide +kernel
theorem dX10_findsBest_28 : decode cX10_findsBest 28 = .ok (.aload_n 0, 1) := by decide +kernel
theorem dX10_findsBest_29 : decode cX10_findsBest 29 = .ok (.getfield 25, 3) := by decide +kernel
theorem dX10_findsBest_32 : decode cX10_findsBest 32 = .ok (.iload_n 3, 1) := by decide +kernel
theorem dX10_findsBest_33 : decode cX10_findsBest 33 = .ok (.sipush 1450, 3) := by decide +kernel
theorem dX10_findsBest_36 : decode cX10_findsBest 36 = .ok (.isub, 1) := by decide +kernel
theorem dX10_findsBest_37 : decode cX10_findsBest 37 = .ok (.iaload, 1) := by decide +kernel
theorem dX10_findsBest_38 : decode cX10_findsBest 38 = .ok (.iadd, 1) := by decide +kernel
theorem dX10_findsBest_39 : decode cX10_findsBest 39 = .ok (.istore_n 2, 1) := by decide +kernel
theorem dX10_findsBest_40 : decode cX10_findsBest 40 = .ok (.iload_n 3, 1) := by decide +kernel
theorem dX10_findsBest_41 : decode cX10_findsBest 41 = .ok (.aload_n 0, 1) := by decide +kernel
theorem dX10_findsBest_42 : decode cX10_findsBest 42 = .ok (.iload_n 1, 1) := by decide +kernel
theorem dX10_findsBest_43 : decode cX10_findsBest 43 = .ok (.bipush 8, 2) := by decide +kernel
theorem dX10_findsBest_45 : decode cX10_findsBest 45 = .ok (.invokevirtual 82, 3) := by decide +kernel
theorem dX10_findsBest_48 : decode cX10_findsBest 48 = .ok (.if_icmp .ge 6, 3) := by decide +kernel
theorem dX10_findsBest_54 : decode cX10_findsBest 54 = .ok (.aload_n 0, 1) := by decide +kernel
theorem dX10_findsBest_55 : decode cX10_findsBest 55 = .ok (.getfield 133, 3) := by decide +kernel
theorem dX10_findsBest_58 : decode cX10_findsBest 58 = .ok (.iconst (-1), 1) := by decide +kernel
theorem dX10_findsBest_59 : decode cX10_findsBest 59 = .ok (.if_icmp .eq 11, 3) := by decide +kernel
theorem dX10_findsBest_70 : decode cX10_findsBest 70 = .ok (.aload_n 0, 1) := by decide +kernel
theorem dX10_findsBest_71 : decode cX10_findsBest 71 = .ok (.iload_n 3, 1) := by decide +kernel
theorem dX10_findsBest_72 : decode cX10_findsBest 72 = .ok (.putfield 133, 3) := by decide +kernel
theorem dX10_findsBest_75 : decode cX10_findsBest 75 = .ok (.aload_n 0, 1) := by decide +kernel
theorem dX10_findsBest_76 : decode cX10_findsBest 76 = .ok (.iload_n 2, 1) := by decide +kernel
theorem dX10_findsBest_77 : decode cX10_findsBest 77 = .ok (.putfield 136, 3) := by decide +kernel
theorem fl_RX10_136 : zFl RX10 136 10 10 := ⟨RX10, TX10, 28, rfl, by decide, zmem1 1663 (by decide +kernel) rfl, rfl⟩
theorem fp_10_10 : zFi 10 10 "I" := ⟨RX10, TX10, 28, rfl, rfl, rfl⟩
theorem dX10_findsBest_80 : decode cX10_findsBest 80 = .ok (.aload_n 0, 1) := by decide +kernel
theorem dX10_findsBest_81 : decode cX10_findsBest 81 = .ok (.iconst 0, 1) := by decide +kernel
theorem dX10_findsBest_82 : decode cX10_findsBest 82 = .ok (.putfield 139, 3) := by decide +kernel
theorem fl_RX10_139 : zFl RX10 139 10 11 := ⟨RX10, TX10, 28, rfl, by decide, zmem1 1664 (by decide +kernel) rfl, rfl⟩
theorem fp_10_11 : zFi 10 11 "I" := ⟨RX10, TX10, 28, rfl, rfl, rfl⟩
theorem dX10_findsBest_85 : decode cX10_findsBest 85 = .ok (.aload_n 0, 1) := by decide +kernel
theorem dX10_findsBest_86 : decode cX10_findsBest 86 = .ok (.dup, 1) := by decide +kernel
theorem dX10_findsBest_87 : decode cX10_findsBest 87 = .ok (.getfield 139, 3) := by decide +kernel
theorem dX10_findsBest_90 : decode cX10_findsBest 90 = .ok (.iload_n 2, 1) := by decide +kernel
theorem dX10_findsBest_91 : decode cX10_findsBest 91 = .ok (.aload_n 0, 1) := by decide +kernel
theorem dX10_findsBest_92 : decode cX10_findsBest 92 = .ok (.getfield 136, 3) := by decide +kernel
theorem dX10_findsBest_95 : decode cX10_findsBest 95 = .ok (.if_icmp .ne 7, 3) := by decide +kernel
theorem dX10_findsBest_102 : decode cX10_findsBest 102 = .ok (.iconst 0, 1) := by decide +kernel
theorem dX10_findsBest_103 : decode cX10_findsBest 103 = .ok (.invokestatic 94, 3) := by decide +kernel
theorem dX10_findsBest_106 : decode cX10_findsBest 106 = .ok (.iadd, 1) := by decide +kernel
theorem dX10_findsBest_107 : decode cX10_findsBest 107 = .ok (.putfield 139, 3) := by decide +kernel
theorem dX10_findsBest_110 : decode cX10_findsBest 110 = .ok (.iinc 3 1, 3) := by decide +kernel
theorem dX10_findsBest_113 : decode cX10_findsBest 113 = .ok (.goto (-97), 3) := by decide +kernel
theorem dX10_findsBest_98 : decode cX10_findsBest 98 = .ok (.iconst 1, 1) := by decide +kernel
theorem dX10_findsBest_99 : decode cX10_findsBest 99 = .ok (.goto 4, 3) := by decide +kernel
theorem dX10_findsBest_62 : decode cX10_findsBest 62 = .ok (.iload_n 2, 1) := by decide +kernel
theorem dX10_findsBest_63 : decode cX10_findsBest 63 = .ok (.aload_n 0, 1) := by decide +kernel
theorem dX10_findsBest_64 : decode cX10_findsBest 64 = .ok (.getfield 136, 3) := by decide +kernel
theorem dX10_findsBest_67 : decode cX10_findsBest 67 = .ok (.if_icmp .le 18, 3) := by decide +kernel
theorem dX10_findsBest_51 : decode cX10_findsBest 51 = .ok (.goto 59, 3) := by decide +kernel
abbrev mX10_bestOf : zM := (yX10_bestOf, cX10_bestOf, 2, (some .int), [])
theorem okX10_bestOf : zMok mX10_bestOf 1 := ⟨by decide, by decide, by decide +kernel⟩
theorem dX10_bestOf_0 : decode cX10_bestOf 0 = .ok (.aload_n 0, 1) := by decide +kernel
theorem dX10_bestOf_1 : decode cX10_bestOf 1 = .ok (.iload_n 1, 1) := by decide +kernel
theorem dX10_bestOf_2 : decode cX10_bestOf 2 = .ok (.invokevirtual 142, 3) := by decide +kernel
theorem cw_RX10_142 : zCwV RX10 142 mX10_findsBest := zall [1852, 1854, 73, 128, 1855] (by decide +kernel) (by decide +kernel)
theorem dX10_bestOf_5 : decode cX10_bestOf 5 = .ok (.aload_n 0, 1) := by decide +kernel
theorem dX10_bestOf_6 : decode cX10_bestOf 6 = .ok (.getfield 136, 3) := by decide +kernel
theorem dX10_bestOf_9 : decode cX10_bestOf 9 = .ok (.ireturn, 1) := by decide +kernel
abbrev mX10_laysScores : zM := (yX10_laysScores, cX10_laysScores, 2, none, [])
theorem okX10_laysScores : zMok mX10_laysScores 0 := ⟨by decide, by decide, by decide +kernel⟩
theorem dX10_laysScores_0 : decode cX10_laysScores 0 = .ok (.iconst 0, 1) := by decide +kernel
theorem dX10_laysScores_1 : decode cX10_laysScores 1 = .ok (.istore_n 1, 1) := by decide +kernel
theorem dX10_laysScores_2 : decode cX10_laysScores 2 = .ok (.iload_n 1, 1) := by decide +kernel
theorem dX10_laysScores_3 : decode cX10_laysScores 3 = .ok (.aload_n 0, 1) := by decide +kernel
theorem dX10_laysScores_4 : decode cX10_laysScores 4 = .ok (.getfield 7, 3) := by decide +kernel
theorem dX10_laysScores_7 : decode cX10_laysScores 7 = .ok (.iconst 0, 1) := by decide +kernel
theorem dX10_laysScores_8 : decode cX10_laysScores 8 = .ok (.iaload, 1) := by decide +kernel
theorem dX10_laysScores_9 : decode cX10_laysScores 9 = .ok (.if_icmp .ge 20, 3) := by decide +kernel
theorem dX10_laysScores_29 : decode cX10_laysScores 29 = .ok (.return_, 1) := by decide +kernel
theorem dX10_laysScores_12 : decode cX10_laysScores 12 = .ok (.aload_n 0, 1) := by decide +kernel
theorem dX10_laysScores_13 : decode cX10_laysScores 13 = .ok (.getfield 28, 3) := by decide +kernel
theorem fl_RX10_28 : zFl RX10 28 10 12 := ⟨RX10, TX10, 28, rfl, by decide, zmem1 1665 (by decide +kernel) rfl, rfl⟩
theorem dX10_laysScores_16 : decode cX10_laysScores 16 = .ok (.iload_n 1, 1) := by decide +kernel
theorem dX10_laysScores_17 : decode cX10_laysScores 17 = .ok (.aload_n 0, 1) := by decide +kernel
theorem dX10_laysScores_18 : decode cX10_laysScores 18 = .ok (.iload_n 1, 1) := by decide +kernel
theorem dX10_laysScores_19 : decode cX10_laysScores 19 = .ok (.invokevirtual 145, 3) := by decide +kernel
theorem cw_RX10_145 : zCwV RX10 145 mX10_bestOf := zall [1848, 1850, 72, 128, 1851] (by decide +kernel) (by decide +kernel)
theorem dX10_laysScores_22 : decode cX10_laysScores 22 = .ok (.iastore, 1) := by decide +kernel
theorem dX10_laysScores_23 : decode cX10_laysScores 23 = .ok (.iinc 1 1, 3) := by decide +kernel
theorem dX10_laysScores_26 : decode cX10_laysScores 26 = .ok (.goto (-24), 3) := by decide +kernel
abbrev mX10_isAhead : zM := (yX10_isAhead, cX10_isAhead, 3, (some .boolean), [])
theorem okX10_isAhead : zMok mX10_isAhead 2 := ⟨by decide, by decide, by decide +kernel⟩
theorem dX10_isAhead_0 : decode cX10_isAhead 0 = .ok (.aload_n 0, 1) := by decide +kernel
theorem dX10_isAhead_1 : decode cX10_isAhead 1 = .ok (.getfield 28, 3) := by decide +kernel
theorem dX10_isAhead_4 : decode cX10_isAhead 4 = .ok (.iload_n 1, 1) := by decide +kernel
theorem dX10_isAhead_5 : decode cX10_isAhead 5 = .ok (.iaload, 1) := by decide +kernel
theorem dX10_isAhead_6 : decode cX10_isAhead 6 = .ok (.aload_n 0, 1) := by decide +kernel
theorem dX10_isAhead_7 : decode cX10_isAhead 7 = .ok (.getfield 28, 3) := by decide +kernel
theorem dX10_isAhead_10 : decode cX10_isAhead 10 = .ok (.iload_n 2, 1) := by decide +kernel
theorem dX10_isAhead_11 : decode cX10_isAhead 11 = .ok (.iaload, 1) := by decide +kernel
theorem dX10_isAhead_12 : decode cX10_isAhead 12 = .ok (.if_icmp .gt 23, 3) := by decide +kernel
theorem dX10_isAhead_35 : decode cX10_isAhead 35 = .ok (.iconst 1, 1) := by decide +kernel
theorem dX10_isAhead_36 : decode cX10_isAhead 36 = .ok (.goto 4, 3) := by decide +kernel
theorem dX10_isAhead_40 : decode cX10_isAhead 40 = .ok (.ireturn, 1) := by decide +kernel
theorem dX10_isAhead_15 : decode cX10_isAhead 15 = .ok (.aload_n 0, 1) := by decide +kernel
theorem dX10_isAhead_16 : decode cX10_isAhead 16 = .ok (.getfield 28, 3) := by decide +kernel
theorem dX10_isAhead_19 : decode cX10_isAhead 19 = .ok (.iload_n 1, 1) := by decide +kernel
theorem dX10_isAhead_20 : decode cX10_isAhead 20 = .ok (.iaload, 1) := by decide +kernel
theorem dX10_isAhead_21 : decode cX10_isAhead 21 = .ok (.aload_n 0, 1) := by decide +kernel
theorem dX10_isAhead_22 : decode cX10_isAhead 22 = .ok (.getfield 28, 3) := by decide +kernel
theorem dX10_isAhead_25 : decode cX10_isAhead 25 = .ok (.iload_n 2, 1) := by decide +kernel
theorem dX10_isAhead_26 : decode cX10_isAhead 26 = .ok (.iaload, 1) := by decide +kernel
theorem dX10_isAhead_27 : decode cX10_isAhead 27 = .ok (.if_icmp .ne 12, 3) := by decide +kernel
theorem dX10_isAhead_39 : decode cX10_isAhead 39 = .ok (.iconst 0, 1) := by decide +kernel
theorem dX10_isAhead_30 : decode cX10_isAhead 30 = .ok (.iload_n 1, 1) := by decide +kernel
theorem dX10_isAhead_31 : decode cX10_isAhead 31 = .ok (.iload_n 2, 1) := by decide +kernel
theorem dX10_isAhead_32 : decode cX10_isAhead 32 = .ok (.if_icmp .ge 7, 3) := by decide +kernel
abbrev mX10_atRank : zM := (yX10_atRank, cX10_atRank, 5, (some .int), [])
theorem okX10_atRank : zMok mX10_atRank 1 := ⟨by decide, by decide, by decide +kernel⟩
theorem dX10_atRank_0 : decode cX10_atRank 0 = .ok (.iconst 0, 1) := by decide +kernel
theorem dX10_atRank_1 : decode cX10_atRank 1 = .ok (.istore_n 2, 1) := by decide +kernel
theorem dX10_atRank_2 : decode cX10_atRank 2 = .ok (.iload_n 2, 1) := by decide +kernel
theorem dX10_atRank_3 : decode cX10_atRank 3 = .ok (.aload_n 0, 1) := by decide +kernel
theorem dX10_atRank_4 : decode cX10_atRank 4 = .ok (.getfield 7, 3) := by decide +kernel
theorem dX10_atRank_7 : decode cX10_atRank 7 = .ok (.iconst 0, 1) := by decide +kernel
theorem dX10_atRank_8 : decode cX10_atRank 8 = .ok (.iaload, 1) := by decide +kernel
theorem dX10_atRank_9 : decode cX10_atRank 9 = .ok (.if_icmp .ge 51, 3) := by decide +kernel
theorem dX10_atRank_60 : decode cX10_atRank 60 = .ok (.iconst (-1), 1) := by decide +kernel
theorem dX10_atRank_61 : decode cX10_atRank 61 = .ok (.ireturn, 1) := by decide +kernel
theorem dX10_atRank_12 : decode cX10_atRank 12 = .ok (.iconst 0, 1) := by decide +kernel
theorem dX10_atRank_13 : decode cX10_atRank 13 = .ok (.istore_n 3, 1) := by decide +kernel
theorem dX10_atRank_14 : decode cX10_atRank 14 = .ok (.iconst 0, 1) := by decide +kernel
theorem dX10_atRank_15 : decode cX10_atRank 15 = .ok (.istore 4, 2) := by decide +kernel
theorem dX10_atRank_17 : decode cX10_atRank 17 = .ok (.iload 4, 2) := by decide +kernel
theorem dX10_atRank_19 : decode cX10_atRank 19 = .ok (.aload_n 0, 1) := by decide +kernel
theorem dX10_atRank_20 : decode cX10_atRank 20 = .ok (.getfield 7, 3) := by decide +kernel
theorem dX10_atRank_23 : decode cX10_atRank 23 = .ok (.iconst 0, 1) := by decide +kernel
theorem dX10_atRank_24 : decode cX10_atRank 24 = .ok (.iaload, 1) := by decide +kernel
theorem dX10_atRank_25 : decode cX10_atRank 25 = .ok (.if_icmp .ge 22, 3) := by decide +kernel
theorem dX10_atRank_47 : decode cX10_atRank 47 = .ok (.iload_n 3, 1) := by decide +kernel
theorem dX10_atRank_48 : decode cX10_atRank 48 = .ok (.iload_n 1, 1) := by decide +kernel
theorem dX10_atRank_49 : decode cX10_atRank 49 = .ok (.if_icmp .ne 5, 3) := by decide +kernel
theorem dX10_atRank_54 : decode cX10_atRank 54 = .ok (.iinc 2 1, 3) := by decide +kernel
theorem dX10_atRank_57 : decode cX10_atRank 57 = .ok (.goto (-55), 3) := by decide +kernel
theorem dX10_atRank_52 : decode cX10_atRank 52 = .ok (.iload_n 2, 1) := by decide +kernel
theorem dX10_atRank_53 : decode cX10_atRank 53 = .ok (.ireturn, 1) := by decide +kernel
theorem dX10_atRank_28 : decode cX10_atRank 28 = .ok (.iload_n 3, 1) := by decide +kernel
theorem dX10_atRank_29 : decode cX10_atRank 29 = .ok (.aload_n 0, 1) := by decide +kernel
theorem dX10_atRank_30 : decode cX10_atRank 30 = .ok (.iload 4, 2) := by decide +kernel
theorem dX10_atRank_32 : decode cX10_atRank 32 = .ok (.iload_n 2, 1) := by decide +kernel
theorem dX10_atRank_33 : decode cX10_atRank 33 = .ok (.invokevirtual 148, 3) := by decide +kernel
theorem cw_RX10_148 : zCwV RX10 148 mX10_isAhead := zall [1895, 1897, 83, 128, 1898] (by decide +kernel) (by decide +kernel)
theorem dX10_atRank_36 : decode cX10_atRank 36 = .ok (.invokestatic 94, 3) := by decide +kernel
theorem dX10_atRank_39 : decode cX10_atRank 39 = .ok (.iadd, 1) := by decide +kernel
theorem dX10_atRank_40 : decode cX10_atRank 40 = .ok (.istore_n 3, 1) := by decide +kernel
theorem dX10_atRank_41 : decode cX10_atRank 41 = .ok (.iinc 4 1, 3) := by decide +kernel
theorem dX10_atRank_44 : decode cX10_atRank 44 = .ok (.goto (-27), 3) := by decide +kernel
abbrev mX10_isBefore : zM := (yX10_isBefore, cX10_isBefore, 4, (some .boolean), [])
theorem okX10_isBefore : zMok mX10_isBefore 2 := ⟨by decide, by decide, by decide +kernel⟩
theorem dX10_isBefore_0 : decode cX10_isBefore 0 = .ok (.aload_n 0, 1) := by decide +kernel
theorem dX10_isBefore_1 : decode cX10_isBefore 1 = .ok (.iload_n 1, 1) := by decide +kernel
theorem dX10_isBefore_2 : decode cX10_isBefore 2 = .ok (.iconst 0, 1) := by decide +kernel
theorem dX10_isBefore_3 : decode cX10_isBefore 3 = .ok (.invokevirtual 102, 3) := by decide +kernel
theorem dX10_isBefore_6 : decode cX10_isBefore 6 = .ok (.aload_n 0, 1) := by decide +kernel
theorem dX10_isBefore_7 : decode cX10_isBefore 7 = .ok (.iload_n 2, 1) := by decide +kernel
theorem dX10_isBefore_8 : decode cX10_isBefore 8 = .ok (.iconst 0, 1) := by decide +kernel
theorem dX10_isBefore_9 : decode cX10_isBefore 9 = .ok (.invokevirtual 102, 3) := by decide +kernel
theorem dX10_isBefore_12 : decode cX10_isBefore 12 = .ok (.isub, 1) := by decide +kernel
theorem dX10_isBefore_13 : decode cX10_isBefore 13 = .ok (.istore_n 3, 1) := by decide +kernel
theorem dX10_isBefore_14 : decode cX10_isBefore 14 = .ok (.iload_n 3, 1) := by decide +kernel
theorem dX10_isBefore_15 : decode cX10_isBefore 15 = .ok (.ifCond .gt 12, 3) := by decide +kernel
theorem dX10_isBefore_27 : decode cX10_isBefore 27 = .ok (.iconst 1, 1) := by decide +kernel
theorem dX10_isBefore_28 : decode cX10_isBefore 28 = .ok (.goto 4, 3) := by decide +kernel
theorem dX10_isBefore_32 : decode cX10_isBefore 32 = .ok (.ireturn, 1) := by decide +kernel
theorem dX10_isBefore_18 : decode cX10_isBefore 18 = .ok (.iload_n 3, 1) := by decide +kernel
theorem dX10_isBefore_19 : decode cX10_isBefore 19 = .ok (.ifCond .ne 12, 3) := by decide +kernel
theorem dX10_isBefore_31 : decode cX10_isBefore 31 = .ok (.iconst 0, 1) := by decide +kernel
theorem dX10_isBefore_22 : decode cX10_isBefore 22 = .ok (.iload_n 1, 1) := by decide +kernel
theorem dX10_isBefore_23 : decode cX10_isBefore 23 = .ok (.iload_n 2, 1) := by decide +kernel
theorem dX10_isBefore_24 : decode cX10_isBefore 24 = .ok (.if_icmp .ge 7, 3) := by decide +kernel
abbrev mX10_inOrder : zM := (yX10_inOrder, cX10_inOrder, 5, (some .int), [])
theorem okX10_inOrder : zMok mX10_inOrder 1 := ⟨by decide, by decide, by decide +kernel⟩
theorem dX10_inOrder_0 : decode cX10_inOrder 0 = .ok (.iconst 0, 1) := by decide +kernel
theorem dX10_inOrder_1 : decode cX10_inOrder 1 = .ok (.istore_n 2, 1) := by decide +kernel
theorem dX10_inOrder_2 : decode cX10_inOrder 2 = .ok (.iload_n 2, 1) := by decide +kernel
theorem dX10_inOrder_3 : decode cX10_inOrder 3 = .ok (.aload_n 0, 1) := by decide +kernel
theorem dX10_inOrder_4 : decode cX10_inOrder 4 = .ok (.getfield 7, 3) := by decide +kernel
theorem dX10_inOrder_7 : decode cX10_inOrder 7 = .ok (.iconst 3, 1) := by decide +kernel
theorem dX10_inOrder_8 : decode cX10_inOrder 8 = .ok (.iaload, 1) := by decide +kernel
theorem dX10_inOrder_9 : decode cX10_inOrder 9 = .ok (.if_icmp .ge 51, 3) := by decide +kernel
theorem dX10_inOrder_60 : decode cX10_inOrder 60 = .ok (.iconst (-1), 1) := by decide +kernel
theorem dX10_inOrder_61 : decode cX10_inOrder 61 = .ok (.ireturn, 1) := by decide +kernel
theorem dX10_inOrder_12 : decode cX10_inOrder 12 = .ok (.iconst 0, 1) := by decide +kernel
theorem dX10_inOrder_13 : decode cX10_inOrder 13 = .ok (.istore_n 3, 1) := by decide +kernel
theorem dX10_inOrder_14 : decode cX10_inOrder 14 = .ok (.iconst 0, 1) := by decide +kernel
theorem dX10_inOrder_15 : decode cX10_inOrder 15 = .ok (.istore 4, 2) := by decide +kernel
theorem dX10_inOrder_17 : decode cX10_inOrder 17 = .ok (.iload 4, 2) := by decide +kernel
theorem dX10_inOrder_19 : decode cX10_inOrder 19 = .ok (.aload_n 0, 1) := by decide +kernel
theorem dX10_inOrder_20 : decode cX10_inOrder 20 = .ok (.getfield 7, 3) := by decide +kernel
theorem dX10_inOrder_23 : decode cX10_inOrder 23 = .ok (.iconst 3, 1) := by decide +kernel
theorem dX10_inOrder_24 : decode cX10_inOrder 24 = .ok (.iaload, 1) := by decide +kernel
theorem dX10_inOrder_25 : decode cX10_inOrder 25 = .ok (.if_icmp .ge 22, 3) := by decide +kernel
theorem dX10_inOrder_47 : decode cX10_inOrder 47 = .ok (.iload_n 3, 1) := by decide +kernel
theorem dX10_inOrder_48 : decode cX10_inOrder 48 = .ok (.iload_n 1, 1) := by decide +kernel
theorem dX10_inOrder_49 : decode cX10_inOrder 49 = .ok (.if_icmp .ne 5, 3) := by decide +kernel
theorem dX10_inOrder_54 : decode cX10_inOrder 54 = .ok (.iinc 2 1, 3) := by decide +kernel
theorem dX10_inOrder_57 : decode cX10_inOrder 57 = .ok (.goto (-55), 3) := by decide +kernel
theorem dX10_inOrder_52 : decode cX10_inOrder 52 = .ok (.iload_n 2, 1) := by decide +kernel
theorem dX10_inOrder_53 : decode cX10_inOrder 53 = .ok (.ireturn, 1) := by decide +kernel
theorem dX10_inOrder_28 : decode cX10_inOrder 28 = .ok (.iload_n 3, 1) := by decide +kernel
theorem dX10_inOrder_29 : decode cX10_inOrder 29 = .ok (.aload_n 0, 1) := by decide +kernel
theorem dX10_inOrder_30 : decode cX10_inOrder 30 = .ok (.iload 4, 2) := by decide +kernel
theorem dX10_inOrder_32 : decode cX10_inOrder 32 = .ok (.iload_n 2, 1) := by decide +kernel
theorem dX10_inOrder_33 : decode cX10_inOrder 33 = .ok (.invokevirtual 169, 3) := by decide +kernel
theorem cw_RX10_169 : zCwV RX10 169 mX10_isBefore := zall [1816, 1818, 64, 128, 1819] (by decide +kernel) (by decide +kernel)
theorem dX10_inOrder_36 : decode cX10_inOrder 36 = .ok (.invokestatic 94, 3) := by decide +kernel
theorem dX10_inOrder_39 : decode cX10_inOrder 39 = .ok (.iadd, 1) := by decide +kernel
theorem dX10_inOrder_40 : decode cX10_inOrder 40 = .ok (.istore_n 3, 1) := by decide +kernel
theorem dX10_inOrder_41 : decode cX10_inOrder 41 = .ok (.iinc 4 1, 3) := by decide +kernel
theorem dX10_inOrder_44 : decode cX10_inOrder 44 = .ok (.goto (-27), 3) := by decide +kernel
abbrev mX10_byRank : zM := (yX10_byRank, cX10_byRank, 2, (some .int), [])
theorem okX10_byRank : zMok mX10_byRank 1 := ⟨by decide, by decide, by decide +kernel⟩
theorem dX10_byRank_0 : decode cX10_byRank 0 = .ok (.aload_n 0, 1) := by decide +kernel
theorem dX10_byRank_1 : decode cX10_byRank 1 = .ok (.invokevirtual 151, 3) := by decide +kernel
theorem cw_RX10_151 : zCwV RX10 151 mX10_laysScores := zall [1844, 1846, 71, 128, 1847] (by decide +kernel) (by decide +kernel)
theorem dX10_byRank_4 : decode cX10_byRank 4 = .ok (.aload_n 0, 1) := by decide +kernel
theorem dX10_byRank_5 : decode cX10_byRank 5 = .ok (.iload_n 1, 1) := by decide +kernel
theorem dX10_byRank_6 : decode cX10_byRank 6 = .ok (.invokevirtual 154, 3) := by decide +kernel
theorem cw_RX10_154 : zCwV RX10 154 mX10_atRank := zall [1891, 1893, 82, 128, 1894] (by decide +kernel) (by decide +kernel)
theorem dX10_byRank_9 : decode cX10_byRank 9 = .ok (.ireturn, 1) := by decide +kernel
abbrev mX10_verdict : zM := (yX10_verdict, cX10_verdict, 1, (some .int), [])
theorem okX10_verdict : zMok mX10_verdict 0 := ⟨by decide, by decide, by decide +kernel⟩
theorem dX10_verdict_0 : decode cX10_verdict 0 = .ok (.aload_n 0, 1) := by decide +kernel
theorem dX10_verdict_1 : decode cX10_verdict 1 = .ok (.iconst 0, 1) := by decide +kernel
theorem dX10_verdict_2 : decode cX10_verdict 2 = .ok (.invokevirtual 157, 3) := by decide +kernel
theorem cw_RX10_157 : zCwV RX10 157 mX10_byRank := zall [1840, 1842, 70, 128, 1843] (by decide +kernel) (by decide +kernel)
theorem dX10_verdict_5 : decode cX10_verdict 5 = .ok (.ireturn, 1) := by decide +kernel
abbrev mX10_yearOfVerdict : zM := (yX10_yearOfVerdict, cX10_yearOfVerdict, 1, (some .int), [])
theorem okX10_yearOfVerdict : zMok mX10_yearOfVerdict 0 := ⟨by decide, by decide, by decide +kernel⟩
theorem dX10_yearOfVerdict_0 : decode cX10_yearOfVerdict 0 = .ok (.aload_n 0, 1) := by decide +kernel
theorem dX10_yearOfVerdict_1 : decode cX10_yearOfVerdict 1 = .ok (.aload_n 0, 1) := by decide +kernel
theorem dX10_yearOfVerdict_2 : decode cX10_yearOfVerdict 2 = .ok (.invokevirtual 160, 3) := by decide +kernel
theorem cw_RX10_160 : zCwV RX10 160 mX10_verdict := zall [1836, 1838, 69, 128, 1839] (by decide +kernel) (by decide +kernel)
theorem dX10_yearOfVerdict_5 : decode cX10_yearOfVerdict 5 = .ok (.putfield 163, 3) := by decide +kernel
theorem fl_RX10_163 : zFl RX10 163 10 13 := ⟨RX10, TX10, 28, rfl, by decide, zmem1 1666 (by decide +kernel) rfl, rfl⟩
theorem fp_10_13 : zFi 10 13 "I" := ⟨RX10, TX10, 28, rfl, rfl, rfl⟩
theorem dX10_yearOfVerdict_8 : decode cX10_yearOfVerdict 8 = .ok (.aload_n 0, 1) := by decide +kernel
theorem dX10_yearOfVerdict_9 : decode cX10_yearOfVerdict 9 = .ok (.aload_n 0, 1) := by decide +kernel
theorem dX10_yearOfVerdict_10 : decode cX10_yearOfVerdict 10 = .ok (.getfield 163, 3) := by decide +kernel
theorem dX10_yearOfVerdict_13 : decode cX10_yearOfVerdict 13 = .ok (.invokevirtual 142, 3) := by decide +kernel
theorem dX10_yearOfVerdict_16 : decode cX10_yearOfVerdict 16 = .ok (.aload_n 0, 1) := by decide +kernel
theorem dX10_yearOfVerdict_17 : decode cX10_yearOfVerdict 17 = .ok (.getfield 133, 3) := by decide +kernel
theorem dX10_yearOfVerdict_20 : decode cX10_yearOfVerdict 20 = .ok (.ireturn, 1) := by decide +kernel
abbrev mX10_scoreOfVerdict : zM := (yX10_scoreOfVerdict, cX10_scoreOfVerdict, 2, (some .int), [])
theorem okX10_scoreOfVerdict : zMok mX10_scoreOfVerdict 0 := ⟨by decide, by decide, by decide +kernel⟩
theorem dX10_scoreOfVerdict_0 : decode cX10_scoreOfVerdict 0 = .ok (.aload_n 0, 1) := by decide +kernel
theorem dX10_scoreOfVerdict_1 : decode cX10_scoreOfVerdict 1 = .ok (.invokevirtual 166, 3) := by decide +kernel
theorem cw_RX10_166 : zCwV RX10 166 mX10_yearOfVerdict := zall [1832, 1834, 68, 128, 1835] (by decide +kernel) (by decide +kernel)
theorem dX10_scoreOfVerdict_4 : decode cX10_scoreOfVerdict 4 = .ok (.istore_n 1, 1) := by decide +kernel
theorem dX10_scoreOfVerdict_5 : decode cX10_scoreOfVerdict 5 = .ok (.aload_n 0, 1) := by decide +kernel
theorem dX10_scoreOfVerdict_6 : decode cX10_scoreOfVerdict 6 = .ok (.getfield 136, 3) := by decide +kernel
theorem dX10_scoreOfVerdict_9 : decode cX10_scoreOfVerdict 9 = .ok (.ireturn, 1) := by decide +kernel
abbrev mX10_isOpen : zM := (yX10_isOpen, cX10_isOpen, 3, (some .boolean), [])
theorem okX10_isOpen : zMok mX10_isOpen 2 := ⟨by decide, by decide, by decide +kernel⟩
theorem dX10_isOpen_0 : decode cX10_isOpen 0 = .ok (.aload_n 0, 1) := by decide +kernel
theorem dX10_isOpen_1 : decode cX10_isOpen 1 = .ok (.iload_n 1, 1) := by decide +kernel
theorem dX10_isOpen_2 : decode cX10_isOpen 2 = .ok (.invokevirtual 121, 3) := by decide +kernel
theorem dX10_isOpen_5 : decode cX10_isOpen 5 = .ok (.ifCond .eq 20, 3) := by decide +kernel
theorem dX10_isOpen_25 : decode cX10_isOpen 25 = .ok (.iconst 0, 1) := by decide +kernel
theorem dX10_isOpen_26 : decode cX10_isOpen 26 = .ok (.ireturn, 1) := by decide +kernel
theorem dX10_isOpen_8 : decode cX10_isOpen 8 = .ok (.aload_n 0, 1) := by decide +kernel
theorem dX10_isOpen_9 : decode cX10_isOpen 9 = .ok (.iload_n 1, 1) := by decide +kernel
theorem dX10_isOpen_10 : decode cX10_isOpen 10 = .ok (.aload_n 0, 1) := by decide +kernel
theorem dX10_isOpen_11 : decode cX10_isOpen 11 = .ok (.getfield 163, 3) := by decide +kernel
theorem dX10_isOpen_14 : decode cX10_isOpen 14 = .ok (.iload_n 2, 1) := by decide +kernel
theorem dX10_isOpen_15 : decode cX10_isOpen 15 = .ok (.invokevirtual 125, 3) := by decide +kernel
theorem dX10_isOpen_18 : decode cX10_isOpen 18 = .ok (.ifCond .ne 7, 3) := by decide +kernel
theorem dX10_isOpen_21 : decode cX10_isOpen 21 = .ok (.iconst 1, 1) := by decide +kernel
theorem dX10_isOpen_22 : decode cX10_isOpen 22 = .ok (.goto 4, 3) := by decide +kernel
abbrev mX10_openMany : zM := (yX10_openMany, cX10_openMany, 4, (some .int), [])
theorem okX10_openMany : zMok mX10_openMany 1 := ⟨by decide, by decide, by decide +kernel⟩
theorem dX10_openMany_0 : decode cX10_openMany 0 = .ok (.iconst 0, 1) := by decide +kernel
theorem dX10_openMany_1 : decode cX10_openMany 1 = .ok (.istore_n 2, 1) := by decide +kernel
theorem dX10_openMany_2 : decode cX10_openMany 2 = .ok (.iconst 0, 1) := by decide +kernel
theorem dX10_openMany_3 : decode cX10_openMany 3 = .ok (.istore_n 3, 1) := by decide +kernel
theorem dX10_openMany_4 : decode cX10_openMany 4 = .ok (.iload_n 3, 1) := by decide +kernel
theorem dX10_openMany_5 : decode cX10_openMany 5 = .ok (.aload_n 0, 1) := by decide +kernel
theorem dX10_openMany_6 : decode cX10_openMany 6 = .ok (.getfield 7, 3) := by decide +kernel
theorem dX10_openMany_9 : decode cX10_openMany 9 = .ok (.iconst 3, 1) := by decide +kernel
theorem dX10_openMany_10 : decode cX10_openMany 10 = .ok (.iaload, 1) := by decide +kernel
theorem dX10_openMany_11 : decode cX10_openMany 11 = .ok (.if_icmp .ge 21, 3) := by decide +kernel
theorem dX10_openMany_32 : decode cX10_openMany 32 = .ok (.iload_n 2, 1) := by decide +kernel
theorem dX10_openMany_33 : decode cX10_openMany 33 = .ok (.ireturn, 1) := by decide +kernel
theorem dX10_openMany_14 : decode cX10_openMany 14 = .ok (.iload_n 2, 1) := by decide +kernel
theorem dX10_openMany_15 : decode cX10_openMany 15 = .ok (.aload_n 0, 1) := by decide +kernel
theorem dX10_openMany_16 : decode cX10_openMany 16 = .ok (.iload_n 3, 1) := by decide +kernel
theorem dX10_openMany_17 : decode cX10_openMany 17 = .ok (.iload_n 1, 1) := by decide +kernel
theorem dX10_openMany_18 : decode cX10_openMany 18 = .ok (.invokevirtual 178, 3) := by decide +kernel
theorem cw_RX10_178 : zCwV RX10 178 mX10_isOpen := zall [2080, 2082, 97, 128, 2083] (by decide +kernel) (by decide +kernel)
theorem dX10_openMany_21 : decode cX10_openMany 21 = .ok (.invokestatic 94, 3) := by decide +kernel
theorem dX10_openMany_24 : decode cX10_openMany 24 = .ok (.iadd, 1) := by decide +kernel
theorem dX10_openMany_25 : decode cX10_openMany 25 = .ok (.istore_n 2, 1) := by decide +kernel
theorem dX10_openMany_26 : decode cX10_openMany 26 = .ok (.iinc 3 1, 3) := by decide +kernel
theorem dX10_openMany_29 : decode cX10_openMany 29 = .ok (.goto (-25), 3) := by decide +kernel
abbrev mX10_openWeight : zM := (yX10_openWeight, cX10_openWeight, 4, (some .int), [])
theorem okX10_openWeight : zMok mX10_openWeight 1 := ⟨by decide, by decide, by decide +kernel⟩
theorem dX10_openWeight_0 : decode cX10_openWeight 0 = .ok (.iconst 0, 1) := by decide +kernel
theorem dX10_openWeight_1 : decode cX10_openWeight 1 = .ok (.istore_n 2, 1) := by decide +kernel
theorem dX10_openWeight_2 : decode cX10_openWeight 2 = .ok (.iconst 0, 1) := by decide +kernel
theorem dX10_openWeight_3 : decode cX10_openWeight 3 = .ok (.istore_n 3, 1) := by decide +kernel
theorem dX10_openWeight_4 : decode cX10_openWeight 4 = .ok (.iload_n 3, 1) := by decide +kernel
theorem dX10_openWeight_5 : decode cX10_openWeight 5 = .ok (.aload_n 0, 1) := by decide +kernel
theorem dX10_openWeight_6 : decode cX10_openWeight 6 = .ok (.getfield 7, 3) := by decide +kernel
theorem dX10_openWeight_9 : decode cX10_openWeight 9 = .ok (.iconst 3, 1) := by decide +kernel
theorem dX10_openWeight_10 : decode cX10_openWeight 10 = .ok (.iaload, 1) := by decide +kernel
theorem dX10_openWeight_11 : decode cX10_openWeight 11 = .ok (.if_icmp .ge 31, 3) := by decide +kernel
theorem dX10_openWeight_42 : decode cX10_openWeight 42 = .ok (.iload_n 2, 1) := by decide +kernel
theorem dX10_openWeight_43 : decode cX10_openWeight 43 = .ok (.ireturn, 1) := by decide +kernel
theorem dX10_openWeight_14 : decode cX10_openWeight 14 = .ok (.iload_n 2, 1) := by decide +kernel
theorem dX10_openWeight_15 : decode cX10_openWeight 15 = .ok (.aload_n 0, 1) := by decide +kernel
theorem dX10_openWeight_16 : decode cX10_openWeight 16 = .ok (.iload_n 3, 1) := by decide +kernel
theorem dX10_openWeight_17 : decode cX10_openWeight 17 = .ok (.iload_n 1, 1) := by decide +kernel
theorem dX10_openWeight_18 : decode cX10_openWeight 18 = .ok (.invokevirtual 178, 3) := by decide +kernel
theorem dX10_openWeight_21 : decode cX10_openWeight 21 = .ok (.ifCond .eq 12, 3) := by decide +kernel
theorem dX10_openWeight_33 : decode cX10_openWeight 33 = .ok (.iconst 0, 1) := by decide +kernel
theorem dX10_openWeight_34 : decode cX10_openWeight 34 = .ok (.iadd, 1) := by decide +kernel
theorem dX10_openWeight_35 : decode cX10_openWeight 35 = .ok (.istore_n 2, 1) := by decide +kernel
theorem dX10_openWeight_36 : decode cX10_openWeight 36 = .ok (.iinc 3 1, 3) := by decide +kernel
theorem dX10_openWeight_39 : decode cX10_openWeight 39 = .ok (.goto (-35), 3) := by decide +kernel
theorem dX10_openWeight_24 : decode cX10_openWeight 24 = .ok (.aload_n 0, 1) := by decide +kernel
theorem dX10_openWeight_25 : decode cX10_openWeight 25 = .ok (.iload_n 3, 1) := by decide +kernel
theorem dX10_openWeight_26 : decode cX10_openWeight 26 = .ok (.iconst 3, 1) := by decide +kernel
theorem dX10_openWeight_27 : decode cX10_openWeight 27 = .ok (.invokevirtual 102, 3) := by decide +kernel
theorem dX10_openWeight_30 : decode cX10_openWeight 30 = .ok (.goto 4, 3) := by decide +kernel
abbrev mX10_isBoth : zM := (yX10_isBoth, cX10_isBoth, 6, (some .boolean), [])
theorem okX10_isBoth : zMok mX10_isBoth 3 := ⟨by decide, by decide, by decide +kernel⟩
theorem dX10_isBoth_0 : decode cX10_isBoth 0 = .ok (.aload_n 0, 1) := by decide +kernel
theorem dX10_isBoth_1 : decode cX10_isBoth 1 = .ok (.iload_n 3, 1) := by decide +kernel
theorem dX10_isBoth_2 : decode cX10_isBoth 2 = .ok (.bipush 8, 2) := by decide +kernel
theorem dX10_isBoth_4 : decode cX10_isBoth 4 = .ok (.invokevirtual 82, 3) := by decide +kernel
theorem dX10_isBoth_7 : decode cX10_isBoth 7 = .ok (.aload_n 0, 1) := by decide +kernel
theorem dX10_isBoth_8 : decode cX10_isBoth 8 = .ok (.iload_n 1, 1) := by decide +kernel
theorem dX10_isBoth_9 : decode cX10_isBoth 9 = .ok (.invokevirtual 114, 3) := by decide +kernel
theorem dX10_isBoth_12 : decode cX10_isBoth 12 = .ok (.aload_n 0, 1) := by decide +kernel
theorem dX10_isBoth_13 : decode cX10_isBoth 13 = .ok (.iload_n 2, 1) := by decide +kernel
theorem dX10_isBoth_14 : decode cX10_isBoth 14 = .ok (.invokevirtual 114, 3) := by decide +kernel
theorem dX10_isBoth_17 : decode cX10_isBoth 17 = .ok (.invokestatic 181, 3) := by decide +kernel
theorem mw_RX10_181 : ∀ x ∈ ([.methodLink RX10 181 Lib.Math.max.name, .static Lib.Math.max.name, .initialized "java/lang/Math", .code Lib.Math.max.name Lib.Math.max.code 2 (some .int)] : List Cond), x ∈ zgood := zall [2109, 808, 134, 809] (by decide +kernel) (by decide +kernel)
theorem dX10_isBoth_20 : decode cX10_isBoth 20 = .ok (.invokestatic 181, 3) := by decide +kernel
theorem dX10_isBoth_23 : decode cX10_isBoth 23 = .ok (.istore 4, 2) := by decide +kernel
theorem dX10_isBoth_25 : decode cX10_isBoth 25 = .ok (.aload_n 0, 1) := by decide +kernel
theorem dX10_isBoth_26 : decode cX10_isBoth 26 = .ok (.iload_n 3, 1) := by decide +kernel
theorem dX10_isBoth_27 : decode cX10_isBoth 27 = .ok (.bipush 9, 2) := by decide +kernel
theorem dX10_isBoth_29 : decode cX10_isBoth 29 = .ok (.invokevirtual 82, 3) := by decide +kernel
theorem dX10_isBoth_32 : decode cX10_isBoth 32 = .ok (.aload_n 0, 1) := by decide +kernel
theorem dX10_isBoth_33 : decode cX10_isBoth 33 = .ok (.iload_n 1, 1) := by decide +kernel
theorem dX10_isBoth_34 : decode cX10_isBoth 34 = .ok (.invokevirtual 118, 3) := by decide +kernel
theorem dX10_isBoth_37 : decode cX10_isBoth 37 = .ok (.aload_n 0, 1) := by decide +kernel
theorem dX10_isBoth_38 : decode cX10_isBoth 38 = .ok (.iload_n 2, 1) := by decide +kernel
theorem dX10_isBoth_39 : decode cX10_isBoth 39 = .ok (.invokevirtual 118, 3) := by decide +kernel
theorem dX10_isBoth_42 : decode cX10_isBoth 42 = .ok (.invokestatic 186, 3) := by decide +kernel
theorem mw_RX10_186 : ∀ x ∈ ([.methodLink RX10 186 Lib.Math.min.name, .static Lib.Math.min.name, .initialized "java/lang/Math", .code Lib.Math.min.name Lib.Math.min.code 2 (some .int)] : List Cond), x ∈ zgood := zall [2110, 805, 134, 806] (by decide +kernel) (by decide +kernel)
theorem dX10_isBoth_45 : decode cX10_isBoth 45 = .ok (.invokestatic 186, 3) := by decide +kernel
theorem dX10_isBoth_48 : decode cX10_isBoth 48 = .ok (.istore 5, 2) := by decide +kernel
theorem dX10_isBoth_50 : decode cX10_isBoth 50 = .ok (.aload_n 0, 1) := by decide +kernel
theorem dX10_isBoth_51 : decode cX10_isBoth 51 = .ok (.iload_n 1, 1) := by decide +kernel
theorem dX10_isBoth_52 : decode cX10_isBoth 52 = .ok (.iload_n 3, 1) := by decide +kernel
theorem dX10_isBoth_53 : decode cX10_isBoth 53 = .ok (.invokevirtual 111, 3) := by decide +kernel
theorem dX10_isBoth_56 : decode cX10_isBoth 56 = .ok (.ifCond .eq 23, 3) := by decide +kernel
theorem dX10_isBoth_79 : decode cX10_isBoth 79 = .ok (.iconst 0, 1) := by decide +kernel
theorem dX10_isBoth_80 : decode cX10_isBoth 80 = .ok (.ireturn, 1) := by decide +kernel
theorem dX10_isBoth_59 : decode cX10_isBoth 59 = .ok (.aload_n 0, 1) := by decide +kernel
theorem dX10_isBoth_60 : decode cX10_isBoth 60 = .ok (.iload_n 2, 1) := by decide +kernel
theorem dX10_isBoth_61 : decode cX10_isBoth 61 = .ok (.iload_n 3, 1) := by decide +kernel
theorem dX10_isBoth_62 : decode cX10_isBoth 62 = .ok (.invokevirtual 111, 3) := by decide +kernel
theorem dX10_isBoth_65 : decode cX10_isBoth 65 = .ok (.ifCond .eq 14, 3) := by decide +kernel
theorem dX10_isBoth_68 : decode cX10_isBoth 68 = .ok (.iload 4, 2) := by decide +kernel
theorem dX10_isBoth_70 : decode cX10_isBoth 70 = .ok (.iload 5, 2) := by decide +kernel
theorem dX10_isBoth_72 : decode cX10_isBoth 72 = .ok (.if_icmp .gt 7, 3) := by decide +kernel
theorem dX10_isBoth_75 : decode cX10_isBoth 75 = .ok (.iconst 1, 1) := by decide +kernel
theorem dX10_isBoth_76 : decode cX10_isBoth 76 = .ok (.goto 4, 3) := by decide +kernel
abbrev mX10_areTogether : zM := (yX10_areTogether, cX10_areTogether, 4, (some .boolean), [])
theorem okX10_areTogether : zMok mX10_areTogether 2 := ⟨by decide, by decide, by decide +kernel⟩
theorem dX10_areTogether_0 : decode cX10_areTogether 0 = .ok (.iconst 0, 1) := by decide +kernel
theorem dX10_areTogether_1 : decode cX10_areTogether 1 = .ok (.istore_n 3, 1) := by decide +kernel
theorem dX10_areTogether_2 : decode cX10_areTogether 2 = .ok (.iload_n 3, 1) := by decide +kernel
theorem dX10_areTogether_3 : decode cX10_areTogether 3 = .ok (.aload_n 0, 1) := by decide +kernel
theorem dX10_areTogether_4 : decode cX10_areTogether 4 = .ok (.getfield 7, 3) := by decide +kernel
theorem dX10_areTogether_7 : decode cX10_areTogether 7 = .ok (.iconst 0, 1) := by decide +kernel
theorem dX10_areTogether_8 : decode cX10_areTogether 8 = .ok (.iaload, 1) := by decide +kernel
theorem dX10_areTogether_9 : decode cX10_areTogether 9 = .ok (.if_icmp .ge 21, 3) := by decide +kernel
theorem dX10_areTogether_30 : decode cX10_areTogether 30 = .ok (.iconst 0, 1) := by decide +kernel
theorem dX10_areTogether_31 : decode cX10_areTogether 31 = .ok (.ireturn, 1) := by decide +kernel
theorem dX10_areTogether_12 : decode cX10_areTogether 12 = .ok (.aload_n 0, 1) := by decide +kernel
theorem dX10_areTogether_13 : decode cX10_areTogether 13 = .ok (.iload_n 1, 1) := by decide +kernel
theorem dX10_areTogether_14 : decode cX10_areTogether 14 = .ok (.iload_n 2, 1) := by decide +kernel
theorem dX10_areTogether_15 : decode cX10_areTogether 15 = .ok (.iload_n 3, 1) := by decide +kernel
theorem dX10_areTogether_16 : decode cX10_areTogether 16 = .ok (.invokevirtual 189, 3) := by decide +kernel
theorem cw_RX10_189 : zCwV RX10 189 mX10_isBoth := zall [2105, 2107, 100, 128, 2108] (by decide +kernel) (by decide +kernel)
theorem dX10_areTogether_19 : decode cX10_areTogether 19 = .ok (.ifCond .eq 5, 3) := by decide +kernel
theorem dX10_areTogether_24 : decode cX10_areTogether 24 = .ok (.iinc 3 1, 3) := by decide +kernel
theorem dX10_areTogether_27 : decode cX10_areTogether 27 = .ok (.goto (-25), 3) := by decide +kernel
theorem dX10_areTogether_22 : decode cX10_areTogether 22 = .ok (.iconst 1, 1) := by decide +kernel
theorem dX10_areTogether_23 : decode cX10_areTogether 23 = .ok (.ireturn, 1) := by decide +kernel
abbrev mX10_areAgainst : zM := (yX10_areAgainst, cX10_areAgainst, 3, (some .boolean), [])
theorem okX10_areAgainst : zMok mX10_areAgainst 2 := ⟨by decide, by decide, by decide +kernel⟩
theorem dX10_areAgainst_0 : decode cX10_areAgainst 0 = .ok (.iload_n 1, 1) := by decide +kernel
theorem dX10_areAgainst_1 : decode cX10_areAgainst 1 = .ok (.iload_n 2, 1) := by decide +kernel
theorem dX10_areAgainst_2 : decode cX10_areAgainst 2 = .ok (.if_icmp .eq 16, 3) := by decide +kernel
theorem dX10_areAgainst_18 : decode cX10_areAgainst 18 = .ok (.iconst 0, 1) := by decide +kernel
theorem dX10_areAgainst_19 : decode cX10_areAgainst 19 = .ok (.ireturn, 1) := by decide +kernel
theorem dX10_areAgainst_5 : decode cX10_areAgainst 5 = .ok (.aload_n 0, 1) := by decide +kernel
theorem dX10_areAgainst_6 : decode cX10_areAgainst 6 = .ok (.iload_n 1, 1) := by decide +kernel
theorem dX10_areAgainst_7 : decode cX10_areAgainst 7 = .ok (.iload_n 2, 1) := by decide +kernel
theorem dX10_areAgainst_8 : decode cX10_areAgainst 8 = .ok (.invokevirtual 192, 3) := by decide +kernel
theorem cw_RX10_192 : zCwV RX10 192 mX10_areTogether := zall [2101, 2103, 99, 128, 2104] (by decide +kernel) (by decide +kernel)
theorem dX10_areAgainst_11 : decode cX10_areAgainst 11 = .ok (.ifCond .ne 7, 3) := by decide +kernel
theorem dX10_areAgainst_14 : decode cX10_areAgainst 14 = .ok (.iconst 1, 1) := by decide +kernel
theorem dX10_areAgainst_15 : decode cX10_areAgainst 15 = .ok (.goto 4, 3) := by decide +kernel

theorem Rel_put {D : zBk} {σ : zS} {q i : Nat} {v : Int} (hq : q ≠ 262) (h : Rel D (σ.1 262)) : Rel D ((zput σ q i v).1 262) := by
  have e : (zput σ q i v).1 262 = σ.1 262 := funext (fun j => zput_k _ _ _ _ _ (fun z => hq z.symm))
  rw [e]; exact h
def mfr (σ τ : zS) (A F : Nat → Prop) : Prop := (∀ k, ¬ A k → k ≠ 261 → ∀ i, τ.1 k i = σ.1 k i) ∧ (∀ i, ¬ F i → τ.1 261 i = σ.1 261 i) ∧ τ.2 = σ.2
theorem mfr_tr {σ τ υ : zS} {A A' A'' F F' F'' : Nat → Prop} (h : mfr σ τ A F) (h' : mfr τ υ A' F') (ha : ∀ k, A k ∨ A' k → A'' k) (hf : ∀ k, F k ∨ F' k → F'' k) : mfr σ υ A'' F'' :=
  ⟨fun k hk h2 i => (h'.1 k (fun q => hk (ha k (Or.inr q))) h2 i).trans (h.1 k (fun q => hk (ha k (Or.inl q))) h2 i), fun i hi => (h'.2.1 i (fun q => hi (hf i (Or.inr q)))).trans (h.2.1 i (fun q => hi (hf i (Or.inl q)))), h'.2.2.trans h.2.2⟩
theorem mfr_mo {σ τ : zS} {A A' F F' : Nat → Prop} (h : mfr σ τ A F) (ha : ∀ k, A k → A' k) (hf : ∀ k, F k → F' k) : mfr σ τ A' F' := ⟨fun k hk => h.1 k (fun q => hk (ha k q)), fun i hi => h.2.1 i (fun q => hi (hf i q)), h.2.2⟩
theorem mfr_rf (σ : zS) (A F : Nat → Prop) : mfr σ σ A F := ⟨fun _ _ _ _ => rfl, fun _ _ => rfl, rfl⟩
theorem mfr_R {D : zBk} {σ τ : zS} {A F : Nat → Prop} (h : mfr σ τ A F) (h0 : ¬ A 262) (hR : Rel D (σ.1 262)) : Rel D (τ.1 262) := by
  rw [show τ.1 262 = σ.1 262 from funext (h.1 262 h0 (by decide))]; exact hR
noncomputable def mL (D : zBk) (c : Nat) : Nat := (lYr D c + 1 - 1450).toNat
theorem mw_ok {D : zBk} {c : Nat} (h : (1450 ≤ eYr D c ∧ eYr D c ≤ 1999) ∧ (1450 ≤ lYr D c ∧ lYr D c ≤ 2002) ∧ eYr D c ≤ lYr D c) : rE D c < 550 ∧ mL D c < 560 ∧ rE D c < mL D c := by
  unfold rE mL; omega
theorem ms_sc {D : zBk} (w : WF D) (p j : Nat) (hj : j < 550) : zs (fun r => zs (fun d => zif (Ht D d ∧ pFit D p d) (dlt (rE D) (mL D) (D 16) d r)) (D 12 0).toNat) (j + 1) = sc D (Ht D) p j := by
  rw [zs_diff _ _ _ _ _ _ (fun d hd _ => by have := mw_ok (WF_y w (c := d) (by omega)); omega)]
  unfold sc cFit
  refine zs_congr (fun d hd => zif_c ?_)
  have hY := WF_y w (c := d) (by omega)
  unfold rE mL
  constructor
  · rintro ⟨⟨q1, q2⟩, q3⟩; exact ⟨q1, q2, by omega⟩
  · rintro ⟨q1, q2, q3⟩; exact ⟨⟨q1, q2⟩, by omega⟩
theorem fb0 (f : Nat → Int) (a : Nat) : yTop f a 1 = a ∧ yCnt f a 1 = 1 := by
  rw [yTop_s, yCnt_s]
  show (if f a < f (a + 0) then a + 0 else a) = a ∧ (if f a < f (a + 0) then 1 else if f (a + 0) = f a then yCnt f a 0 + 1 else yCnt f a 0) = 1
  rw [Nat.add_zero, if_neg (by omega), if_neg (by omega), if_pos rfl]
  exact ⟨rfl, rfl⟩
theorem fb_up {f : Nat → Int} {a n : Nat} (h : f (yTop f a n) < f (a + n)) : yTop f a (n + 1) = a + n ∧ yCnt f a (n + 1) = 1 := by
  rw [yTop_s, yCnt_s, if_pos h, if_pos h]; exact ⟨rfl, rfl⟩
theorem fb_eq {f : Nat → Int} {a n : Nat} (h : ¬ f (yTop f a n) < f (a + n)) (h2 : f (a + n) = f (yTop f a n)) : yTop f a (n + 1) = yTop f a n ∧ yCnt f a (n + 1) = yCnt f a n + 1 := by
  rw [yTop_s, yCnt_s, if_neg h, if_neg h, if_pos h2]; exact ⟨rfl, rfl⟩
theorem fb_no {f : Nat → Int} {a n : Nat} (h : ¬ f (yTop f a n) < f (a + n)) (h2 : ¬ f (a + n) = f (yTop f a n)) : yTop f a (n + 1) = yTop f a n ∧ yCnt f a (n + 1) = yCnt f a n := by
  rw [yTop_s, yCnt_s, if_neg h, if_neg h, if_neg h2]; exact ⟨rfl, rfl⟩
theorem mfr_put {σ τ : zS} {A F : Nat → Prop} {q i : Nat} {v : Int} (h : mfr σ τ A F) (hq : A q) (h2 : q ≠ 261) : mfr σ (zput τ q i v) A F :=
  ⟨fun k hk hk2 j => (zput_k _ _ _ _ _ (fun e => hk (by rw [e]; exact hq))).trans (h.1 k hk hk2 j), fun j hj => (zput_k _ _ _ _ _ (fun e => h2 e.symm)).trans (h.2.1 j hj), h.2.2⟩
theorem mfr_put261 {σ τ : zS} {A F : Nat → Prop} {i : Nat} {v : Int} (h : mfr σ τ A F) : mfr σ (zput τ 261 i v) A (fun j => F j ∨ j = i) :=
  ⟨fun k hk hk2 j => (zput_k _ _ _ _ _ hk2).trans (h.1 k hk hk2 j), fun j hj => (zput_i _ _ _ _ _ (fun e => hj (Or.inr e))).trans (h.2.1 j (fun q => hj (Or.inl q))), h.2.2⟩
theorem ordWF {D : zBk} (h : WFo D) (r : Int) : (if 0 ≤ r ∧ r < D 12 0 then D 19 r.toNat else -1) = atR (bef D) (D 12 0).toNat r := by
  have hk : ordOK (D 13) (D 19) (D 12 0).toNat := ⟨fun i hi => by have := h.1 i (by omega); omega, fun i j hij hj => h.2.1 i j hij (by omega), fun c hc => by
    obtain ⟨i, h1, h2⟩ := h.2.2 c (by omega)
    exact ⟨i, by omega, by omega⟩⟩
  by_cases e : 0 ≤ r ∧ r < D 12 0
  · rw [if_pos e]
    have e1 := ordOK_at hk (i := r.toNat) (by omega)
    have e2 := hk.1 r.toNat (by omega)
    rw [show ((r.toNat : Nat) : Int) = r by omega] at e1
    rw [show atR (bef D) (D 12 0).toNat r = _ from e1]
    omega
  · rw [if_neg e]
    exact (ordOK_no hk (by omega)).symm
/-- a row of printers is in order somehow: by inserting one after the other -/
theorem ord_ex (S : Nat → Int) : ∀ k, ∃ o, ordOK S o k
  | 0 => ⟨fun _ => 0, ordOK_0⟩
  | k + 1 => by
    obtain ⟨o, h⟩ := ord_ex S k
    obtain ⟨j, hj, h1, h2⟩ : ∃ j, j ≤ k ∧ (∀ i, j ≤ i → i < k → S (o i).toNat < S k) ∧ (0 < j → S k ≤ S (o (j - 1)).toNat) := by
      have key : ∀ m, m ≤ k → ∃ j, j ≤ k ∧ (∀ i, j ≤ i → i < k → S (o i).toNat < S k) ∧ (0 < j → S k ≤ S (o (j - 1)).toNat) ∨ ∀ i, k - m ≤ i → i < k → S (o i).toNat < S k := by
        intro m
        induction m with
        | zero => intro _; exact ⟨0, Or.inr (fun i h1 h2 => by omega)⟩
        | succ m ih =>
          intro hm
          obtain ⟨j, hh⟩ := ih (by omega)
          rcases hh with hh | hh
          · exact ⟨j, Or.inl hh⟩
          · by_cases e : S (o (k - (m + 1))).toNat < S k
            · refine ⟨0, Or.inr (fun i h1 h2 => ?_)⟩
              by_cases e2 : i = k - (m + 1)
              · rw [e2]; exact e
              · exact hh i (by omega) h2
            · exact ⟨k - m, Or.inl ⟨by omega, fun i h1 h2 => hh i h1 h2, fun _ => by rw [show k - m - 1 = k - (m + 1) by omega]; omega⟩⟩
      obtain ⟨j, hh⟩ := key k (Nat.le_refl k)
      rcases hh with hh | hh
      · exact ⟨j, hh⟩
      · exact ⟨0, Nat.zero_le _, fun i h1 h2 => hh i (by omega) h2, fun h => absurd h (Nat.lt_irrefl 0)⟩
    refine ⟨fun i => if i < j then o i else if i = j then (k : Int) else o (i - 1), ins_ok h hj (by simp) (fun i hi => by simp [hi]) (fun i hi hi2 => ⟨?_, h1 i hi hi2⟩) h2⟩
    rw [if_neg (by omega), if_neg (by omega)]
    rfl
theorem rk_ex (D : zBk) (H : Nat → Prop) : ∃ o, ordOK (tS D H) o (D 1 0).toNat := ord_ex _ _
theorem wP_b {D : zBk} {H : Nat → Prop} (w : WF D) (h1 : 1 ≤ D 1 0) : rkP D H 0 = wP D H ∧ (wP D H : Int) < D 1 0 := by
  obtain ⟨o, ho⟩ := rk_ex D H
  have e := ordOK_at ho (i := 0) (by omega)
  have r := ho.1 0 (by omega)
  have e2 : rkP D H 0 = ((o 0).toNat : Nat) := e
  unfold wP
  rw [e2]
  omega
theorem wP_e {D : zBk} {H : Nat → Prop} (w : WF D) (h1 : 1 ≤ D 1 0) : rkP D H 0 = wP D H := (wP_b w h1).1
theorem wP_l {D : zBk} {H : Nat → Prop} (w : WF D) (h1 : 1 ≤ D 1 0) : (wP D H : Int) < D 1 0 := (wP_b w h1).2

set_option maxRecDepth 20000 in
set_option maxHeartbeats 2000000 in
theorem sX10_laysSteps {l : Launch} {w : zW} (hfl : l.stackTraces = false) {σ : zS} {D : zBk} {p : Nat} (hz : zOK σ) (hW : WF D) (hR : Rel D (σ.1 262)) (hp : (p : Int) < D 1 0) : Sp l w mX10_laysSteps 4 0 [zf 10 261, zi ((p : Nat) : Int)] σ (zqv (none) (fun τ => zOK τ ∧ zSame (fun q => q = 267) σ τ ∧ ∀ j : Nat, j < 560 → τ.1 267 j = zs (fun d => zif (Ht D d ∧ pFit D p d) (dlt (rE D) (mL D) (D 16) d j)) (D 12 0).toNat)) := by
  obtain ⟨Q, hQ⟩ : ∃ Q : zQ, Q = (zqv (none) (fun τ => zOK τ ∧ zSame (fun q => q = 267) σ τ ∧ ∀ j : Nat, j < 560 → τ.1 267 j = zs (fun d => zif (Ht D d ∧ pFit D p d) (dlt (rE D) (mL D) (D 16) d j)) (D 12 0).toNat)) := ⟨_, rfl⟩
  rw [← hQ]
  refine zx_enter hfl (by decide) rfl 1 rfl ?_
  show zX l w mX10_laysSteps (zMQ w 4 0 Q) 0 [zf 10 261, zi ((p : Nat) : Int), zu] [] 0 σ
  have hP : 0 ≤ D 1 0 ∧ D 1 0 ≤ 8 := hW.1.1
  have hM : 0 ≤ D 1 7 ∧ D 1 7 ≤ 8 := hW.1.2.1
  have hE : 0 ≤ D 1 10 ∧ D 1 10 ≤ 12 := hW.1.2.2.1
  have hK : 0 ≤ D 12 0 ∧ D 12 0 ≤ 40 := hW.1.2.2.2
  have r0 : σ.1 262 0 = D 1 0 := hR.1.1
  have r1 : σ.1 262 1 = D 1 7 := hR.1.2.1
  have r2 : σ.1 262 2 = D 1 10 := hR.1.2.2.1
  have r3 : σ.1 262 3 = D 12 0 := hR.1.2.2.2
  have hz16 : ∀ c : Nat, (c : Int) < D 12 0 → zr (D 16 c) := fun c hc => by have := (hW.2.2.2.2.1 c hc).2.2.1; unfold zr; omega
  refine zx_iconst dX10_laysSteps_0 ?_
  refine zy_istoreN [zf 10 261, zi ((p : Nat) : Int), zi 0] dX10_laysSteps_1 rfl (Nat.le_of_ble_eq_true rfl) (Nat.le_of_ble_eq_true rfl) rfl rfl ?_
  have L2 : ∀ (N : Nat) (τ : zS) (i : Nat), (zOK τ) → (i ≤ 560) → (zSame (fun q => q = 267) σ τ) → (∀ j, j < i → τ.1 267 j = 0) → (561 - i) < N → zX l w mX10_laysSteps (zMQ w 4 0 Q) 2 [zf 10 261, zi ((p : Nat) : Int), zi ((i : Nat) : Int)] [] 0 τ := by
    intro N
    induction N with
    | zero => intro τ i _ _ _ _ _; exact absurd (by assumption) (Nat.not_lt_zero _)
    | succ N ih2 =>
      intro τ i hz hi h1 h2 hN
      refine zx_iloadN dX10_laysSteps_2 rfl rfl ?_
      refine zx_aloadN dX10_laysSteps_3 rfl rfl ?_
      refine zy_getR (q' := 267) fl_RX10_25 rfl dX10_laysSteps_4 rfl ?_
      refine zx_alen (kd := 0) (n := 560) rfl (by decide) (by decide) (by decide) dX10_laysSteps_7 ?_
      refine zx_icmp_ge (tgt := 24) (by first | exact hz _ _ | assumption | exact zr_b _ | exact zcmp_r _ _ | (unfold zr at *; omega)) (by first | exact hz _ _ | assumption | exact zr_b _ | exact zcmp_r _ _ | (unfold zr at *; omega)) dX10_laysSteps_8 (by decide) (fun h8 => ?_) (fun h8 => ?_)
      · refine zx_iconst dX10_laysSteps_24 ?_
        refine zy_istoreN [zf 10 261, zi ((p : Nat) : Int), zi 0] dX10_laysSteps_25 rfl (Nat.le_of_ble_eq_true rfl) (Nat.le_of_ble_eq_true rfl) rfl rfl ?_
        have L26 : ∀ (N : Nat) (υ : zS) (c : Nat), (zOK υ) → ((c : Int) ≤ D 12 0) → (zSame (fun q => q = 267) σ υ) → (∀ j : Nat, j < 560 → υ.1 267 j = zs (fun d => zif (Ht D d ∧ pFit D p d) (dlt (rE D) (mL D) (D 16) d j)) c) → (41 - c) < N → zX l w mX10_laysSteps (zMQ w 4 0 Q) 26 [zf 10 261, zi ((p : Nat) : Int), zi ((c : Nat) : Int)] [] 0 υ := by
          intro N
          induction N with
          | zero => intro υ c _ _ _ _ _; exact absurd (by assumption) (Nat.not_lt_zero _)
          | succ N ih26 =>
            intro υ c hz hc_ k1 k2 hN
            have c3 : υ.1 262 3 = σ.1 262 3 := k1.1 262 (by dsimp only; omega) 3
            have hRτ : Rel D (υ.1 262) := by rw [show υ.1 262 = σ.1 262 from funext (k1.1 262 (by dsimp only; omega))]; exact hR
            refine zx_iloadN dX10_laysSteps_26 rfl rfl ?_
            refine zx_aloadN dX10_laysSteps_27 rfl rfl ?_
            refine zy_getR (q' := 262) fl_RX10_7 rfl dX10_laysSteps_28 rfl ?_
            refine zx_iconst dX10_laysSteps_31 ?_
            refine zy_iald (v := υ.1 262 3) rfl (by decide) (by decide) dX10_laysSteps_32 (by omega) (by omega) rfl ?_
            refine zx_icmp_ge (tgt := 110) (by first | exact hz _ _ | assumption | exact zr_b _ | exact zcmp_r _ _ | (unfold zr at *; omega)) (by first | exact hz _ _ | assumption | exact zr_b _ | exact zcmp_r _ _ | (unfold zr at *; omega)) dX10_laysSteps_33 (by decide) (fun h33 => ?_) (fun h33 => ?_)
            · refine zx_vret rfl dX10_laysSteps_110 ?_
              rw [hQ]
              refine ⟨rfl, ?_⟩
              have e : c = (D 12 0).toNat := by omega
              exact ⟨hz, k1, fun j hj => by rw [← e]; exact k2 j hj⟩
            · have hc : (c : Int) < D 12 0 := by omega
              have hY := WF_y hW hc
              have hrw := mw_ok hY
              have hw := (hW.2.2.2.2.1 c hc).2.2.1
              have hze : zr (eYr D c) := by unfold zr; omega
              have hzl : zr (lYr D c) := by unfold zr; omega
              have hb1 : -360 ≤ υ.1 267 (rE D c) ∧ υ.1 267 (rE D c) ≤ 360 := by
                rw [k2 _ (by omega)]; exact dl_b hW (by omega)
              have hb2 : -360 ≤ υ.1 267 (mL D c) ∧ υ.1 267 (mL D c) ≤ 360 := by
                rw [k2 _ (by omega)]; exact dl_b hW (by omega)
              refine zx_aloadN dX10_laysSteps_36 rfl rfl ?_
              refine zx_iloadN dX10_laysSteps_37 rfl rfl ?_
              refine zy_cv [zi ((c : Nat) : Int)] (sX10_isCounted (D := D) (c := c) hfl hz (by first | assumption | omega) (by first | assumption | (refine Rel_put (by decide) ?_; assumption) | (refine Rel_put (by decide) (Rel_put (by decide) ?_); assumption) | (refine Rel_put (by decide) (Rel_put (by decide) (Rel_put (by decide) ?_)); assumption)) (by first | assumption | omega)) dX10_laysSteps_38 (by decide) rfl cw_RX10_121 okX10_isCounted rfl (Nat.le_of_ble_eq_true rfl) ⟨Nat.le_of_ble_eq_true rfl, Nat.le_of_ble_eq_true rfl, Nat.le_of_ble_eq_true rfl, Nat.le_of_ble_eq_true rfl⟩ ?_
              refine zx_if_eq (tgt := 104) (by first | exact hz _ _ | assumption | exact zr_b _ | exact zcmp_r _ _ | (unfold zr at *; omega)) dX10_laysSteps_41 (by decide) (fun h41 => ?_) (fun h41 => ?_)
              · have h41 := zb_0.mp h41
                refine zy_iinc (b := ((c + 1 : Nat) : Int)) [zf 10 261, zi ((p : Nat) : Int), zi ((c + 1 : Nat) : Int)] dX10_laysSteps_104 rfl (by omega) (Nat.le_of_ble_eq_true rfl) rfl rfl ?_
                refine zx_goto (tgt := 26) dX10_laysSteps_107 (by decide) ?_
                exact ih26 υ (c + 1) hz (by first | assumption | omega) (by first | exact k1 | exact ⟨fun q hq i => by have hq2 := hq; dsimp only at hq2; exact (zput_k _ _ _ _ _ (by omega)).trans ((zput_k _ _ _ _ _ (by omega)).trans (k1.1 q hq i)), k1.2⟩) (fun j hj => by
        have hj2 := k2 j hj
        rw [zs_s]
        first
        | (rw [zif_t ⟨h41, h50⟩]; exact dl_put hrw.2.2 hj2)
        | (rw [zif_f (fun q => absurd q.1 (by assumption))]; omega)
        | (rw [zif_f (fun q => absurd q.2 (by assumption))]; omega)) (by omega)
              · have h41 := zb_n.mp h41
                refine zx_aloadN dX10_laysSteps_44 rfl rfl ?_
                refine zx_iloadN dX10_laysSteps_45 rfl rfl ?_
                refine zx_iloadN dX10_laysSteps_46 rfl rfl ?_
                refine zy_cv [zi ((c : Nat) : Int), zi ((p : Nat) : Int)] (sX10_suits (D := D) (c := c) (p := p) hfl hz (by first | assumption | omega) (by first | assumption | (refine Rel_put (by decide) ?_; assumption) | (refine Rel_put (by decide) (Rel_put (by decide) ?_); assumption) | (refine Rel_put (by decide) (Rel_put (by decide) (Rel_put (by decide) ?_)); assumption)) (by first | assumption | omega) (by first | assumption | omega)) dX10_laysSteps_47 (by decide) rfl cw_RX10_111 okX10_suits rfl (Nat.le_of_ble_eq_true rfl) ⟨Nat.le_of_ble_eq_true rfl, Nat.le_of_ble_eq_true rfl, Nat.le_of_ble_eq_true rfl, Nat.le_of_ble_eq_true rfl⟩ ?_
                refine zx_if_ne (tgt := 56) (by first | exact hz _ _ | assumption | exact zr_b _ | exact zcmp_r _ _ | (unfold zr at *; omega)) dX10_laysSteps_50 (by decide) (fun h50 => ?_) (fun h50 => ?_)
                · have h50 := zb_n.mp h50
                  refine zx_aloadN dX10_laysSteps_56 rfl rfl ?_
                  refine zy_getR (q' := 267) fl_RX10_25 rfl dX10_laysSteps_57 rfl ?_
                  refine zx_aloadN dX10_laysSteps_60 rfl rfl ?_
                  refine zx_iloadN dX10_laysSteps_61 rfl rfl ?_
                  refine zy_cv [zi ((c : Nat) : Int)] (sX10_earliest (D := D) (c := c) hfl hz (by first | assumption | omega) (by first | assumption | (refine Rel_put (by decide) ?_; assumption) | (refine Rel_put (by decide) (Rel_put (by decide) ?_); assumption) | (refine Rel_put (by decide) (Rel_put (by decide) (Rel_put (by decide) ?_)); assumption)) (by first | assumption | omega)) dX10_laysSteps_62 (by decide) rfl cw_RX10_114 okX10_earliest rfl (Nat.le_of_ble_eq_true rfl) ⟨Nat.le_of_ble_eq_true rfl, Nat.le_of_ble_eq_true rfl, Nat.le_of_ble_eq_true rfl, Nat.le_of_ble_eq_true rfl⟩ ?_
                  refine zx_sipush dX10_laysSteps_65 rfl ?_
                  refine zx_isub dX10_laysSteps_68 ?_
                  refine zy_top (b := ((rE D c : Nat) : Int)) (by unfold rE; omega) ?_
                  refine zx_dup2 rfl rfl dX10_laysSteps_69 ?_
                  refine zy_iald (v := υ.1 267 (rE D c)) rfl (by decide) (by decide) dX10_laysSteps_70 (by omega) (by omega) rfl ?_
                  refine zx_aloadN dX10_laysSteps_71 rfl rfl ?_
                  refine zx_iloadN dX10_laysSteps_72 rfl rfl ?_
                  refine zx_iconst dX10_laysSteps_73 ?_
                  refine zy_cv [zi ((c : Nat) : Int), zi 3] (sX10_of (D := D) (c := c) (o := 3) hfl hz (by first | assumption | omega) (by first | assumption | (refine Rel_put (by decide) ?_; assumption) | (refine Rel_put (by decide) (Rel_put (by decide) ?_); assumption) | (refine Rel_put (by decide) (Rel_put (by decide) (Rel_put (by decide) ?_)); assumption)) (by first | assumption | omega) (by first | assumption | omega)) dX10_laysSteps_74 (by decide) rfl cw_RX10_102 okX10_of rfl (Nat.le_of_ble_eq_true rfl) ⟨Nat.le_of_ble_eq_true rfl, Nat.le_of_ble_eq_true rfl, Nat.le_of_ble_eq_true rfl, Nat.le_of_ble_eq_true rfl⟩ ?_
                  refine zy_top (b := D 16 c) rfl ?_
                  refine zx_iadd dX10_laysSteps_77 ?_
                  refine zy_iast (i := rE D c) rfl (by decide) (by decide) dX10_laysSteps_78 (by omega) (by omega) rfl ?_
                  refine zx_aloadN dX10_laysSteps_79 rfl rfl ?_
                  refine zy_getR (q' := 267) fl_RX10_25 rfl dX10_laysSteps_80 rfl ?_
                  refine zx_aloadN dX10_laysSteps_83 rfl rfl ?_
                  refine zx_iloadN dX10_laysSteps_84 rfl rfl ?_
                  refine zy_cv [zi ((c : Nat) : Int)] (sX10_latest (D := D) (c := c) hfl (zOK_put hz (by first | exact hz _ _ | assumption | exact zr_b _ | exact zcmp_r _ _ | (unfold zr at *; omega))) (by first | assumption | omega) (by first | assumption | (refine Rel_put (by decide) ?_; assumption) | (refine Rel_put (by decide) (Rel_put (by decide) ?_); assumption) | (refine Rel_put (by decide) (Rel_put (by decide) (Rel_put (by decide) ?_)); assumption)) (by first | assumption | omega)) dX10_laysSteps_85 (by decide) rfl cw_RX10_118 okX10_latest rfl (Nat.le_of_ble_eq_true rfl) ⟨Nat.le_of_ble_eq_true rfl, Nat.le_of_ble_eq_true rfl, Nat.le_of_ble_eq_true rfl, Nat.le_of_ble_eq_true rfl⟩ ?_
                  refine zx_iconst dX10_laysSteps_88 ?_
                  refine zx_iadd dX10_laysSteps_89 ?_
                  refine zx_sipush dX10_laysSteps_90 rfl ?_
                  refine zx_isub dX10_laysSteps_93 ?_
                  refine zy_top (b := ((mL D c : Nat) : Int)) (by unfold mL; omega) ?_
                  refine zx_dup2 rfl rfl dX10_laysSteps_94 ?_
                  refine zy_iald (v := υ.1 267 (mL D c)) rfl (by decide) (by decide) dX10_laysSteps_95 (by omega) (by omega) (zput_i _ _ _ _ _ (by omega)) ?_
                  refine zx_aloadN dX10_laysSteps_96 rfl rfl ?_
                  refine zx_iloadN dX10_laysSteps_97 rfl rfl ?_
                  refine zx_iconst dX10_laysSteps_98 ?_
                  refine zy_cv [zi ((c : Nat) : Int), zi 3] (sX10_of (D := D) (c := c) (o := 3) hfl (zOK_put hz (by first | exact hz _ _ | assumption | exact zr_b _ | exact zcmp_r _ _ | (unfold zr at *; omega))) (by first | assumption | omega) (by first | assumption | (refine Rel_put (by decide) ?_; assumption) | (refine Rel_put (by decide) (Rel_put (by decide) ?_); assumption) | (refine Rel_put (by decide) (Rel_put (by decide) (Rel_put (by decide) ?_)); assumption)) (by first | assumption | omega) (by first | assumption | omega)) dX10_laysSteps_99 (by decide) rfl cw_RX10_102 okX10_of rfl (Nat.le_of_ble_eq_true rfl) ⟨Nat.le_of_ble_eq_true rfl, Nat.le_of_ble_eq_true rfl, Nat.le_of_ble_eq_true rfl, Nat.le_of_ble_eq_true rfl⟩ ?_
                  refine zy_top (b := D 16 c) rfl ?_
                  refine zx_isub dX10_laysSteps_102 ?_
                  refine zy_iast (i := mL D c) rfl (by decide) (by decide) dX10_laysSteps_103 (by omega) (by omega) rfl ?_
                  refine zy_iinc (b := ((c + 1 : Nat) : Int)) [zf 10 261, zi ((p : Nat) : Int), zi ((c + 1 : Nat) : Int)] dX10_laysSteps_104 rfl (by omega) (Nat.le_of_ble_eq_true rfl) rfl rfl ?_
                  refine zx_goto (tgt := 26) dX10_laysSteps_107 (by decide) ?_
                  exact ih26 (zput (zput υ 267 (rE D c) ((υ.1 267 (rE D c)) + (D 16 c))) 267 (mL D c) ((υ.1 267 (mL D c)) - (D 16 c))) (c + 1) (zOK_put (zOK_put hz (by first | exact hz _ _ | assumption | exact zr_b _ | exact zcmp_r _ _ | (unfold zr at *; omega))) (by first | exact hz _ _ | assumption | exact zr_b _ | exact zcmp_r _ _ | (unfold zr at *; omega))) (by first | assumption | omega) (by first | exact k1 | exact ⟨fun q hq i => by have hq2 := hq; dsimp only at hq2; exact (zput_k _ _ _ _ _ (by omega)).trans ((zput_k _ _ _ _ _ (by omega)).trans (k1.1 q hq i)), k1.2⟩) (fun j hj => by
        have hj2 := k2 j hj
        rw [zs_s]
        first
        | (rw [zif_t ⟨h41, h50⟩]; exact dl_put hrw.2.2 hj2)
        | (rw [zif_f (fun q => absurd q.1 (by assumption))]; omega)
        | (rw [zif_f (fun q => absurd q.2 (by assumption))]; omega)) (by omega)
                · have h50 := zb_0.mp h50
                  refine zx_goto (tgt := 104) dX10_laysSteps_53 (by decide) ?_
                  refine zy_iinc (b := ((c + 1 : Nat) : Int)) [zf 10 261, zi ((p : Nat) : Int), zi ((c + 1 : Nat) : Int)] dX10_laysSteps_104 rfl (by omega) (Nat.le_of_ble_eq_true rfl) rfl rfl ?_
                  refine zx_goto (tgt := 26) dX10_laysSteps_107 (by decide) ?_
                  exact ih26 υ (c + 1) hz (by first | assumption | omega) (by first | exact k1 | exact ⟨fun q hq i => by have hq2 := hq; dsimp only at hq2; exact (zput_k _ _ _ _ _ (by omega)).trans ((zput_k _ _ _ _ _ (by omega)).trans (k1.1 q hq i)), k1.2⟩) (fun j hj => by
        have hj2 := k2 j hj
        rw [zs_s]
        first
        | (rw [zif_t ⟨h41, h50⟩]; exact dl_put hrw.2.2 hj2)
        | (rw [zif_f (fun q => absurd q.1 (by assumption))]; omega)
        | (rw [zif_f (fun q => absurd q.2 (by assumption))]; omega)) (by omega)
        exact L26 _ τ 0 hz (by first | assumption | omega) h1 (fun j hj => h2 j (by omega)) (Nat.lt_succ_self _)
      · refine zx_aloadN dX10_laysSteps_11 rfl rfl ?_
        refine zy_getR (q' := 267) fl_RX10_25 rfl dX10_laysSteps_12 rfl ?_
        refine zx_iloadN dX10_laysSteps_15 rfl rfl ?_
        refine zx_iconst dX10_laysSteps_16 ?_
        refine zy_iast (i := i) rfl (by decide) (by decide) dX10_laysSteps_17 (by omega) (by omega) rfl ?_
        refine zy_iinc (b := ((i + 1 : Nat) : Int)) [zf 10 261, zi ((p : Nat) : Int), zi ((i + 1 : Nat) : Int)] dX10_laysSteps_18 rfl (by omega) (Nat.le_of_ble_eq_true rfl) rfl rfl ?_
        refine zx_goto (tgt := 2) dX10_laysSteps_21 (by decide) ?_
        exact ih2 (zput τ 267 i 0) (i + 1) (zOK_put hz (by unfold zr; omega)) (by first | assumption | omega) ⟨fun q hq j => by have hq2 := hq; dsimp only at hq2; exact (zput_k _ _ _ _ _ (by omega)).trans (h1.1 q hq j), h1.2⟩ (fun j hj => by have := h2 j; simp only [zput_e, true_and, and_true, ↓reduceIte]; split <;> omega) (by omega)
  exact L2 _ σ 0 hz (by first | assumption | omega) (zSame_rf _ _) (fun j hj => absurd hj (Nat.not_lt_zero j)) (Nat.lt_succ_self _)
set_option maxRecDepth 20000 in
set_option maxHeartbeats 2000000 in
theorem sX10_findsBest {l : Launch} {w : zW} (hfl : l.stackTraces = false) {σ : zS} {D : zBk} {p : Nat} (hz : zOK σ) (hW : WF D) (hR : Rel D (σ.1 262)) (hp : (p : Int) < D 1 0) : Sp l w mX10_findsBest 5 0 [zf 10 261, zi ((p : Nat) : Int)] σ (zqv (none) (fun τ => zOK τ ∧ mfr σ τ (fun k => k = 267) (fun i => 9 ≤ i ∧ i ≤ 11) ∧ τ.1 261 9 = 1450 + ((tR D (Ht D) p : Nat) : Int) ∧ τ.1 261 10 = tS D (Ht D) p ∧ τ.1 261 11 = tN D (Ht D) p)) := by
  obtain ⟨Q, hQ⟩ : ∃ Q : zQ, Q = (zqv (none) (fun τ => zOK τ ∧ mfr σ τ (fun k => k = 267) (fun i => 9 ≤ i ∧ i ≤ 11) ∧ τ.1 261 9 = 1450 + ((tR D (Ht D) p : Nat) : Int) ∧ τ.1 261 10 = tS D (Ht D) p ∧ τ.1 261 11 = tN D (Ht D) p)) := ⟨_, rfl⟩
  rw [← hQ]
  refine zx_enter hfl (by decide) rfl 2 rfl ?_
  show zX l w mX10_findsBest (zMQ w 5 0 Q) 0 [zf 10 261, zi ((p : Nat) : Int), zu, zu] [] 0 σ
  have hP : 0 ≤ D 1 0 ∧ D 1 0 ≤ 8 := hW.1.1
  have hM : 0 ≤ D 1 7 ∧ D 1 7 ≤ 8 := hW.1.2.1
  have hE : 0 ≤ D 1 10 ∧ D 1 10 ≤ 12 := hW.1.2.2.1
  have hK : 0 ≤ D 12 0 ∧ D 12 0 ≤ 40 := hW.1.2.2.2
  have r0 : σ.1 262 0 = D 1 0 := hR.1.1
  have r1 : σ.1 262 1 = D 1 7 := hR.1.2.1
  have r2 : σ.1 262 2 = D 1 10 := hR.1.2.2.1
  have r3 : σ.1 262 3 = D 12 0 := hR.1.2.2.2
  have hyr := (hW.2.1 p hp).2
  refine zx_aloadN dX10_findsBest_0 rfl rfl ?_
  refine zx_iloadN dX10_findsBest_1 rfl rfl ?_
  refine zy_cvvR [zi ((p : Nat) : Int)] (sX10_laysSteps (D := D) (p := p) hfl hz (by first | assumption | omega) (by first | assumption | (refine Rel_put (by decide) ?_; assumption) | (refine Rel_put (by decide) (Rel_put (by decide) ?_); assumption) | (refine Rel_put (by decide) (Rel_put (by decide) (Rel_put (by decide) ?_)); assumption)) (by first | assumption | omega)) dX10_findsBest_2 (by decide) rfl cw_RX10_129 okX10_laysSteps rfl (Nat.le_of_ble_eq_true rfl) ⟨Nat.le_of_ble_eq_true rfl, Nat.le_of_ble_eq_true rfl, Nat.le_of_ble_eq_true rfl, Nat.le_of_ble_eq_true rfl⟩ (fun τ2 hr2 => ?_)
  have hz2 : zOK τ2 := hr2.1
  have hS : ∀ j : Nat, j < 550 → zs (fun i => τ2.1 267 i) (j + 1) = sc D (Ht D) p j ∧ 0 ≤ zs (fun i => τ2.1 267 i) (j + 1) ∧ zs (fun i => τ2.1 267 i) (j + 1) ≤ 360 := fun j hj => by
    have e : zs (fun i => τ2.1 267 i) (j + 1) = sc D (Ht D) p j := by
      rw [zs_congr (fun i hi => hr2.2.2 i (by omega))]
      exact ms_sc hW p j hj
    refine ⟨e, ?_⟩
    rw [e]; exact wt_b hW _
  refine zx_iconst dX10_findsBest_5 ?_
  refine zy_istoreN [zf 10 261, zi ((p : Nat) : Int), zi 0, zu] dX10_findsBest_6 rfl (Nat.le_of_ble_eq_true rfl) (Nat.le_of_ble_eq_true rfl) rfl rfl ?_
  refine zx_aloadN dX10_findsBest_7 rfl rfl ?_
  refine zx_iconst dX10_findsBest_8 ?_
  refine zx_putI fl_RX10_133 rfl (Or.inl fp_10_9) dX10_findsBest_9 ?_
  refine zx_sipush dX10_findsBest_12 rfl ?_
  refine zy_istoreN [zf 10 261, zi ((p : Nat) : Int), zi 0, zi 1450] dX10_findsBest_15 rfl (Nat.le_of_ble_eq_true rfl) (Nat.le_of_ble_eq_true rfl) rfl rfl ?_
  have L16 : ∀ (N : Nat) (υ : zS) (r : Nat) (y : Int) (acc : Int), (zOK υ) → (y = 1450 + r ∧ (r : Int) ≤ D 5 p - 1450 + 1) → (acc = zs (fun i => τ2.1 267 i) r) → ((∀ k, k ≠ 261 → ∀ i, υ.1 k i = τ2.1 k i) ∧ (∀ i, ¬ (9 ≤ i ∧ i ≤ 11) → υ.1 261 i = τ2.1 261 i) ∧ υ.2 = τ2.2) → ((r : Int) ≤ D 4 p - 1450 → υ.1 261 9 = -1) → (D 4 p - 1450 < r → υ.1 261 9 = 1450 + ((yTop (sc D (Ht D) p) ((D 4 p - 1450).toNat) (r - ((D 4 p - 1450).toNat)) : Nat) : Int) ∧ υ.1 261 10 = sc D (Ht D) p (yTop (sc D (Ht D) p) ((D 4 p - 1450).toNat) (r - ((D 4 p - 1450).toNat))) ∧ υ.1 261 11 = yCnt (sc D (Ht D) p) ((D 4 p - 1450).toNat) (r - ((D 4 p - 1450).toNat))) → (600 - r) < N → zX l w mX10_findsBest (zMQ w 5 0 Q) 16 [zf 10 261, zi ((p : Nat) : Int), zi acc, zi y] [] 0 υ := by
    intro N
    induction N with
    | zero => intro υ r y acc _ _ _ _ _ _ _; exact absurd (by assumption) (Nat.not_lt_zero _)
    | succ N ih16 =>
      intro υ r y acc hz hy hacc g1 g2 g3 hN
      have hcr := yCnt_r (sc D (Ht D) p) ((D 4 p - 1450).toNat) (r - ((D 4 p - 1450).toNat))
      have e267 : ∀ i, υ.1 267 i = τ2.1 267 i := g1.1 267 (by omega)
      have hRτ : Rel D (υ.1 262) := by rw [show υ.1 262 = σ.1 262 from funext (fun i => (g1.1 262 (by omega) i).trans (hr2.2.1.1 262 (by dsimp only; omega) i))]; exact hR
      have hacc2 : r < 551 → -360 ≤ acc ∧ acc ≤ 360 := fun q => by
        rw [hacc]
        rcases Nat.eq_zero_or_pos r with e | e
        · rw [e]; simp [zs]
        · have := hS (r - 1) (by omega); rw [show r - 1 + 1 = r by omega] at this; omega
      refine zx_iloadN dX10_findsBest_16 rfl rfl ?_
      refine zx_aloadN dX10_findsBest_17 rfl rfl ?_
      refine zx_iloadN dX10_findsBest_18 rfl rfl ?_
      refine zx_bipush dX10_findsBest_19 rfl ?_
      refine zy_cv [zi ((p : Nat) : Int), zi 9] (sX10_ofPrinter (D := D) (p := p) (o := 9) hfl hz (by first | assumption | omega) (by first | assumption | (refine Rel_put (by decide) ?_; assumption) | (refine Rel_put (by decide) (Rel_put (by decide) ?_); assumption) | (refine Rel_put (by decide) (Rel_put (by decide) (Rel_put (by decide) ?_)); assumption)) (by first | assumption | omega) (by first | assumption | omega)) dX10_findsBest_21 (by decide) rfl cw_RX10_82 okX10_ofPrinter rfl (Nat.le_of_ble_eq_true rfl) ⟨Nat.le_of_ble_eq_true rfl, Nat.le_of_ble_eq_true rfl, Nat.le_of_ble_eq_true rfl, Nat.le_of_ble_eq_true rfl⟩ ?_
      refine zy_top (b := D 5 p) rfl ?_
      refine zx_icmp_gt (tgt := 116) (by first | exact hz _ _ | assumption | exact zr_b _ | exact zcmp_r _ _ | (unfold zr at *; omega)) (by first | exact hz _ _ | assumption | exact zr_b _ | exact zcmp_r _ _ | (unfold zr at *; omega)) dX10_findsBest_24 (by decide) (fun h24 => ?_) (fun h24 => ?_)
      · refine zx_vret rfl dX10_findsBest_116 ?_
        rw [hQ]
        refine ⟨rfl, ?_⟩
        have en : D 4 p - 1450 < r := by omega
        have e5 : r - ((D 4 p - 1450).toNat) = (D 5 p - D 4 p + 1).toNat := by omega
        obtain ⟨q1, q2, q3⟩ := g3 en
        rw [e5] at q1 q2 q3
        refine ⟨hz, ⟨fun k hk hk2 i => (g1.1 k hk2 i).trans (hr2.2.1.1 k hk i), fun i hi => (g1.2.1 i hi).trans (hr2.2.1.1 261 (by dsimp only; omega) i), g1.2.2.trans hr2.2.1.2⟩, q1, q2, q3⟩
      · refine zx_iloadN dX10_findsBest_27 rfl rfl ?_
        refine zx_aloadN dX10_findsBest_28 rfl rfl ?_
        refine zy_getR (q' := 267) fl_RX10_25 rfl dX10_findsBest_29 rfl ?_
        refine zx_iloadN dX10_findsBest_32 rfl rfl ?_
        refine zx_sipush dX10_findsBest_33 rfl ?_
        refine zx_isub dX10_findsBest_36 ?_
        refine zy_top (b := ((r : Nat) : Int)) (by omega) ?_
        refine zy_iald (v := υ.1 267 r) rfl (by decide) (by decide) dX10_findsBest_37 (by omega) (by omega) rfl ?_
        refine zx_iadd dX10_findsBest_38 ?_
        refine zy_istoreN [zf 10 261, zi ((p : Nat) : Int), zi (acc + (υ.1 267 r)), zi y] dX10_findsBest_39 rfl (Nat.le_of_ble_eq_true rfl) (Nat.le_of_ble_eq_true rfl) rfl rfl ?_
        have hsr := hS r (by omega)
        have e4 := e267 r
        have hsu : acc + υ.1 267 r = sc D (Ht D) p r := by rw [← hsr.1, zs_s, ← hacc, e4]
        have hsb : 0 ≤ acc + υ.1 267 r ∧ acc + υ.1 267 r ≤ 360 := by rw [hsu, ← hsr.1]; exact hsr.2
        refine zx_iloadN dX10_findsBest_40 rfl rfl ?_
        refine zx_aloadN dX10_findsBest_41 rfl rfl ?_
        refine zx_iloadN dX10_findsBest_42 rfl rfl ?_
        refine zx_bipush dX10_findsBest_43 rfl ?_
        refine zy_cv [zi ((p : Nat) : Int), zi 8] (sX10_ofPrinter (D := D) (p := p) (o := 8) hfl hz (by first | assumption | omega) (by first | assumption | (refine Rel_put (by decide) ?_; assumption) | (refine Rel_put (by decide) (Rel_put (by decide) ?_); assumption) | (refine Rel_put (by decide) (Rel_put (by decide) (Rel_put (by decide) ?_)); assumption)) (by first | assumption | omega) (by first | assumption | omega)) dX10_findsBest_45 (by decide) rfl cw_RX10_82 okX10_ofPrinter rfl (Nat.le_of_ble_eq_true rfl) ⟨Nat.le_of_ble_eq_true rfl, Nat.le_of_ble_eq_true rfl, Nat.le_of_ble_eq_true rfl, Nat.le_of_ble_eq_true rfl⟩ ?_
        refine zy_top (b := D 4 p) rfl ?_
        refine zx_icmp_ge (tgt := 54) (by first | exact hz _ _ | assumption | exact zr_b _ | exact zcmp_r _ _ | (unfold zr at *; omega)) (by first | exact hz _ _ | assumption | exact zr_b _ | exact zcmp_r _ _ | (unfold zr at *; omega)) dX10_findsBest_48 (by decide) (fun h48 => ?_) (fun h48 => ?_)
        · have g2x := g2
          refine zx_aloadN dX10_findsBest_54 rfl rfl ?_
          refine zy_getI fl_RX10_133 rfl dX10_findsBest_55 rfl ?_
          refine zx_iconst dX10_findsBest_58 ?_
          refine zx_icmp_eq (tgt := 70) (by first | exact hz _ _ | assumption | exact zr_b _ | exact zcmp_r _ _ | (unfold zr at *; omega)) (by first | exact hz _ _ | assumption | exact zr_b _ | exact zcmp_r _ _ | (unfold zr at *; omega)) dX10_findsBest_59 (by decide) (fun h59 => ?_) (fun h59 => ?_)
          · refine zx_aloadN dX10_findsBest_70 rfl rfl ?_
            refine zx_iloadN dX10_findsBest_71 rfl rfl ?_
            refine zx_putI fl_RX10_133 rfl (Or.inl fp_10_9) dX10_findsBest_72 ?_
            refine zx_aloadN dX10_findsBest_75 rfl rfl ?_
            refine zx_iloadN dX10_findsBest_76 rfl rfl ?_
            refine zx_putI fl_RX10_136 rfl (Or.inl fp_10_10) dX10_findsBest_77 ?_
            refine zx_aloadN dX10_findsBest_80 rfl rfl ?_
            refine zx_iconst dX10_findsBest_81 ?_
            refine zx_putI fl_RX10_139 rfl (Or.inl fp_10_11) dX10_findsBest_82 ?_
            refine zx_aloadN dX10_findsBest_85 rfl rfl ?_
            refine zx_dup rfl dX10_findsBest_86 ?_
            refine zy_getI (v := 0) fl_RX10_139 rfl dX10_findsBest_87 (zput_s _ _ _ _) ?_
            refine zx_iloadN dX10_findsBest_90 rfl rfl ?_
            refine zx_aloadN dX10_findsBest_91 rfl rfl ?_
            refine zy_getI (v := acc + (υ.1 267 r)) fl_RX10_136 rfl dX10_findsBest_92 ((zput_i _ _ _ _ _ (by omega)).trans (zput_s _ _ _ _)) ?_
            refine zx_icmp_ne (tgt := 102) (by first | exact hz _ _ | assumption | exact zr_b _ | exact zcmp_r _ _ | (unfold zr at *; omega)) (by first | exact hz _ _ | assumption | exact zr_b _ | exact zcmp_r _ _ | (unfold zr at *; omega)) dX10_findsBest_95 (by decide) (fun h95 => ?_) (fun h95 => ?_)
            · refine zx_iconst dX10_findsBest_102 ?_
              refine zy_top (b := zb False) ((zb_f (fun q => q)).symm) ?_
              refine zy_cs [zi (zb False)] (sX10_truth (A := False) hfl (zOK_put (zOK_put (zOK_put hz (by first | exact hz _ _ | assumption | exact zr_b _ | exact zcmp_r _ _ | (unfold zr at *; omega))) (by first | exact hz _ _ | assumption | exact zr_b _ | exact zcmp_r _ _ | (unfold zr at *; omega))) (by unfold zr; omega)) ) dX10_findsBest_103 cw_RX10_94 okX10_truth rfl (Nat.le_of_ble_eq_true rfl) ⟨Nat.le_of_ble_eq_true rfl, Nat.le_of_ble_eq_true rfl, Nat.le_of_ble_eq_true rfl, Nat.le_of_ble_eq_true rfl⟩ ?_
              refine zx_iadd dX10_findsBest_106 ?_
              refine zx_putI fl_RX10_139 rfl (Or.inl fp_10_11) dX10_findsBest_107 ?_
              have w9 : (zput (zput (zput (zput υ 261 9 y) 261 10 (acc + (υ.1 267 r))) 261 11 0) 261 11 (0 + (zb False))).1 261 9 = y := ((zput_i _ _ _ _ _ (by omega)).trans ((zput_i _ _ _ _ _ (by omega)).trans ((zput_i _ _ _ _ _ (by omega)).trans (zput_s _ _ _ _))))
              have w10 : (zput (zput (zput (zput υ 261 9 y) 261 10 (acc + (υ.1 267 r))) 261 11 0) 261 11 (0 + (zb False))).1 261 10 = acc + (υ.1 267 r) := ((zput_i _ _ _ _ _ (by omega)).trans ((zput_i _ _ _ _ _ (by omega)).trans (zput_s _ _ _ _)))
              have w11 : (zput (zput (zput (zput υ 261 9 y) 261 10 (acc + (υ.1 267 r))) 261 11 0) 261 11 (0 + (zb False))).1 261 11 = 0 + (zb False) := (zput_s _ _ _ _)
              have hzT : zb True = 1 := zb_t trivial
              have hzF : zb False = 0 := zb_f (fun q => q)
              have er : ((D 4 p - 1450).toNat) + (r - ((D 4 p - 1450).toNat)) = r := by omega
              have g3n : (zput (zput (zput (zput υ 261 9 y) 261 10 (acc + (υ.1 267 r))) 261 11 0) 261 11 (0 + (zb False))).1 261 9 = 1450 + ((yTop (sc D (Ht D) p) ((D 4 p - 1450).toNat) (r + 1 - ((D 4 p - 1450).toNat)) : Nat) : Int) ∧ (zput (zput (zput (zput υ 261 9 y) 261 10 (acc + (υ.1 267 r))) 261 11 0) 261 11 (0 + (zb False))).1 261 10 = sc D (Ht D) p (yTop (sc D (Ht D) p) ((D 4 p - 1450).toNat) (r + 1 - ((D 4 p - 1450).toNat))) ∧ (zput (zput (zput (zput υ 261 9 y) 261 10 (acc + (υ.1 267 r))) 261 11 0) 261 11 (0 + (zb False))).1 261 11 = yCnt (sc D (Ht D) p) ((D 4 p - 1450).toNat) (r + 1 - ((D 4 p - 1450).toNat)) := by
                rw [w9, w10, w11]
                by_cases e0 : r = ((D 4 p - 1450).toNat)
                · have g2r := g2 (by omega)
                  have fb := fb0 (sc D (Ht D) p) ((D 4 p - 1450).toNat)
                  rw [show r + 1 - ((D 4 p - 1450).toNat) = 1 by omega, fb.1, fb.2, ← e0]
                  first | (exfalso; omega) | exact ⟨by omega, by omega, by omega⟩
                · obtain ⟨q1, q2, q3⟩ := g3 (by omega)
                  have fu := @fb_up (sc D (Ht D) p) ((D 4 p - 1450).toNat) (r - ((D 4 p - 1450).toNat))
                  have fe := @fb_eq (sc D (Ht D) p) ((D 4 p - 1450).toNat) (r - ((D 4 p - 1450).toNat))
                  have fn := @fb_no (sc D (Ht D) p) ((D 4 p - 1450).toNat) (r - ((D 4 p - 1450).toNat))
                  rw [er] at fu fe fn
                  rw [show r + 1 - ((D 4 p - 1450).toNat) = (r - ((D 4 p - 1450).toNat)) + 1 by omega]
                  rw [← hsu, ← q2] at fu fe fn
                  first
                  | (exfalso; omega)
                  | (rw [(fu (by omega)).1, (fu (by omega)).2, ← hsu]; exact ⟨by omega, by omega, by omega⟩)
                  | (rw [(fe (by omega) (by omega)).1, (fe (by omega) (by omega)).2]; exact ⟨by omega, by omega, by omega⟩)
                  | (rw [(fn (by omega) (by omega)).1, (fn (by omega) (by omega)).2]; exact ⟨by omega, by omega, by omega⟩)
              refine zy_iinc (b := y + 1) [zf 10 261, zi ((p : Nat) : Int), zi (acc + (υ.1 267 r)), zi (y + 1)] dX10_findsBest_110 rfl (by omega) (Nat.le_of_ble_eq_true rfl) rfl rfl ?_
              refine zx_goto (tgt := 16) dX10_findsBest_113 (by decide) ?_
              exact ih16 (zput (zput (zput (zput υ 261 9 y) 261 10 (acc + (υ.1 267 r))) 261 11 0) 261 11 (0 + (zb False))) (r + 1) (y + 1) (acc + (υ.1 267 r)) (zOK_put (zOK_put (zOK_put (zOK_put hz (by first | exact hz _ _ | assumption | exact zr_b _ | exact zcmp_r _ _ | (unfold zr at *; omega))) (by first | exact hz _ _ | assumption | exact zr_b _ | exact zcmp_r _ _ | (unfold zr at *; omega))) (by unfold zr; omega)) (by first | exact hz _ _ | assumption | exact zr_b _ | exact zcmp_r _ _ | (unfold zr at *; omega))) (by omega) (by rw [zs_s, ← hacc]; have := e267 r; omega) (by first | exact g1 | exact ⟨fun k hk i => (zput_k _ _ _ _ _ (by omega)).trans (g1.1 k hk i), fun i hi => (zput_i _ _ _ _ _ (by omega)).trans (g1.2.1 i hi), g1.2.2⟩ | exact ⟨fun k hk i => (zput_k _ _ _ _ _ (by omega)).trans ((zput_k _ _ _ _ _ (by omega)).trans ((zput_k _ _ _ _ _ (by omega)).trans ((zput_k _ _ _ _ _ (by omega)).trans (g1.1 k hk i)))), fun i hi => (zput_i _ _ _ _ _ (by omega)).trans ((zput_i _ _ _ _ _ (by omega)).trans ((zput_i _ _ _ _ _ (by omega)).trans ((zput_i _ _ _ _ _ (by omega)).trans (g1.2.1 i hi)))), g1.2.2⟩) (fun q => by first | (exfalso; omega) | exact g2 (by omega)) (fun q => by first | exact g3n | (exfalso; omega)) (by omega)
            · refine zx_iconst dX10_findsBest_98 ?_
              refine zy_top (b := zb True) ((zb_t trivial).symm) ?_
              refine zx_goto (tgt := 103) dX10_findsBest_99 (by decide) ?_
              refine zy_cs [zi (zb True)] (sX10_truth (A := True) hfl (zOK_put (zOK_put (zOK_put hz (by first | exact hz _ _ | assumption | exact zr_b _ | exact zcmp_r _ _ | (unfold zr at *; omega))) (by first | exact hz _ _ | assumption | exact zr_b _ | exact zcmp_r _ _ | (unfold zr at *; omega))) (by unfold zr; omega)) ) dX10_findsBest_103 cw_RX10_94 okX10_truth rfl (Nat.le_of_ble_eq_true rfl) ⟨Nat.le_of_ble_eq_true rfl, Nat.le_of_ble_eq_true rfl, Nat.le_of_ble_eq_true rfl, Nat.le_of_ble_eq_true rfl⟩ ?_
              refine zx_iadd dX10_findsBest_106 ?_
              refine zx_putI fl_RX10_139 rfl (Or.inl fp_10_11) dX10_findsBest_107 ?_
              have w9 : (zput (zput (zput (zput υ 261 9 y) 261 10 (acc + (υ.1 267 r))) 261 11 0) 261 11 (0 + (zb True))).1 261 9 = y := ((zput_i _ _ _ _ _ (by omega)).trans ((zput_i _ _ _ _ _ (by omega)).trans ((zput_i _ _ _ _ _ (by omega)).trans (zput_s _ _ _ _))))
              have w10 : (zput (zput (zput (zput υ 261 9 y) 261 10 (acc + (υ.1 267 r))) 261 11 0) 261 11 (0 + (zb True))).1 261 10 = acc + (υ.1 267 r) := ((zput_i _ _ _ _ _ (by omega)).trans ((zput_i _ _ _ _ _ (by omega)).trans (zput_s _ _ _ _)))
              have w11 : (zput (zput (zput (zput υ 261 9 y) 261 10 (acc + (υ.1 267 r))) 261 11 0) 261 11 (0 + (zb True))).1 261 11 = 0 + (zb True) := (zput_s _ _ _ _)
              have hzT : zb True = 1 := zb_t trivial
              have hzF : zb False = 0 := zb_f (fun q => q)
              have er : ((D 4 p - 1450).toNat) + (r - ((D 4 p - 1450).toNat)) = r := by omega
              have g3n : (zput (zput (zput (zput υ 261 9 y) 261 10 (acc + (υ.1 267 r))) 261 11 0) 261 11 (0 + (zb True))).1 261 9 = 1450 + ((yTop (sc D (Ht D) p) ((D 4 p - 1450).toNat) (r + 1 - ((D 4 p - 1450).toNat)) : Nat) : Int) ∧ (zput (zput (zput (zput υ 261 9 y) 261 10 (acc + (υ.1 267 r))) 261 11 0) 261 11 (0 + (zb True))).1 261 10 = sc D (Ht D) p (yTop (sc D (Ht D) p) ((D 4 p - 1450).toNat) (r + 1 - ((D 4 p - 1450).toNat))) ∧ (zput (zput (zput (zput υ 261 9 y) 261 10 (acc + (υ.1 267 r))) 261 11 0) 261 11 (0 + (zb True))).1 261 11 = yCnt (sc D (Ht D) p) ((D 4 p - 1450).toNat) (r + 1 - ((D 4 p - 1450).toNat)) := by
                rw [w9, w10, w11]
                by_cases e0 : r = ((D 4 p - 1450).toNat)
                · have g2r := g2 (by omega)
                  have fb := fb0 (sc D (Ht D) p) ((D 4 p - 1450).toNat)
                  rw [show r + 1 - ((D 4 p - 1450).toNat) = 1 by omega, fb.1, fb.2, ← e0]
                  first | (exfalso; omega) | exact ⟨by omega, by omega, by omega⟩
                · obtain ⟨q1, q2, q3⟩ := g3 (by omega)
                  have fu := @fb_up (sc D (Ht D) p) ((D 4 p - 1450).toNat) (r - ((D 4 p - 1450).toNat))
                  have fe := @fb_eq (sc D (Ht D) p) ((D 4 p - 1450).toNat) (r - ((D 4 p - 1450).toNat))
                  have fn := @fb_no (sc D (Ht D) p) ((D 4 p - 1450).toNat) (r - ((D 4 p - 1450).toNat))
                  rw [er] at fu fe fn
                  rw [show r + 1 - ((D 4 p - 1450).toNat) = (r - ((D 4 p - 1450).toNat)) + 1 by omega]
                  rw [← hsu, ← q2] at fu fe fn
                  first
                  | (exfalso; omega)
                  | (rw [(fu (by omega)).1, (fu (by omega)).2, ← hsu]; exact ⟨by omega, by omega, by omega⟩)
                  | (rw [(fe (by omega) (by omega)).1, (fe (by omega) (by omega)).2]; exact ⟨by omega, by omega, by omega⟩)
                  | (rw [(fn (by omega) (by omega)).1, (fn (by omega) (by omega)).2]; exact ⟨by omega, by omega, by omega⟩)
              refine zy_iinc (b := y + 1) [zf 10 261, zi ((p : Nat) : Int), zi (acc + (υ.1 267 r)), zi (y + 1)] dX10_findsBest_110 rfl (by omega) (Nat.le_of_ble_eq_true rfl) rfl rfl ?_
              refine zx_goto (tgt := 16) dX10_findsBest_113 (by decide) ?_
              exact ih16 (zput (zput (zput (zput υ 261 9 y) 261 10 (acc + (υ.1 267 r))) 261 11 0) 261 11 (0 + (zb True))) (r + 1) (y + 1) (acc + (υ.1 267 r)) (zOK_put (zOK_put (zOK_put (zOK_put hz (by first | exact hz _ _ | assumption | exact zr_b _ | exact zcmp_r _ _ | (unfold zr at *; omega))) (by first | exact hz _ _ | assumption | exact zr_b _ | exact zcmp_r _ _ | (unfold zr at *; omega))) (by unfold zr; omega)) (by first | exact hz _ _ | assumption | exact zr_b _ | exact zcmp_r _ _ | (unfold zr at *; omega))) (by omega) (by rw [zs_s, ← hacc]; have := e267 r; omega) (by first | exact g1 | exact ⟨fun k hk i => (zput_k _ _ _ _ _ (by omega)).trans (g1.1 k hk i), fun i hi => (zput_i _ _ _ _ _ (by omega)).trans (g1.2.1 i hi), g1.2.2⟩ | exact ⟨fun k hk i => (zput_k _ _ _ _ _ (by omega)).trans ((zput_k _ _ _ _ _ (by omega)).trans ((zput_k _ _ _ _ _ (by omega)).trans ((zput_k _ _ _ _ _ (by omega)).trans (g1.1 k hk i)))), fun i hi => (zput_i _ _ _ _ _ (by omega)).trans ((zput_i _ _ _ _ _ (by omega)).trans ((zput_i _ _ _ _ _ (by omega)).trans ((zput_i _ _ _ _ _ (by omega)).trans (g1.2.1 i hi)))), g1.2.2⟩) (fun q => by first | (exfalso; omega) | exact g2 (by omega)) (fun q => by first | exact g3n | (exfalso; omega)) (by omega)
          · refine zx_iloadN dX10_findsBest_62 rfl rfl ?_
            refine zx_aloadN dX10_findsBest_63 rfl rfl ?_
            refine zy_getI fl_RX10_136 rfl dX10_findsBest_64 rfl ?_
            refine zx_icmp_le (tgt := 85) (by first | exact hz _ _ | assumption | exact zr_b _ | exact zcmp_r _ _ | (unfold zr at *; omega)) (by first | exact hz _ _ | assumption | exact zr_b _ | exact zcmp_r _ _ | (unfold zr at *; omega)) dX10_findsBest_67 (by decide) (fun h67 => ?_) (fun h67 => ?_)
            · refine zx_aloadN dX10_findsBest_85 rfl rfl ?_
              refine zx_dup rfl dX10_findsBest_86 ?_
              refine zy_getI fl_RX10_139 rfl dX10_findsBest_87 rfl ?_
              refine zx_iloadN dX10_findsBest_90 rfl rfl ?_
              refine zx_aloadN dX10_findsBest_91 rfl rfl ?_
              refine zy_getI fl_RX10_136 rfl dX10_findsBest_92 rfl ?_
              refine zx_icmp_ne (tgt := 102) (by first | exact hz _ _ | assumption | exact zr_b _ | exact zcmp_r _ _ | (unfold zr at *; omega)) (by first | exact hz _ _ | assumption | exact zr_b _ | exact zcmp_r _ _ | (unfold zr at *; omega)) dX10_findsBest_95 (by decide) (fun h95 => ?_) (fun h95 => ?_)
              · refine zx_iconst dX10_findsBest_102 ?_
                refine zy_top (b := zb False) ((zb_f (fun q => q)).symm) ?_
                refine zy_cs [zi (zb False)] (sX10_truth (A := False) hfl hz ) dX10_findsBest_103 cw_RX10_94 okX10_truth rfl (Nat.le_of_ble_eq_true rfl) ⟨Nat.le_of_ble_eq_true rfl, Nat.le_of_ble_eq_true rfl, Nat.le_of_ble_eq_true rfl, Nat.le_of_ble_eq_true rfl⟩ ?_
                refine zx_iadd dX10_findsBest_106 ?_
                refine zx_putI fl_RX10_139 rfl (Or.inl fp_10_11) dX10_findsBest_107 ?_
                have w9 : (zput υ 261 11 ((υ.1 261 11) + (zb False))).1 261 9 = υ.1 261 9 := (zput_i _ _ _ _ _ (by omega))
                have w10 : (zput υ 261 11 ((υ.1 261 11) + (zb False))).1 261 10 = υ.1 261 10 := (zput_i _ _ _ _ _ (by omega))
                have w11 : (zput υ 261 11 ((υ.1 261 11) + (zb False))).1 261 11 = (υ.1 261 11) + (zb False) := (zput_s _ _ _ _)
                have hzT : zb True = 1 := zb_t trivial
                have hzF : zb False = 0 := zb_f (fun q => q)
                have er : ((D 4 p - 1450).toNat) + (r - ((D 4 p - 1450).toNat)) = r := by omega
                have g3n : (zput υ 261 11 ((υ.1 261 11) + (zb False))).1 261 9 = 1450 + ((yTop (sc D (Ht D) p) ((D 4 p - 1450).toNat) (r + 1 - ((D 4 p - 1450).toNat)) : Nat) : Int) ∧ (zput υ 261 11 ((υ.1 261 11) + (zb False))).1 261 10 = sc D (Ht D) p (yTop (sc D (Ht D) p) ((D 4 p - 1450).toNat) (r + 1 - ((D 4 p - 1450).toNat))) ∧ (zput υ 261 11 ((υ.1 261 11) + (zb False))).1 261 11 = yCnt (sc D (Ht D) p) ((D 4 p - 1450).toNat) (r + 1 - ((D 4 p - 1450).toNat)) := by
                  rw [w9, w10, w11]
                  by_cases e0 : r = ((D 4 p - 1450).toNat)
                  · have g2r := g2 (by omega)
                    have fb := fb0 (sc D (Ht D) p) ((D 4 p - 1450).toNat)
                    rw [show r + 1 - ((D 4 p - 1450).toNat) = 1 by omega, fb.1, fb.2, ← e0]
                    first | (exfalso; omega) | exact ⟨by omega, by omega, by omega⟩
                  · obtain ⟨q1, q2, q3⟩ := g3 (by omega)
                    have fu := @fb_up (sc D (Ht D) p) ((D 4 p - 1450).toNat) (r - ((D 4 p - 1450).toNat))
                    have fe := @fb_eq (sc D (Ht D) p) ((D 4 p - 1450).toNat) (r - ((D 4 p - 1450).toNat))
                    have fn := @fb_no (sc D (Ht D) p) ((D 4 p - 1450).toNat) (r - ((D 4 p - 1450).toNat))
                    rw [er] at fu fe fn
                    rw [show r + 1 - ((D 4 p - 1450).toNat) = (r - ((D 4 p - 1450).toNat)) + 1 by omega]
                    rw [← hsu, ← q2] at fu fe fn
                    first
                    | (exfalso; omega)
                    | (rw [(fu (by omega)).1, (fu (by omega)).2, ← hsu]; exact ⟨by omega, by omega, by omega⟩)
                    | (rw [(fe (by omega) (by omega)).1, (fe (by omega) (by omega)).2]; exact ⟨by omega, by omega, by omega⟩)
                    | (rw [(fn (by omega) (by omega)).1, (fn (by omega) (by omega)).2]; exact ⟨by omega, by omega, by omega⟩)
                refine zy_iinc (b := y + 1) [zf 10 261, zi ((p : Nat) : Int), zi (acc + (υ.1 267 r)), zi (y + 1)] dX10_findsBest_110 rfl (by omega) (Nat.le_of_ble_eq_true rfl) rfl rfl ?_
                refine zx_goto (tgt := 16) dX10_findsBest_113 (by decide) ?_
                exact ih16 (zput υ 261 11 ((υ.1 261 11) + (zb False))) (r + 1) (y + 1) (acc + (υ.1 267 r)) (zOK_put hz (by first | exact hz _ _ | assumption | exact zr_b _ | exact zcmp_r _ _ | (unfold zr at *; omega))) (by omega) (by rw [zs_s, ← hacc]; have := e267 r; omega) (by first | exact g1 | exact ⟨fun k hk i => (zput_k _ _ _ _ _ (by omega)).trans (g1.1 k hk i), fun i hi => (zput_i _ _ _ _ _ (by omega)).trans (g1.2.1 i hi), g1.2.2⟩ | exact ⟨fun k hk i => (zput_k _ _ _ _ _ (by omega)).trans ((zput_k _ _ _ _ _ (by omega)).trans ((zput_k _ _ _ _ _ (by omega)).trans ((zput_k _ _ _ _ _ (by omega)).trans (g1.1 k hk i)))), fun i hi => (zput_i _ _ _ _ _ (by omega)).trans ((zput_i _ _ _ _ _ (by omega)).trans ((zput_i _ _ _ _ _ (by omega)).trans ((zput_i _ _ _ _ _ (by omega)).trans (g1.2.1 i hi)))), g1.2.2⟩) (fun q => by first | (exfalso; omega) | exact g2 (by omega)) (fun q => by first | exact g3n | (exfalso; omega)) (by omega)
              · refine zx_iconst dX10_findsBest_98 ?_
                refine zy_top (b := zb True) ((zb_t trivial).symm) ?_
                refine zx_goto (tgt := 103) dX10_findsBest_99 (by decide) ?_
                refine zy_cs [zi (zb True)] (sX10_truth (A := True) hfl hz ) dX10_findsBest_103 cw_RX10_94 okX10_truth rfl (Nat.le_of_ble_eq_true rfl) ⟨Nat.le_of_ble_eq_true rfl, Nat.le_of_ble_eq_true rfl, Nat.le_of_ble_eq_true rfl, Nat.le_of_ble_eq_true rfl⟩ ?_
                refine zx_iadd dX10_findsBest_106 ?_
                refine zx_putI fl_RX10_139 rfl (Or.inl fp_10_11) dX10_findsBest_107 ?_
                have w9 : (zput υ 261 11 ((υ.1 261 11) + (zb True))).1 261 9 = υ.1 261 9 := (zput_i _ _ _ _ _ (by omega))
                have w10 : (zput υ 261 11 ((υ.1 261 11) + (zb True))).1 261 10 = υ.1 261 10 := (zput_i _ _ _ _ _ (by omega))
                have w11 : (zput υ 261 11 ((υ.1 261 11) + (zb True))).1 261 11 = (υ.1 261 11) + (zb True) := (zput_s _ _ _ _)
                have hzT : zb True = 1 := zb_t trivial
                have hzF : zb False = 0 := zb_f (fun q => q)
                have er : ((D 4 p - 1450).toNat) + (r - ((D 4 p - 1450).toNat)) = r := by omega
                have g3n : (zput υ 261 11 ((υ.1 261 11) + (zb True))).1 261 9 = 1450 + ((yTop (sc D (Ht D) p) ((D 4 p - 1450).toNat) (r + 1 - ((D 4 p - 1450).toNat)) : Nat) : Int) ∧ (zput υ 261 11 ((υ.1 261 11) + (zb True))).1 261 10 = sc D (Ht D) p (yTop (sc D (Ht D) p) ((D 4 p - 1450).toNat) (r + 1 - ((D 4 p - 1450).toNat))) ∧ (zput υ 261 11 ((υ.1 261 11) + (zb True))).1 261 11 = yCnt (sc D (Ht D) p) ((D 4 p - 1450).toNat) (r + 1 - ((D 4 p - 1450).toNat)) := by
                  rw [w9, w10, w11]
                  by_cases e0 : r = ((D 4 p - 1450).toNat)
                  · have g2r := g2 (by omega)
                    have fb := fb0 (sc D (Ht D) p) ((D 4 p - 1450).toNat)
                    rw [show r + 1 - ((D 4 p - 1450).toNat) = 1 by omega, fb.1, fb.2, ← e0]
                    first | (exfalso; omega) | exact ⟨by omega, by omega, by omega⟩
                  · obtain ⟨q1, q2, q3⟩ := g3 (by omega)
                    have fu := @fb_up (sc D (Ht D) p) ((D 4 p - 1450).toNat) (r - ((D 4 p - 1450).toNat))
                    have fe := @fb_eq (sc D (Ht D) p) ((D 4 p - 1450).toNat) (r - ((D 4 p - 1450).toNat))
                    have fn := @fb_no (sc D (Ht D) p) ((D 4 p - 1450).toNat) (r - ((D 4 p - 1450).toNat))
                    rw [er] at fu fe fn
                    rw [show r + 1 - ((D 4 p - 1450).toNat) = (r - ((D 4 p - 1450).toNat)) + 1 by omega]
                    rw [← hsu, ← q2] at fu fe fn
                    first
                    | (exfalso; omega)
                    | (rw [(fu (by omega)).1, (fu (by omega)).2, ← hsu]; exact ⟨by omega, by omega, by omega⟩)
                    | (rw [(fe (by omega) (by omega)).1, (fe (by omega) (by omega)).2]; exact ⟨by omega, by omega, by omega⟩)
                    | (rw [(fn (by omega) (by omega)).1, (fn (by omega) (by omega)).2]; exact ⟨by omega, by omega, by omega⟩)
                refine zy_iinc (b := y + 1) [zf 10 261, zi ((p : Nat) : Int), zi (acc + (υ.1 267 r)), zi (y + 1)] dX10_findsBest_110 rfl (by omega) (Nat.le_of_ble_eq_true rfl) rfl rfl ?_
                refine zx_goto (tgt := 16) dX10_findsBest_113 (by decide) ?_
                exact ih16 (zput υ 261 11 ((υ.1 261 11) + (zb True))) (r + 1) (y + 1) (acc + (υ.1 267 r)) (zOK_put hz (by first | exact hz _ _ | assumption | exact zr_b _ | exact zcmp_r _ _ | (unfold zr at *; omega))) (by omega) (by rw [zs_s, ← hacc]; have := e267 r; omega) (by first | exact g1 | exact ⟨fun k hk i => (zput_k _ _ _ _ _ (by omega)).trans (g1.1 k hk i), fun i hi => (zput_i _ _ _ _ _ (by omega)).trans (g1.2.1 i hi), g1.2.2⟩ | exact ⟨fun k hk i => (zput_k _ _ _ _ _ (by omega)).trans ((zput_k _ _ _ _ _ (by omega)).trans ((zput_k _ _ _ _ _ (by omega)).trans ((zput_k _ _ _ _ _ (by omega)).trans (g1.1 k hk i)))), fun i hi => (zput_i _ _ _ _ _ (by omega)).trans ((zput_i _ _ _ _ _ (by omega)).trans ((zput_i _ _ _ _ _ (by omega)).trans ((zput_i _ _ _ _ _ (by omega)).trans (g1.2.1 i hi)))), g1.2.2⟩) (fun q => by first | (exfalso; omega) | exact g2 (by omega)) (fun q => by first | exact g3n | (exfalso; omega)) (by omega)
            · refine zx_aloadN dX10_findsBest_70 rfl rfl ?_
              refine zx_iloadN dX10_findsBest_71 rfl rfl ?_
              refine zx_putI fl_RX10_133 rfl (Or.inl fp_10_9) dX10_findsBest_72 ?_
              refine zx_aloadN dX10_findsBest_75 rfl rfl ?_
              refine zx_iloadN dX10_findsBest_76 rfl rfl ?_
              refine zx_putI fl_RX10_136 rfl (Or.inl fp_10_10) dX10_findsBest_77 ?_
              refine zx_aloadN dX10_findsBest_80 rfl rfl ?_
              refine zx_iconst dX10_findsBest_81 ?_
              refine zx_putI fl_RX10_139 rfl (Or.inl fp_10_11) dX10_findsBest_82 ?_
              refine zx_aloadN dX10_findsBest_85 rfl rfl ?_
              refine zx_dup rfl dX10_findsBest_86 ?_
              refine zy_getI (v := 0) fl_RX10_139 rfl dX10_findsBest_87 (zput_s _ _ _ _) ?_
              refine zx_iloadN dX10_findsBest_90 rfl rfl ?_
              refine zx_aloadN dX10_findsBest_91 rfl rfl ?_
              refine zy_getI (v := acc + (υ.1 267 r)) fl_RX10_136 rfl dX10_findsBest_92 ((zput_i _ _ _ _ _ (by omega)).trans (zput_s _ _ _ _)) ?_
              refine zx_icmp_ne (tgt := 102) (by first | exact hz _ _ | assumption | exact zr_b _ | exact zcmp_r _ _ | (unfold zr at *; omega)) (by first | exact hz _ _ | assumption | exact zr_b _ | exact zcmp_r _ _ | (unfold zr at *; omega)) dX10_findsBest_95 (by decide) (fun h95 => ?_) (fun h95 => ?_)
              · refine zx_iconst dX10_findsBest_102 ?_
                refine zy_top (b := zb False) ((zb_f (fun q => q)).symm) ?_
                refine zy_cs [zi (zb False)] (sX10_truth (A := False) hfl (zOK_put (zOK_put (zOK_put hz (by first | exact hz _ _ | assumption | exact zr_b _ | exact zcmp_r _ _ | (unfold zr at *; omega))) (by first | exact hz _ _ | assumption | exact zr_b _ | exact zcmp_r _ _ | (unfold zr at *; omega))) (by unfold zr; omega)) ) dX10_findsBest_103 cw_RX10_94 okX10_truth rfl (Nat.le_of_ble_eq_true rfl) ⟨Nat.le_of_ble_eq_true rfl, Nat.le_of_ble_eq_true rfl, Nat.le_of_ble_eq_true rfl, Nat.le_of_ble_eq_true rfl⟩ ?_
                refine zx_iadd dX10_findsBest_106 ?_
                refine zx_putI fl_RX10_139 rfl (Or.inl fp_10_11) dX10_findsBest_107 ?_
                have w9 : (zput (zput (zput (zput υ 261 9 y) 261 10 (acc + (υ.1 267 r))) 261 11 0) 261 11 (0 + (zb False))).1 261 9 = y := ((zput_i _ _ _ _ _ (by omega)).trans ((zput_i _ _ _ _ _ (by omega)).trans ((zput_i _ _ _ _ _ (by omega)).trans (zput_s _ _ _ _))))
                have w10 : (zput (zput (zput (zput υ 261 9 y) 261 10 (acc + (υ.1 267 r))) 261 11 0) 261 11 (0 + (zb False))).1 261 10 = acc + (υ.1 267 r) := ((zput_i _ _ _ _ _ (by omega)).trans ((zput_i _ _ _ _ _ (by omega)).trans (zput_s _ _ _ _)))
                have w11 : (zput (zput (zput (zput υ 261 9 y) 261 10 (acc + (υ.1 267 r))) 261 11 0) 261 11 (0 + (zb False))).1 261 11 = 0 + (zb False) := (zput_s _ _ _ _)
                have hzT : zb True = 1 := zb_t trivial
                have hzF : zb False = 0 := zb_f (fun q => q)
                have er : ((D 4 p - 1450).toNat) + (r - ((D 4 p - 1450).toNat)) = r := by omega
                have g3n : (zput (zput (zput (zput υ 261 9 y) 261 10 (acc + (υ.1 267 r))) 261 11 0) 261 11 (0 + (zb False))).1 261 9 = 1450 + ((yTop (sc D (Ht D) p) ((D 4 p - 1450).toNat) (r + 1 - ((D 4 p - 1450).toNat)) : Nat) : Int) ∧ (zput (zput (zput (zput υ 261 9 y) 261 10 (acc + (υ.1 267 r))) 261 11 0) 261 11 (0 + (zb False))).1 261 10 = sc D (Ht D) p (yTop (sc D (Ht D) p) ((D 4 p - 1450).toNat) (r + 1 - ((D 4 p - 1450).toNat))) ∧ (zput (zput (zput (zput υ 261 9 y) 261 10 (acc + (υ.1 267 r))) 261 11 0) 261 11 (0 + (zb False))).1 261 11 = yCnt (sc D (Ht D) p) ((D 4 p - 1450).toNat) (r + 1 - ((D 4 p - 1450).toNat)) := by
                  rw [w9, w10, w11]
                  by_cases e0 : r = ((D 4 p - 1450).toNat)
                  · have g2r := g2 (by omega)
                    have fb := fb0 (sc D (Ht D) p) ((D 4 p - 1450).toNat)
                    rw [show r + 1 - ((D 4 p - 1450).toNat) = 1 by omega, fb.1, fb.2, ← e0]
                    first | (exfalso; omega) | exact ⟨by omega, by omega, by omega⟩
                  · obtain ⟨q1, q2, q3⟩ := g3 (by omega)
                    have fu := @fb_up (sc D (Ht D) p) ((D 4 p - 1450).toNat) (r - ((D 4 p - 1450).toNat))
                    have fe := @fb_eq (sc D (Ht D) p) ((D 4 p - 1450).toNat) (r - ((D 4 p - 1450).toNat))
                    have fn := @fb_no (sc D (Ht D) p) ((D 4 p - 1450).toNat) (r - ((D 4 p - 1450).toNat))
                    rw [er] at fu fe fn
                    rw [show r + 1 - ((D 4 p - 1450).toNat) = (r - ((D 4 p - 1450).toNat)) + 1 by omega]
                    rw [← hsu, ← q2] at fu fe fn
                    first
                    | (exfalso; omega)
                    | (rw [(fu (by omega)).1, (fu (by omega)).2, ← hsu]; exact ⟨by omega, by omega, by omega⟩)
                    | (rw [(fe (by omega) (by omega)).1, (fe (by omega) (by omega)).2]; exact ⟨by omega, by omega, by omega⟩)
                    | (rw [(fn (by omega) (by omega)).1, (fn (by omega) (by omega)).2]; exact ⟨by omega, by omega, by omega⟩)
                refine zy_iinc (b := y + 1) [zf 10 261, zi ((p : Nat) : Int), zi (acc + (υ.1 267 r)), zi (y + 1)] dX10_findsBest_110 rfl (by omega) (Nat.le_of_ble_eq_true rfl) rfl rfl ?_
                refine zx_goto (tgt := 16) dX10_findsBest_113 (by decide) ?_
                exact ih16 (zput (zput (zput (zput υ 261 9 y) 261 10 (acc + (υ.1 267 r))) 261 11 0) 261 11 (0 + (zb False))) (r + 1) (y + 1) (acc + (υ.1 267 r)) (zOK_put (zOK_put (zOK_put (zOK_put hz (by first | exact hz _ _ | assumption | exact zr_b _ | exact zcmp_r _ _ | (unfold zr at *; omega))) (by first | exact hz _ _ | assumption | exact zr_b _ | exact zcmp_r _ _ | (unfold zr at *; omega))) (by unfold zr; omega)) (by first | exact hz _ _ | assumption | exact zr_b _ | exact zcmp_r _ _ | (unfold zr at *; omega))) (by omega) (by rw [zs_s, ← hacc]; have := e267 r; omega) (by first | exact g1 | exact ⟨fun k hk i => (zput_k _ _ _ _ _ (by omega)).trans (g1.1 k hk i), fun i hi => (zput_i _ _ _ _ _ (by omega)).trans (g1.2.1 i hi), g1.2.2⟩ | exact ⟨fun k hk i => (zput_k _ _ _ _ _ (by omega)).trans ((zput_k _ _ _ _ _ (by omega)).trans ((zput_k _ _ _ _ _ (by omega)).trans ((zput_k _ _ _ _ _ (by omega)).trans (g1.1 k hk i)))), fun i hi => (zput_i _ _ _ _ _ (by omega)).trans ((zput_i _ _ _ _ _ (by omega)).trans ((zput_i _ _ _ _ _ (by omega)).trans ((zput_i _ _ _ _ _ (by omega)).trans (g1.2.1 i hi)))), g1.2.2⟩) (fun q => by first | (exfalso; omega) | exact g2 (by omega)) (fun q => by first | exact g3n | (exfalso; omega)) (by omega)
              · refine zx_iconst dX10_findsBest_98 ?_
                refine zy_top (b := zb True) ((zb_t trivial).symm) ?_
                refine zx_goto (tgt := 103) dX10_findsBest_99 (by decide) ?_
                refine zy_cs [zi (zb True)] (sX10_truth (A := True) hfl (zOK_put (zOK_put (zOK_put hz (by first | exact hz _ _ | assumption | exact zr_b _ | exact zcmp_r _ _ | (unfold zr at *; omega))) (by first | exact hz _ _ | assumption | exact zr_b _ | exact zcmp_r _ _ | (unfold zr at *; omega))) (by unfold zr; omega)) ) dX10_findsBest_103 cw_RX10_94 okX10_truth rfl (Nat.le_of_ble_eq_true rfl) ⟨Nat.le_of_ble_eq_true rfl, Nat.le_of_ble_eq_true rfl, Nat.le_of_ble_eq_true rfl, Nat.le_of_ble_eq_true rfl⟩ ?_
                refine zx_iadd dX10_findsBest_106 ?_
                refine zx_putI fl_RX10_139 rfl (Or.inl fp_10_11) dX10_findsBest_107 ?_
                have w9 : (zput (zput (zput (zput υ 261 9 y) 261 10 (acc + (υ.1 267 r))) 261 11 0) 261 11 (0 + (zb True))).1 261 9 = y := ((zput_i _ _ _ _ _ (by omega)).trans ((zput_i _ _ _ _ _ (by omega)).trans ((zput_i _ _ _ _ _ (by omega)).trans (zput_s _ _ _ _))))
                have w10 : (zput (zput (zput (zput υ 261 9 y) 261 10 (acc + (υ.1 267 r))) 261 11 0) 261 11 (0 + (zb True))).1 261 10 = acc + (υ.1 267 r) := ((zput_i _ _ _ _ _ (by omega)).trans ((zput_i _ _ _ _ _ (by omega)).trans (zput_s _ _ _ _)))
                have w11 : (zput (zput (zput (zput υ 261 9 y) 261 10 (acc + (υ.1 267 r))) 261 11 0) 261 11 (0 + (zb True))).1 261 11 = 0 + (zb True) := (zput_s _ _ _ _)
                have hzT : zb True = 1 := zb_t trivial
                have hzF : zb False = 0 := zb_f (fun q => q)
                have er : ((D 4 p - 1450).toNat) + (r - ((D 4 p - 1450).toNat)) = r := by omega
                have g3n : (zput (zput (zput (zput υ 261 9 y) 261 10 (acc + (υ.1 267 r))) 261 11 0) 261 11 (0 + (zb True))).1 261 9 = 1450 + ((yTop (sc D (Ht D) p) ((D 4 p - 1450).toNat) (r + 1 - ((D 4 p - 1450).toNat)) : Nat) : Int) ∧ (zput (zput (zput (zput υ 261 9 y) 261 10 (acc + (υ.1 267 r))) 261 11 0) 261 11 (0 + (zb True))).1 261 10 = sc D (Ht D) p (yTop (sc D (Ht D) p) ((D 4 p - 1450).toNat) (r + 1 - ((D 4 p - 1450).toNat))) ∧ (zput (zput (zput (zput υ 261 9 y) 261 10 (acc + (υ.1 267 r))) 261 11 0) 261 11 (0 + (zb True))).1 261 11 = yCnt (sc D (Ht D) p) ((D 4 p - 1450).toNat) (r + 1 - ((D 4 p - 1450).toNat)) := by
                  rw [w9, w10, w11]
                  by_cases e0 : r = ((D 4 p - 1450).toNat)
                  · have g2r := g2 (by omega)
                    have fb := fb0 (sc D (Ht D) p) ((D 4 p - 1450).toNat)
                    rw [show r + 1 - ((D 4 p - 1450).toNat) = 1 by omega, fb.1, fb.2, ← e0]
                    first | (exfalso; omega) | exact ⟨by omega, by omega, by omega⟩
                  · obtain ⟨q1, q2, q3⟩ := g3 (by omega)
                    have fu := @fb_up (sc D (Ht D) p) ((D 4 p - 1450).toNat) (r - ((D 4 p - 1450).toNat))
                    have fe := @fb_eq (sc D (Ht D) p) ((D 4 p - 1450).toNat) (r - ((D 4 p - 1450).toNat))
                    have fn := @fb_no (sc D (Ht D) p) ((D 4 p - 1450).toNat) (r - ((D 4 p - 1450).toNat))
                    rw [er] at fu fe fn
                    rw [show r + 1 - ((D 4 p - 1450).toNat) = (r - ((D 4 p - 1450).toNat)) + 1 by omega]
                    rw [← hsu, ← q2] at fu fe fn
                    first
                    | (exfalso; omega)
                    | (rw [(fu (by omega)).1, (fu (by omega)).2, ← hsu]; exact ⟨by omega, by omega, by omega⟩)
                    | (rw [(fe (by omega) (by omega)).1, (fe (by omega) (by omega)).2]; exact ⟨by omega, by omega, by omega⟩)
                    | (rw [(fn (by omega) (by omega)).1, (fn (by omega) (by omega)).2]; exact ⟨by omega, by omega, by omega⟩)
                refine zy_iinc (b := y + 1) [zf 10 261, zi ((p : Nat) : Int), zi (acc + (υ.1 267 r)), zi (y + 1)] dX10_findsBest_110 rfl (by omega) (Nat.le_of_ble_eq_true rfl) rfl rfl ?_
                refine zx_goto (tgt := 16) dX10_findsBest_113 (by decide) ?_
                exact ih16 (zput (zput (zput (zput υ 261 9 y) 261 10 (acc + (υ.1 267 r))) 261 11 0) 261 11 (0 + (zb True))) (r + 1) (y + 1) (acc + (υ.1 267 r)) (zOK_put (zOK_put (zOK_put (zOK_put hz (by first | exact hz _ _ | assumption | exact zr_b _ | exact zcmp_r _ _ | (unfold zr at *; omega))) (by first | exact hz _ _ | assumption | exact zr_b _ | exact zcmp_r _ _ | (unfold zr at *; omega))) (by unfold zr; omega)) (by first | exact hz _ _ | assumption | exact zr_b _ | exact zcmp_r _ _ | (unfold zr at *; omega))) (by omega) (by rw [zs_s, ← hacc]; have := e267 r; omega) (by first | exact g1 | exact ⟨fun k hk i => (zput_k _ _ _ _ _ (by omega)).trans (g1.1 k hk i), fun i hi => (zput_i _ _ _ _ _ (by omega)).trans (g1.2.1 i hi), g1.2.2⟩ | exact ⟨fun k hk i => (zput_k _ _ _ _ _ (by omega)).trans ((zput_k _ _ _ _ _ (by omega)).trans ((zput_k _ _ _ _ _ (by omega)).trans ((zput_k _ _ _ _ _ (by omega)).trans (g1.1 k hk i)))), fun i hi => (zput_i _ _ _ _ _ (by omega)).trans ((zput_i _ _ _ _ _ (by omega)).trans ((zput_i _ _ _ _ _ (by omega)).trans ((zput_i _ _ _ _ _ (by omega)).trans (g1.2.1 i hi)))), g1.2.2⟩) (fun q => by first | (exfalso; omega) | exact g2 (by omega)) (fun q => by first | exact g3n | (exfalso; omega)) (by omega)
        · refine zx_goto (tgt := 110) dX10_findsBest_51 (by decide) ?_
          refine zy_iinc (b := y + 1) [zf 10 261, zi ((p : Nat) : Int), zi (acc + (υ.1 267 r)), zi (y + 1)] dX10_findsBest_110 rfl (by omega) (Nat.le_of_ble_eq_true rfl) rfl rfl ?_
          refine zx_goto (tgt := 16) dX10_findsBest_113 (by decide) ?_
          exact ih16 υ (r + 1) (y + 1) (acc + (υ.1 267 r)) hz (by omega) (by rw [zs_s, ← hacc]; have := e267 r; omega) (by first | exact g1 | exact ⟨fun k hk i => (zput_k _ _ _ _ _ (by omega)).trans (g1.1 k hk i), fun i hi => (zput_i _ _ _ _ _ (by omega)).trans (g1.2.1 i hi), g1.2.2⟩ | exact ⟨fun k hk i => (zput_k _ _ _ _ _ (by omega)).trans ((zput_k _ _ _ _ _ (by omega)).trans ((zput_k _ _ _ _ _ (by omega)).trans ((zput_k _ _ _ _ _ (by omega)).trans (g1.1 k hk i)))), fun i hi => (zput_i _ _ _ _ _ (by omega)).trans ((zput_i _ _ _ _ _ (by omega)).trans ((zput_i _ _ _ _ _ (by omega)).trans ((zput_i _ _ _ _ _ (by omega)).trans (g1.2.1 i hi)))), g1.2.2⟩) (fun q => by first | (exfalso; omega) | exact g2 (by omega)) (fun q => by first | exact g3n | (exfalso; omega)) (by omega)
  exact L16 _ (zput τ2 261 9 (-1)) 0 1450 0 (zOK_put hz2 (by unfold zr; omega)) (by omega) rfl ⟨fun k hk i => zput_k _ _ _ _ _ (by omega), fun i hi => zput_i _ _ _ _ _ (by omega), rfl⟩ (fun _ => zput_s _ _ _ _) (fun q => by omega) (Nat.lt_succ_self _)
set_option maxRecDepth 20000 in
set_option maxHeartbeats 2000000 in
theorem sX10_bestOf {l : Launch} {w : zW} (hfl : l.stackTraces = false) {σ : zS} {D : zBk} {p : Nat} (hz : zOK σ) (hW : WF D) (hR : Rel D (σ.1 262)) (hp : (p : Int) < D 1 0) : Sp l w mX10_bestOf 6 0 [zf 10 261, zi ((p : Nat) : Int)] σ (zqv (some (zi (tS D (Ht D) p))) (fun τ => zOK τ ∧ mfr σ τ (fun k => k = 267) (fun i => 9 ≤ i ∧ i ≤ 11))) := by
  obtain ⟨Q, hQ⟩ : ∃ Q : zQ, Q = (zqv (some (zi (tS D (Ht D) p))) (fun τ => zOK τ ∧ mfr σ τ (fun k => k = 267) (fun i => 9 ≤ i ∧ i ≤ 11))) := ⟨_, rfl⟩
  rw [← hQ]
  refine zx_enter hfl (by decide) rfl 0 rfl ?_
  show zX l w mX10_bestOf (zMQ w 6 0 Q) 0 [zf 10 261, zi ((p : Nat) : Int)] [] 0 σ
  have hP : 0 ≤ D 1 0 ∧ D 1 0 ≤ 8 := hW.1.1
  have hM : 0 ≤ D 1 7 ∧ D 1 7 ≤ 8 := hW.1.2.1
  have hE : 0 ≤ D 1 10 ∧ D 1 10 ≤ 12 := hW.1.2.2.1
  have hK : 0 ≤ D 12 0 ∧ D 12 0 ≤ 40 := hW.1.2.2.2
  have r0 : σ.1 262 0 = D 1 0 := hR.1.1
  have r1 : σ.1 262 1 = D 1 7 := hR.1.2.1
  have r2 : σ.1 262 2 = D 1 10 := hR.1.2.2.1
  have r3 : σ.1 262 3 = D 12 0 := hR.1.2.2.2
  refine zx_aloadN dX10_bestOf_0 rfl rfl ?_
  refine zx_iloadN dX10_bestOf_1 rfl rfl ?_
  refine zy_cvvR [zi ((p : Nat) : Int)] (sX10_findsBest (D := D) (p := p) hfl hz (by first | assumption | omega) (by first | assumption | (refine Rel_put (by decide) ?_; assumption) | (refine Rel_put (by decide) (Rel_put (by decide) ?_); assumption) | (refine Rel_put (by decide) (Rel_put (by decide) (Rel_put (by decide) ?_)); assumption)) (by first | assumption | omega)) dX10_bestOf_2 (by decide) rfl cw_RX10_142 okX10_findsBest rfl (Nat.le_of_ble_eq_true rfl) ⟨Nat.le_of_ble_eq_true rfl, Nat.le_of_ble_eq_true rfl, Nat.le_of_ble_eq_true rfl, Nat.le_of_ble_eq_true rfl⟩ (fun τ2 hr2 => ?_)
  have hz2 : zOK τ2 := hr2.1
  refine zx_aloadN dX10_bestOf_5 rfl rfl ?_
  refine zy_getI fl_RX10_136 rfl dX10_bestOf_6 rfl ?_
  refine zx_iret rfl rfl dX10_bestOf_9 ?_
  rw [hQ]
  refine ⟨congrArg (fun z : Int => (Sum.inl (some (zi z)) : Option zV ⊕ String)) ?_, ?_⟩
  · exact hr2.2.2.2.1
  exact ⟨hz2, hr2.2.1⟩
set_option maxRecDepth 20000 in
set_option maxHeartbeats 2000000 in
theorem sX10_laysScores {l : Launch} {w : zW} (hfl : l.stackTraces = false) {σ : zS} {D : zBk}  (hz : zOK σ) (hW : WF D) (hR : Rel D (σ.1 262)) : Sp l w mX10_laysScores 7 0 [zf 10 261] σ (zqv (none) (fun τ => zOK τ ∧ mfr σ τ (fun k => k = 267 ∨ k = 268) (fun i => 9 ≤ i ∧ i ≤ 11) ∧ (∀ p : Nat, (p : Int) < D 1 0 → τ.1 268 p = tS D (Ht D) p))) := by
  obtain ⟨Q, hQ⟩ : ∃ Q : zQ, Q = (zqv (none) (fun τ => zOK τ ∧ mfr σ τ (fun k => k = 267 ∨ k = 268) (fun i => 9 ≤ i ∧ i ≤ 11) ∧ (∀ p : Nat, (p : Int) < D 1 0 → τ.1 268 p = tS D (Ht D) p))) := ⟨_, rfl⟩
  rw [← hQ]
  refine zx_enter hfl (by decide) rfl 1 rfl ?_
  show zX l w mX10_laysScores (zMQ w 7 0 Q) 0 [zf 10 261, zu] [] 0 σ
  have hP : 0 ≤ D 1 0 ∧ D 1 0 ≤ 8 := hW.1.1
  have hM : 0 ≤ D 1 7 ∧ D 1 7 ≤ 8 := hW.1.2.1
  have hE : 0 ≤ D 1 10 ∧ D 1 10 ≤ 12 := hW.1.2.2.1
  have hK : 0 ≤ D 12 0 ∧ D 12 0 ≤ 40 := hW.1.2.2.2
  have r0 : σ.1 262 0 = D 1 0 := hR.1.1
  have r1 : σ.1 262 1 = D 1 7 := hR.1.2.1
  have r2 : σ.1 262 2 = D 1 10 := hR.1.2.2.1
  have r3 : σ.1 262 3 = D 12 0 := hR.1.2.2.2
  refine zx_iconst dX10_laysScores_0 ?_
  refine zy_istoreN [zf 10 261, zi 0] dX10_laysScores_1 rfl (Nat.le_of_ble_eq_true rfl) (Nat.le_of_ble_eq_true rfl) rfl rfl ?_
  have L2 : ∀ (N : Nat) (τ : zS) (p : Nat), (zOK τ) → ((p : Int) ≤ D 1 0) → (mfr σ τ (fun k => k = 267 ∨ k = 268) (fun i => 9 ≤ i ∧ i ≤ 11)) → (∀ q : Nat, q < p → τ.1 268 q = tS D (Ht D) q) → (9 - p) < N → zX l w mX10_laysScores (zMQ w 7 0 Q) 2 [zf 10 261, zi ((p : Nat) : Int)] [] 0 τ := by
    intro N
    induction N with
    | zero => intro τ p _ _ _ _ _; exact absurd (by assumption) (Nat.not_lt_zero _)
    | succ N ih2 =>
      intro τ p hz hp_ h1 h2 hN
      have c0 : τ.1 262 0 = σ.1 262 0 := h1.1 262 (by omega) (by omega) 0
      have hRτ := mfr_R h1 (by omega) hR
      refine zx_iloadN dX10_laysScores_2 rfl rfl ?_
      refine zx_aloadN dX10_laysScores_3 rfl rfl ?_
      refine zy_getR (q' := 262) fl_RX10_7 rfl dX10_laysScores_4 rfl ?_
      refine zx_iconst dX10_laysScores_7 ?_
      refine zy_iald (v := τ.1 262 0) rfl (by decide) (by decide) dX10_laysScores_8 (by omega) (by omega) rfl ?_
      refine zx_icmp_ge (tgt := 29) (by first | exact hz _ _ | assumption | exact zr_b _ | exact zcmp_r _ _ | (unfold zr at *; omega)) (by first | exact hz _ _ | assumption | exact zr_b _ | exact zcmp_r _ _ | (unfold zr at *; omega)) dX10_laysScores_9 (by decide) (fun h9 => ?_) (fun h9 => ?_)
      · refine zx_vret rfl dX10_laysScores_29 ?_
        rw [hQ]
        refine ⟨rfl, ?_⟩
        exact ⟨hz, h1, fun q hq => h2 q (by omega)⟩
      · refine zx_aloadN dX10_laysScores_12 rfl rfl ?_
        refine zy_getR (q' := 268) fl_RX10_28 rfl dX10_laysScores_13 rfl ?_
        refine zx_iloadN dX10_laysScores_16 rfl rfl ?_
        refine zx_aloadN dX10_laysScores_17 rfl rfl ?_
        refine zx_iloadN dX10_laysScores_18 rfl rfl ?_
        refine zy_cvR [zi ((p : Nat) : Int)] (sX10_bestOf (D := D) (p := p) hfl hz (by first | assumption | omega) hRτ (by first | assumption | omega)) dX10_laysScores_19 (by decide) rfl cw_RX10_145 okX10_bestOf rfl (Nat.le_of_ble_eq_true rfl) ⟨Nat.le_of_ble_eq_true rfl, Nat.le_of_ble_eq_true rfl, Nat.le_of_ble_eq_true rfl, Nat.le_of_ble_eq_true rfl⟩ (fun τ19 hr19 => ?_)
        have hz19 : zOK τ19 := hr19.1
        have htb := tS_b (H := Ht D) hW p
        refine zy_iast (i := p) rfl (by decide) (by decide) dX10_laysScores_22 (by omega) (by omega) rfl ?_
        refine zy_iinc (b := ((p + 1 : Nat) : Int)) [zf 10 261, zi ((p + 1 : Nat) : Int)] dX10_laysScores_23 rfl (by omega) (Nat.le_of_ble_eq_true rfl) rfl rfl ?_
        refine zx_goto (tgt := 2) dX10_laysScores_26 (by decide) ?_
        exact ih2 (zput τ19 268 p (tS D (Ht D) p)) (p + 1) (zOK_put hz19 (by first | exact hz19 _ _ | assumption | exact zr_b _ | exact zcmp_r _ _ | (unfold zr at *; omega))) (by first | assumption | omega) (mfr_tr h1 (mfr_put (A := fun k => k = 267 ∨ k = 268) (F := fun i => 9 ≤ i ∧ i ≤ 11) (mfr_mo hr19.2 (fun _ q => Or.inl q) (fun _ q => q)) (Or.inr rfl) (by decide)) (fun k q => q.elim id id) (fun k q => q.elim id id)) (fun q hq => by
      rcases Nat.lt_succ_iff_lt_or_eq.mp hq with e | rfl
      · exact (zput_i _ _ _ _ _ (by omega)).trans ((hr19.2.1 268 (by omega) (by omega) q).trans (h2 q e))
      · exact zput_s _ _ _ _) (by omega)
  exact L2 _ σ 0 hz (by first | assumption | omega) (mfr_rf _ _ _) (fun q hq => absurd hq (Nat.not_lt_zero q)) (Nat.lt_succ_self _)
set_option maxRecDepth 20000 in
set_option maxHeartbeats 2000000 in
theorem sX10_isAhead {l : Launch} {w : zW} (hfl : l.stackTraces = false) {σ : zS} {D : zBk} {p q : Nat} (hz : zOK σ) (hW : WF D) (hR : Rel D (σ.1 262)) (hp : (p : Int) < D 1 0) (hq : (q : Int) < D 1 0) (hS : ∀ p : Nat, (p : Int) < D 1 0 → σ.1 268 p = tS D (Ht D) p) : Sp l w mX10_isAhead 0 0 [zf 10 261, zi ((p : Nat) : Int), zi ((q : Nat) : Int)] σ (zret (zi (zb (ahd D (Ht D) p q))) σ) := by
  obtain ⟨Q, hQ⟩ : ∃ Q : zQ, Q = (zret (zi (zb (ahd D (Ht D) p q))) σ) := ⟨_, rfl⟩
  rw [← hQ]
  refine zx_enter hfl (by decide) rfl 0 rfl ?_
  show zX l w mX10_isAhead (zMQ w 0 0 Q) 0 [zf 10 261, zi ((p : Nat) : Int), zi ((q : Nat) : Int)] [] 0 σ
  have hP : 0 ≤ D 1 0 ∧ D 1 0 ≤ 8 := hW.1.1
  have hM : 0 ≤ D 1 7 ∧ D 1 7 ≤ 8 := hW.1.2.1
  have hE : 0 ≤ D 1 10 ∧ D 1 10 ≤ 12 := hW.1.2.2.1
  have hK : 0 ≤ D 12 0 ∧ D 12 0 ≤ 40 := hW.1.2.2.2
  have r0 : σ.1 262 0 = D 1 0 := hR.1.1
  have r1 : σ.1 262 1 = D 1 7 := hR.1.2.1
  have r2 : σ.1 262 2 = D 1 10 := hR.1.2.2.1
  have r3 : σ.1 262 3 = D 12 0 := hR.1.2.2.2
  have s1 := hS p hp
  have s2 := hS q hq
  refine zx_aloadN dX10_isAhead_0 rfl rfl ?_
  refine zy_getR (q' := 268) fl_RX10_28 rfl dX10_isAhead_1 rfl ?_
  refine zx_iloadN dX10_isAhead_4 rfl rfl ?_
  refine zy_iald (v := σ.1 268 p) rfl (by decide) (by decide) dX10_isAhead_5 (by omega) (by omega) rfl ?_
  refine zx_aloadN dX10_isAhead_6 rfl rfl ?_
  refine zy_getR (q' := 268) fl_RX10_28 rfl dX10_isAhead_7 rfl ?_
  refine zx_iloadN dX10_isAhead_10 rfl rfl ?_
  refine zy_iald (v := σ.1 268 q) rfl (by decide) (by decide) dX10_isAhead_11 (by omega) (by omega) rfl ?_
  refine zx_icmp_gt (tgt := 35) (by first | exact hz _ _ | assumption | exact zr_b _ | exact zcmp_r _ _ | (unfold zr at *; omega)) (by first | exact hz _ _ | assumption | exact zr_b _ | exact zcmp_r _ _ | (unfold zr at *; omega)) dX10_isAhead_12 (by decide) (fun h12 => ?_) (fun h12 => ?_)
  · refine zx_iconst dX10_isAhead_35 ?_
    refine zx_goto (tgt := 40) dX10_isAhead_36 (by decide) ?_
    refine zx_iret rfl rfl dX10_isAhead_40 ?_
    rw [hQ]
    refine ⟨congrArg (fun z : Int => (Sum.inl (some (zi z)) : Option zV ⊕ String)) ?_, by first | rfl | (exfalso; omega)⟩
    unfold ahd
    first | exact (zb_t (by omega)).symm | exact (zb_f (by omega)).symm
  · refine zx_aloadN dX10_isAhead_15 rfl rfl ?_
    refine zy_getR (q' := 268) fl_RX10_28 rfl dX10_isAhead_16 rfl ?_
    refine zx_iloadN dX10_isAhead_19 rfl rfl ?_
    refine zy_iald (v := σ.1 268 p) rfl (by decide) (by decide) dX10_isAhead_20 (by omega) (by omega) rfl ?_
    refine zx_aloadN dX10_isAhead_21 rfl rfl ?_
    refine zy_getR (q' := 268) fl_RX10_28 rfl dX10_isAhead_22 rfl ?_
    refine zx_iloadN dX10_isAhead_25 rfl rfl ?_
    refine zy_iald (v := σ.1 268 q) rfl (by decide) (by decide) dX10_isAhead_26 (by omega) (by omega) rfl ?_
    refine zx_icmp_ne (tgt := 39) (by first | exact hz _ _ | assumption | exact zr_b _ | exact zcmp_r _ _ | (unfold zr at *; omega)) (by first | exact hz _ _ | assumption | exact zr_b _ | exact zcmp_r _ _ | (unfold zr at *; omega)) dX10_isAhead_27 (by decide) (fun h27 => ?_) (fun h27 => ?_)
    · refine zx_iconst dX10_isAhead_39 ?_
      refine zx_iret rfl rfl dX10_isAhead_40 ?_
      rw [hQ]
      refine ⟨congrArg (fun z : Int => (Sum.inl (some (zi z)) : Option zV ⊕ String)) ?_, by first | rfl | (exfalso; omega)⟩
      unfold ahd
      first | exact (zb_t (by omega)).symm | exact (zb_f (by omega)).symm
    · refine zx_iloadN dX10_isAhead_30 rfl rfl ?_
      refine zx_iloadN dX10_isAhead_31 rfl rfl ?_
      refine zx_icmp_ge (tgt := 39) (by first | exact hz _ _ | assumption | exact zr_b _ | exact zcmp_r _ _ | (unfold zr at *; omega)) (by first | exact hz _ _ | assumption | exact zr_b _ | exact zcmp_r _ _ | (unfold zr at *; omega)) dX10_isAhead_32 (by decide) (fun h32 => ?_) (fun h32 => ?_)
      · refine zx_iconst dX10_isAhead_39 ?_
        refine zx_iret rfl rfl dX10_isAhead_40 ?_
        rw [hQ]
        refine ⟨congrArg (fun z : Int => (Sum.inl (some (zi z)) : Option zV ⊕ String)) ?_, by first | rfl | (exfalso; omega)⟩
        unfold ahd
        first | exact (zb_t (by omega)).symm | exact (zb_f (by omega)).symm
      · refine zx_iconst dX10_isAhead_35 ?_
        refine zx_goto (tgt := 40) dX10_isAhead_36 (by decide) ?_
        refine zx_iret rfl rfl dX10_isAhead_40 ?_
        rw [hQ]
        refine ⟨congrArg (fun z : Int => (Sum.inl (some (zi z)) : Option zV ⊕ String)) ?_, by first | rfl | (exfalso; omega)⟩
        unfold ahd
        first | exact (zb_t (by omega)).symm | exact (zb_f (by omega)).symm
set_option maxRecDepth 20000 in
set_option maxHeartbeats 2000000 in
theorem sX10_atRank {l : Launch} {w : zW} (hfl : l.stackTraces = false) {σ : zS} {D : zBk} {x : Int} (hz : zOK σ) (hW : WF D) (hR : Rel D (σ.1 262)) (hx : zr x) (hS : ∀ p : Nat, (p : Int) < D 1 0 → σ.1 268 p = tS D (Ht D) p) : Sp l w mX10_atRank 1 0 [zf 10 261, zi x] σ (zret (zi (rkP D (Ht D) x)) σ) := by
  obtain ⟨Q, hQ⟩ : ∃ Q : zQ, Q = (zret (zi (rkP D (Ht D) x)) σ) := ⟨_, rfl⟩
  rw [← hQ]
  refine zx_enter hfl (by decide) rfl 3 rfl ?_
  show zX l w mX10_atRank (zMQ w 1 0 Q) 0 [zf 10 261, zi x, zu, zu, zu] [] 0 σ
  have hP : 0 ≤ D 1 0 ∧ D 1 0 ≤ 8 := hW.1.1
  have hM : 0 ≤ D 1 7 ∧ D 1 7 ≤ 8 := hW.1.2.1
  have hE : 0 ≤ D 1 10 ∧ D 1 10 ≤ 12 := hW.1.2.2.1
  have hK : 0 ≤ D 12 0 ∧ D 12 0 ≤ 40 := hW.1.2.2.2
  have r0 : σ.1 262 0 = D 1 0 := hR.1.1
  have r1 : σ.1 262 1 = D 1 7 := hR.1.2.1
  have r2 : σ.1 262 2 = D 1 10 := hR.1.2.2.1
  have r3 : σ.1 262 3 = D 12 0 := hR.1.2.2.2
  refine zx_iconst dX10_atRank_0 ?_
  refine zy_istoreN [zf 10 261, zi x, zi 0, zu, zu] dX10_atRank_1 rfl (Nat.le_of_ble_eq_true rfl) (Nat.le_of_ble_eq_true rfl) rfl rfl ?_
  have L2 : ∀ (N : Nat) (k : Nat), ((k : Int) ≤ D 1 0) → (∀ j, j < k → ¬ rkn (ahd D (Ht D)) (D 1 0).toNat j = x) → (9 - k) < N → zX l w mX10_atRank (zMQ w 1 0 Q) 2 [zf 10 261, zi x, zi ((k : Nat) : Int), zu, zu] [] 0 σ := by
    intro N
    induction N with
    | zero => intro k _ _ _; exact absurd (by assumption) (Nat.not_lt_zero _)
    | succ N ih2 =>
      intro k hk_ hj hN
      refine zx_iloadN dX10_atRank_2 rfl rfl ?_
      refine zx_aloadN dX10_atRank_3 rfl rfl ?_
      refine zy_getR (q' := 262) fl_RX10_7 rfl dX10_atRank_4 rfl ?_
      refine zx_iconst dX10_atRank_7 ?_
      refine zy_iald (v := σ.1 262 0) rfl (by decide) (by decide) dX10_atRank_8 (by omega) (by omega) rfl ?_
      refine zx_icmp_ge (tgt := 60) (by first | exact hz _ _ | assumption | exact zr_b _ | exact zcmp_r _ _ | (unfold zr at *; omega)) (by first | exact hz _ _ | assumption | exact zr_b _ | exact zcmp_r _ _ | (unfold zr at *; omega)) dX10_atRank_9 (by decide) (fun h9 => ?_) (fun h9 => ?_)
      · refine zx_iconst dX10_atRank_60 ?_
        refine zx_iret rfl rfl dX10_atRank_61 ?_
        rw [hQ]
        refine ⟨congrArg (fun z : Int => (Sum.inl (some (zi z)) : Option zV ⊕ String)) ?_, by first | rfl | (exfalso; omega)⟩
        first | exact (zfst_no (fun j hj2 => hj j (by omega))).symm | exact (zfst_at (by omega) hj (hrk.symm.trans (by assumption))).symm
      · refine zx_iconst dX10_atRank_12 ?_
        refine zy_istoreN [zf 10 261, zi x, zi ((k : Nat) : Int), zi 0, zu] dX10_atRank_13 rfl (Nat.le_of_ble_eq_true rfl) (Nat.le_of_ble_eq_true rfl) rfl rfl ?_
        refine zx_iconst dX10_atRank_14 ?_
        refine zy_istore [zf 10 261, zi x, zi ((k : Nat) : Int), zi 0, zi 0] dX10_atRank_15 (Nat.le_of_ble_eq_true rfl) (Nat.le_of_ble_eq_true rfl) rfl rfl ?_
        have L17 : ∀ (N : Nat) (j : Nat) (acc : Int), ((j : Int) ≤ D 1 0) → (acc = zs (fun i => zb (ahd D (Ht D) i k)) j) → ((k : Int) < D 1 0) → (9 - j) < N → zX l w mX10_atRank (zMQ w 1 0 Q) 17 [zf 10 261, zi x, zi ((k : Nat) : Int), zi acc, zi ((j : Nat) : Int)] [] 0 σ := by
          intro N
          induction N with
          | zero => intro j acc _ _ _ _; exact absurd (by assumption) (Nat.not_lt_zero _)
          | succ N ih17 =>
            intro j acc hj_ hacc hkl hN
            refine zx_iload dX10_atRank_17 rfl ?_
            refine zx_aloadN dX10_atRank_19 rfl rfl ?_
            refine zy_getR (q' := 262) fl_RX10_7 rfl dX10_atRank_20 rfl ?_
            refine zx_iconst dX10_atRank_23 ?_
            refine zy_iald (v := σ.1 262 0) rfl (by decide) (by decide) dX10_atRank_24 (by omega) (by omega) rfl ?_
            refine zx_icmp_ge (tgt := 47) (by first | exact hz _ _ | assumption | exact zr_b _ | exact zcmp_r _ _ | (unfold zr at *; omega)) (by first | exact hz _ _ | assumption | exact zr_b _ | exact zcmp_r _ _ | (unfold zr at *; omega)) dX10_atRank_25 (by decide) (fun h25 => ?_) (fun h25 => ?_)
            · have hrk : acc = rkn (ahd D (Ht D)) (D 1 0).toNat k := by rw [hacc]; unfold rkn; congr 1; omega
              have hab : 0 ≤ acc ∧ acc ≤ j := by rw [hacc]; exact zsb_le _ j
              have hkx : acc = x ↔ rkn (ahd D (Ht D)) (D 1 0).toNat k = x := by rw [hrk]
              refine zx_iloadN dX10_atRank_47 rfl rfl ?_
              refine zx_iloadN dX10_atRank_48 rfl rfl ?_
              refine zx_icmp_ne (tgt := 54) (by first | exact hz _ _ | assumption | exact zr_b _ | exact zcmp_r _ _ | (unfold zr at *; omega)) (by first | exact hz _ _ | assumption | exact zr_b _ | exact zcmp_r _ _ | (unfold zr at *; omega)) dX10_atRank_49 (by decide) (fun h49 => ?_) (fun h49 => ?_)
              · refine zy_iinc (b := ((k + 1 : Nat) : Int)) [zf 10 261, zi x, zi ((k + 1 : Nat) : Int), zi acc, zi ((j : Nat) : Int)] dX10_atRank_54 rfl (by omega) (Nat.le_of_ble_eq_true rfl) rfl rfl ?_
                refine zx_goto (tgt := 2) dX10_atRank_57 (by decide) ?_
                refine zy_drop 3 [zf 10 261, zi x, zi ((k + 1 : Nat) : Int), zu, zi ((j : Nat) : Int)] rfl ?_
                refine zy_drop 4 [zf 10 261, zi x, zi ((k + 1 : Nat) : Int), zu, zu] rfl ?_
                exact ih2 (k + 1) (by first | assumption | omega) (lt_s hj (fun q => by have q2 := hkx.mpr q; omega)) (by omega)
              · refine zx_iloadN dX10_atRank_52 rfl rfl ?_
                refine zx_iret rfl rfl dX10_atRank_53 ?_
                rw [hQ]
                refine ⟨congrArg (fun z : Int => (Sum.inl (some (zi z)) : Option zV ⊕ String)) ?_, by first | rfl | (exfalso; omega)⟩
                first | exact (zfst_no (fun j hj2 => hj j (by omega))).symm | exact (zfst_at (by omega) hj (hrk.symm.trans (by assumption))).symm
            · refine zx_iloadN dX10_atRank_28 rfl rfl ?_
              refine zx_aloadN dX10_atRank_29 rfl rfl ?_
              refine zx_iload dX10_atRank_30 rfl ?_
              refine zx_iloadN dX10_atRank_32 rfl rfl ?_
              refine zy_cv [zi ((j : Nat) : Int), zi ((k : Nat) : Int)] (sX10_isAhead (D := D) (p := j) (q := k) hfl hz (by first | assumption | omega) (by first | assumption | (refine Rel_put (by decide) ?_; assumption) | (refine Rel_put (by decide) (Rel_put (by decide) ?_); assumption) | (refine Rel_put (by decide) (Rel_put (by decide) (Rel_put (by decide) ?_)); assumption)) (by first | assumption | omega) (by first | assumption | omega) (by first | assumption | omega)) dX10_atRank_33 (by decide) rfl cw_RX10_148 okX10_isAhead rfl (Nat.le_of_ble_eq_true rfl) ⟨Nat.le_of_ble_eq_true rfl, Nat.le_of_ble_eq_true rfl, Nat.le_of_ble_eq_true rfl, Nat.le_of_ble_eq_true rfl⟩ ?_
              refine zy_cs [zi (zb (ahd D (Ht D) j k))] (sX10_truth (A := (ahd D (Ht D) j k)) hfl hz ) dX10_atRank_36 cw_RX10_94 okX10_truth rfl (Nat.le_of_ble_eq_true rfl) ⟨Nat.le_of_ble_eq_true rfl, Nat.le_of_ble_eq_true rfl, Nat.le_of_ble_eq_true rfl, Nat.le_of_ble_eq_true rfl⟩ ?_
              refine zx_iadd dX10_atRank_39 ?_
              refine zy_istoreN [zf 10 261, zi x, zi ((k : Nat) : Int), zi (acc + (zb (ahd D (Ht D) j k))), zi ((j : Nat) : Int)] dX10_atRank_40 rfl (Nat.le_of_ble_eq_true rfl) (Nat.le_of_ble_eq_true rfl) rfl rfl ?_
              refine zy_iinc (b := ((j + 1 : Nat) : Int)) [zf 10 261, zi x, zi ((k : Nat) : Int), zi (acc + (zb (ahd D (Ht D) j k))), zi ((j + 1 : Nat) : Int)] dX10_atRank_41 rfl (by omega) (Nat.le_of_ble_eq_true rfl) rfl rfl ?_
              refine zx_goto (tgt := 17) dX10_atRank_44 (by decide) ?_
              exact ih17 (j + 1) (acc + (zb (ahd D (Ht D) j k))) (by first | assumption | omega) (by subst hacc; exact (zs_s _ _).symm) (by first | assumption | omega) (by omega)
        exact L17 _ 0 0 (by first | assumption | omega) rfl (by first | assumption | omega) (Nat.lt_succ_self _)
  exact L2 _ 0 (by first | assumption | omega) lt_0 (Nat.lt_succ_self _)
set_option maxRecDepth 20000 in
set_option maxHeartbeats 2000000 in
theorem sX10_isBefore {l : Launch} {w : zW} (hfl : l.stackTraces = false) {σ : zS} {D : zBk} {c d : Nat} (hz : zOK σ) (hW : WF D) (hR : Rel D (σ.1 262)) (hc : (c : Int) < D 12 0) (hd : (d : Int) < D 12 0) : Sp l w mX10_isBefore 1 0 [zf 10 261, zi ((c : Nat) : Int), zi ((d : Nat) : Int)] σ (zret (zi (zb (bef D c d))) σ) := by
  obtain ⟨Q, hQ⟩ : ∃ Q : zQ, Q = (zret (zi (zb (bef D c d))) σ) := ⟨_, rfl⟩
  rw [← hQ]
  refine zx_enter hfl (by decide) rfl 1 rfl ?_
  show zX l w mX10_isBefore (zMQ w 1 0 Q) 0 [zf 10 261, zi ((c : Nat) : Int), zi ((d : Nat) : Int), zu] [] 0 σ
  have hP : 0 ≤ D 1 0 ∧ D 1 0 ≤ 8 := hW.1.1
  have hM : 0 ≤ D 1 7 ∧ D 1 7 ≤ 8 := hW.1.2.1
  have hE : 0 ≤ D 1 10 ∧ D 1 10 ≤ 12 := hW.1.2.2.1
  have hK : 0 ≤ D 12 0 ∧ D 12 0 ≤ 40 := hW.1.2.2.2
  have r0 : σ.1 262 0 = D 1 0 := hR.1.1
  have r1 : σ.1 262 1 = D 1 7 := hR.1.2.1
  have r2 : σ.1 262 2 = D 1 10 := hR.1.2.2.1
  have r3 : σ.1 262 3 = D 12 0 := hR.1.2.2.2
  have hc1 := (hW.2.2.2.2.1 c hc).1
  have hd1 := (hW.2.2.2.2.1 d hd).1
  refine zx_aloadN dX10_isBefore_0 rfl rfl ?_
  refine zx_iloadN dX10_isBefore_1 rfl rfl ?_
  refine zx_iconst dX10_isBefore_2 ?_
  refine zy_cv [zi ((c : Nat) : Int), zi 0] (sX10_of (D := D) (c := c) (o := 0) hfl hz (by first | assumption | omega) (by first | assumption | (refine Rel_put (by decide) ?_; assumption) | (refine Rel_put (by decide) (Rel_put (by decide) ?_); assumption) | (refine Rel_put (by decide) (Rel_put (by decide) (Rel_put (by decide) ?_)); assumption)) (by first | assumption | omega) (by first | assumption | omega)) dX10_isBefore_3 (by decide) rfl cw_RX10_102 okX10_of rfl (Nat.le_of_ble_eq_true rfl) ⟨Nat.le_of_ble_eq_true rfl, Nat.le_of_ble_eq_true rfl, Nat.le_of_ble_eq_true rfl, Nat.le_of_ble_eq_true rfl⟩ ?_
  refine zy_top (b := D 13 c) rfl ?_
  refine zx_aloadN dX10_isBefore_6 rfl rfl ?_
  refine zx_iloadN dX10_isBefore_7 rfl rfl ?_
  refine zx_iconst dX10_isBefore_8 ?_
  refine zy_cv [zi ((d : Nat) : Int), zi 0] (sX10_of (D := D) (c := d) (o := 0) hfl hz (by first | assumption | omega) (by first | assumption | (refine Rel_put (by decide) ?_; assumption) | (refine Rel_put (by decide) (Rel_put (by decide) ?_); assumption) | (refine Rel_put (by decide) (Rel_put (by decide) (Rel_put (by decide) ?_)); assumption)) (by first | assumption | omega) (by first | assumption | omega)) dX10_isBefore_9 (by decide) rfl cw_RX10_102 okX10_of rfl (Nat.le_of_ble_eq_true rfl) ⟨Nat.le_of_ble_eq_true rfl, Nat.le_of_ble_eq_true rfl, Nat.le_of_ble_eq_true rfl, Nat.le_of_ble_eq_true rfl⟩ ?_
  refine zy_top (b := D 13 d) rfl ?_
  refine zx_isub dX10_isBefore_12 ?_
  refine zy_istoreN [zf 10 261, zi ((c : Nat) : Int), zi ((d : Nat) : Int), zi ((D 13 c) - (D 13 d))] dX10_isBefore_13 rfl (Nat.le_of_ble_eq_true rfl) (Nat.le_of_ble_eq_true rfl) rfl rfl ?_
  refine zx_iloadN dX10_isBefore_14 rfl rfl ?_
  refine zx_if_gt (tgt := 27) (by first | exact hz _ _ | assumption | exact zr_b _ | exact zcmp_r _ _ | (unfold zr at *; omega)) dX10_isBefore_15 (by decide) (fun h15 => ?_) (fun h15 => ?_)
  · refine zx_iconst dX10_isBefore_27 ?_
    refine zx_goto (tgt := 32) dX10_isBefore_28 (by decide) ?_
    refine zx_iret rfl rfl dX10_isBefore_32 ?_
    rw [hQ]
    refine ⟨congrArg (fun z : Int => (Sum.inl (some (zi z)) : Option zV ⊕ String)) ?_, by first | rfl | (exfalso; omega)⟩
    unfold bef
    first | exact (zb_t (by omega)).symm | exact (zb_f (by omega)).symm
  · refine zx_iloadN dX10_isBefore_18 rfl rfl ?_
    refine zx_if_ne (tgt := 31) (by first | exact hz _ _ | assumption | exact zr_b _ | exact zcmp_r _ _ | (unfold zr at *; omega)) dX10_isBefore_19 (by decide) (fun h19 => ?_) (fun h19 => ?_)
    · refine zx_iconst dX10_isBefore_31 ?_
      refine zx_iret rfl rfl dX10_isBefore_32 ?_
      rw [hQ]
      refine ⟨congrArg (fun z : Int => (Sum.inl (some (zi z)) : Option zV ⊕ String)) ?_, by first | rfl | (exfalso; omega)⟩
      unfold bef
      first | exact (zb_t (by omega)).symm | exact (zb_f (by omega)).symm
    · refine zx_iloadN dX10_isBefore_22 rfl rfl ?_
      refine zx_iloadN dX10_isBefore_23 rfl rfl ?_
      refine zx_icmp_ge (tgt := 31) (by first | exact hz _ _ | assumption | exact zr_b _ | exact zcmp_r _ _ | (unfold zr at *; omega)) (by first | exact hz _ _ | assumption | exact zr_b _ | exact zcmp_r _ _ | (unfold zr at *; omega)) dX10_isBefore_24 (by decide) (fun h24 => ?_) (fun h24 => ?_)
      · refine zx_iconst dX10_isBefore_31 ?_
        refine zx_iret rfl rfl dX10_isBefore_32 ?_
        rw [hQ]
        refine ⟨congrArg (fun z : Int => (Sum.inl (some (zi z)) : Option zV ⊕ String)) ?_, by first | rfl | (exfalso; omega)⟩
        unfold bef
        first | exact (zb_t (by omega)).symm | exact (zb_f (by omega)).symm
      · refine zx_iconst dX10_isBefore_27 ?_
        refine zx_goto (tgt := 32) dX10_isBefore_28 (by decide) ?_
        refine zx_iret rfl rfl dX10_isBefore_32 ?_
        rw [hQ]
        refine ⟨congrArg (fun z : Int => (Sum.inl (some (zi z)) : Option zV ⊕ String)) ?_, by first | rfl | (exfalso; omega)⟩
        unfold bef
        first | exact (zb_t (by omega)).symm | exact (zb_f (by omega)).symm
set_option maxRecDepth 20000 in
set_option maxHeartbeats 2000000 in
theorem sX10_inOrder {l : Launch} {w : zW} (hfl : l.stackTraces = false) {σ : zS} {D : zBk} {x : Int} (hz : zOK σ) (hW : WF D) (hR : Rel D (σ.1 262)) (hx : zr x) : Sp l w mX10_inOrder 2 0 [zf 10 261, zi x] σ (zret (zi (if 0 ≤ x ∧ x < D 12 0 then D 19 x.toNat else -1)) σ) := by
  obtain ⟨Q, hQ⟩ : ∃ Q : zQ, Q = (zret (zi (if 0 ≤ x ∧ x < D 12 0 then D 19 x.toNat else -1)) σ) := ⟨_, rfl⟩
  rw [← hQ]
  refine zx_enter hfl (by decide) rfl 3 rfl ?_
  show zX l w mX10_inOrder (zMQ w 2 0 Q) 0 [zf 10 261, zi x, zu, zu, zu] [] 0 σ
  have hP : 0 ≤ D 1 0 ∧ D 1 0 ≤ 8 := hW.1.1
  have hM : 0 ≤ D 1 7 ∧ D 1 7 ≤ 8 := hW.1.2.1
  have hE : 0 ≤ D 1 10 ∧ D 1 10 ≤ 12 := hW.1.2.2.1
  have hK : 0 ≤ D 12 0 ∧ D 12 0 ≤ 40 := hW.1.2.2.2
  have r0 : σ.1 262 0 = D 1 0 := hR.1.1
  have r1 : σ.1 262 1 = D 1 7 := hR.1.2.1
  have r2 : σ.1 262 2 = D 1 10 := hR.1.2.2.1
  have r3 : σ.1 262 3 = D 12 0 := hR.1.2.2.2
  have hor := fun r => ordWF hW.2.2.2.2.2 r
  refine zx_iconst dX10_inOrder_0 ?_
  refine zy_istoreN [zf 10 261, zi x, zi 0, zu, zu] dX10_inOrder_1 rfl (Nat.le_of_ble_eq_true rfl) (Nat.le_of_ble_eq_true rfl) rfl rfl ?_
  have L2 : ∀ (N : Nat) (k : Nat), ((k : Int) ≤ D 12 0) → (∀ j, j < k → ¬ rkn (bef D) (D 12 0).toNat j = x) → (41 - k) < N → zX l w mX10_inOrder (zMQ w 2 0 Q) 2 [zf 10 261, zi x, zi ((k : Nat) : Int), zu, zu] [] 0 σ := by
    intro N
    induction N with
    | zero => intro k _ _ _; exact absurd (by assumption) (Nat.not_lt_zero _)
    | succ N ih2 =>
      intro k hk_ hj hN
      refine zx_iloadN dX10_inOrder_2 rfl rfl ?_
      refine zx_aloadN dX10_inOrder_3 rfl rfl ?_
      refine zy_getR (q' := 262) fl_RX10_7 rfl dX10_inOrder_4 rfl ?_
      refine zx_iconst dX10_inOrder_7 ?_
      refine zy_iald (v := σ.1 262 3) rfl (by decide) (by decide) dX10_inOrder_8 (by omega) (by omega) rfl ?_
      refine zx_icmp_ge (tgt := 60) (by first | exact hz _ _ | assumption | exact zr_b _ | exact zcmp_r _ _ | (unfold zr at *; omega)) (by first | exact hz _ _ | assumption | exact zr_b _ | exact zcmp_r _ _ | (unfold zr at *; omega)) dX10_inOrder_9 (by decide) (fun h9 => ?_) (fun h9 => ?_)
      · refine zx_iconst dX10_inOrder_60 ?_
        refine zx_iret rfl rfl dX10_inOrder_61 ?_
        rw [hQ]
        refine ⟨congrArg (fun z : Int => (Sum.inl (some (zi z)) : Option zV ⊕ String)) ?_, by first | rfl | (exfalso; omega)⟩
        rw [hor x]
        first | exact (zfst_no (fun j hj2 => hj j (by omega))).symm | exact (zfst_at (by omega) hj (hrk.symm.trans (by assumption))).symm
      · refine zx_iconst dX10_inOrder_12 ?_
        refine zy_istoreN [zf 10 261, zi x, zi ((k : Nat) : Int), zi 0, zu] dX10_inOrder_13 rfl (Nat.le_of_ble_eq_true rfl) (Nat.le_of_ble_eq_true rfl) rfl rfl ?_
        refine zx_iconst dX10_inOrder_14 ?_
        refine zy_istore [zf 10 261, zi x, zi ((k : Nat) : Int), zi 0, zi 0] dX10_inOrder_15 (Nat.le_of_ble_eq_true rfl) (Nat.le_of_ble_eq_true rfl) rfl rfl ?_
        have L17 : ∀ (N : Nat) (j : Nat) (acc : Int), ((j : Int) ≤ D 12 0) → (acc = zs (fun i => zb (bef D i k)) j) → ((k : Int) < D 12 0) → (41 - j) < N → zX l w mX10_inOrder (zMQ w 2 0 Q) 17 [zf 10 261, zi x, zi ((k : Nat) : Int), zi acc, zi ((j : Nat) : Int)] [] 0 σ := by
          intro N
          induction N with
          | zero => intro j acc _ _ _ _; exact absurd (by assumption) (Nat.not_lt_zero _)
          | succ N ih17 =>
            intro j acc hj_ hacc hkl hN
            refine zx_iload dX10_inOrder_17 rfl ?_
            refine zx_aloadN dX10_inOrder_19 rfl rfl ?_
            refine zy_getR (q' := 262) fl_RX10_7 rfl dX10_inOrder_20 rfl ?_
            refine zx_iconst dX10_inOrder_23 ?_
            refine zy_iald (v := σ.1 262 3) rfl (by decide) (by decide) dX10_inOrder_24 (by omega) (by omega) rfl ?_
            refine zx_icmp_ge (tgt := 47) (by first | exact hz _ _ | assumption | exact zr_b _ | exact zcmp_r _ _ | (unfold zr at *; omega)) (by first | exact hz _ _ | assumption | exact zr_b _ | exact zcmp_r _ _ | (unfold zr at *; omega)) dX10_inOrder_25 (by decide) (fun h25 => ?_) (fun h25 => ?_)
            · have hrk : acc = rkn (bef D) (D 12 0).toNat k := by rw [hacc]; unfold rkn; congr 1; omega
              have hab : 0 ≤ acc ∧ acc ≤ j := by rw [hacc]; exact zsb_le _ j
              have hkx : acc = x ↔ rkn (bef D) (D 12 0).toNat k = x := by rw [hrk]
              refine zx_iloadN dX10_inOrder_47 rfl rfl ?_
              refine zx_iloadN dX10_inOrder_48 rfl rfl ?_
              refine zx_icmp_ne (tgt := 54) (by first | exact hz _ _ | assumption | exact zr_b _ | exact zcmp_r _ _ | (unfold zr at *; omega)) (by first | exact hz _ _ | assumption | exact zr_b _ | exact zcmp_r _ _ | (unfold zr at *; omega)) dX10_inOrder_49 (by decide) (fun h49 => ?_) (fun h49 => ?_)
              · refine zy_iinc (b := ((k + 1 : Nat) : Int)) [zf 10 261, zi x, zi ((k + 1 : Nat) : Int), zi acc, zi ((j : Nat) : Int)] dX10_inOrder_54 rfl (by omega) (Nat.le_of_ble_eq_true rfl) rfl rfl ?_
                refine zx_goto (tgt := 2) dX10_inOrder_57 (by decide) ?_
                refine zy_drop 3 [zf 10 261, zi x, zi ((k + 1 : Nat) : Int), zu, zi ((j : Nat) : Int)] rfl ?_
                refine zy_drop 4 [zf 10 261, zi x, zi ((k + 1 : Nat) : Int), zu, zu] rfl ?_
                exact ih2 (k + 1) (by first | assumption | omega) (lt_s hj (fun q => by have q2 := hkx.mpr q; omega)) (by omega)
              · refine zx_iloadN dX10_inOrder_52 rfl rfl ?_
                refine zx_iret rfl rfl dX10_inOrder_53 ?_
                rw [hQ]
                refine ⟨congrArg (fun z : Int => (Sum.inl (some (zi z)) : Option zV ⊕ String)) ?_, by first | rfl | (exfalso; omega)⟩
                rw [hor x]
                first | exact (zfst_no (fun j hj2 => hj j (by omega))).symm | exact (zfst_at (by omega) hj (hrk.symm.trans (by assumption))).symm
            · refine zx_iloadN dX10_inOrder_28 rfl rfl ?_
              refine zx_aloadN dX10_inOrder_29 rfl rfl ?_
              refine zx_iload dX10_inOrder_30 rfl ?_
              refine zx_iloadN dX10_inOrder_32 rfl rfl ?_
              refine zy_cv [zi ((j : Nat) : Int), zi ((k : Nat) : Int)] (sX10_isBefore (D := D) (c := j) (d := k) hfl hz (by first | assumption | omega) (by first | assumption | (refine Rel_put (by decide) ?_; assumption) | (refine Rel_put (by decide) (Rel_put (by decide) ?_); assumption) | (refine Rel_put (by decide) (Rel_put (by decide) (Rel_put (by decide) ?_)); assumption)) (by first | assumption | omega) (by first | assumption | omega)) dX10_inOrder_33 (by decide) rfl cw_RX10_169 okX10_isBefore rfl (Nat.le_of_ble_eq_true rfl) ⟨Nat.le_of_ble_eq_true rfl, Nat.le_of_ble_eq_true rfl, Nat.le_of_ble_eq_true rfl, Nat.le_of_ble_eq_true rfl⟩ ?_
              refine zy_cs [zi (zb (bef D j k))] (sX10_truth (A := (bef D j k)) hfl hz ) dX10_inOrder_36 cw_RX10_94 okX10_truth rfl (Nat.le_of_ble_eq_true rfl) ⟨Nat.le_of_ble_eq_true rfl, Nat.le_of_ble_eq_true rfl, Nat.le_of_ble_eq_true rfl, Nat.le_of_ble_eq_true rfl⟩ ?_
              refine zx_iadd dX10_inOrder_39 ?_
              refine zy_istoreN [zf 10 261, zi x, zi ((k : Nat) : Int), zi (acc + (zb (bef D j k))), zi ((j : Nat) : Int)] dX10_inOrder_40 rfl (Nat.le_of_ble_eq_true rfl) (Nat.le_of_ble_eq_true rfl) rfl rfl ?_
              refine zy_iinc (b := ((j + 1 : Nat) : Int)) [zf 10 261, zi x, zi ((k : Nat) : Int), zi (acc + (zb (bef D j k))), zi ((j + 1 : Nat) : Int)] dX10_inOrder_41 rfl (by omega) (Nat.le_of_ble_eq_true rfl) rfl rfl ?_
              refine zx_goto (tgt := 17) dX10_inOrder_44 (by decide) ?_
              exact ih17 (j + 1) (acc + (zb (bef D j k))) (by first | assumption | omega) (by subst hacc; exact (zs_s _ _).symm) (by first | assumption | omega) (by omega)
        exact L17 _ 0 0 (by first | assumption | omega) rfl (by first | assumption | omega) (Nat.lt_succ_self _)
  exact L2 _ 0 (by first | assumption | omega) lt_0 (Nat.lt_succ_self _)
set_option maxRecDepth 20000 in
set_option maxHeartbeats 2000000 in
theorem sX10_byRank {l : Launch} {w : zW} (hfl : l.stackTraces = false) {σ : zS} {D : zBk} {x : Int} (hz : zOK σ) (hW : WF D) (hR : Rel D (σ.1 262)) (hx : zr x) : Sp l w mX10_byRank 8 0 [zf 10 261, zi x] σ (zqv (some (zi (rkP D (Ht D) x))) (fun τ => zOK τ ∧ mfr σ τ (fun k => k = 267 ∨ k = 268) (fun i => 9 ≤ i ∧ i ≤ 11) ∧ (∀ p : Nat, (p : Int) < D 1 0 → τ.1 268 p = tS D (Ht D) p))) := by
  obtain ⟨Q, hQ⟩ : ∃ Q : zQ, Q = (zqv (some (zi (rkP D (Ht D) x))) (fun τ => zOK τ ∧ mfr σ τ (fun k => k = 267 ∨ k = 268) (fun i => 9 ≤ i ∧ i ≤ 11) ∧ (∀ p : Nat, (p : Int) < D 1 0 → τ.1 268 p = tS D (Ht D) p))) := ⟨_, rfl⟩
  rw [← hQ]
  refine zx_enter hfl (by decide) rfl 0 rfl ?_
  show zX l w mX10_byRank (zMQ w 8 0 Q) 0 [zf 10 261, zi x] [] 0 σ
  have hP : 0 ≤ D 1 0 ∧ D 1 0 ≤ 8 := hW.1.1
  have hM : 0 ≤ D 1 7 ∧ D 1 7 ≤ 8 := hW.1.2.1
  have hE : 0 ≤ D 1 10 ∧ D 1 10 ≤ 12 := hW.1.2.2.1
  have hK : 0 ≤ D 12 0 ∧ D 12 0 ≤ 40 := hW.1.2.2.2
  have r0 : σ.1 262 0 = D 1 0 := hR.1.1
  have r1 : σ.1 262 1 = D 1 7 := hR.1.2.1
  have r2 : σ.1 262 2 = D 1 10 := hR.1.2.2.1
  have r3 : σ.1 262 3 = D 12 0 := hR.1.2.2.2
  refine zx_aloadN dX10_byRank_0 rfl rfl ?_
  refine zy_cvvR [] (sX10_laysScores (D := D) hfl hz (by first | assumption | omega) (by first | assumption | (refine Rel_put (by decide) ?_; assumption) | (refine Rel_put (by decide) (Rel_put (by decide) ?_); assumption) | (refine Rel_put (by decide) (Rel_put (by decide) (Rel_put (by decide) ?_)); assumption))) dX10_byRank_1 (by decide) rfl cw_RX10_151 okX10_laysScores rfl (Nat.le_of_ble_eq_true rfl) ⟨Nat.le_of_ble_eq_true rfl, Nat.le_of_ble_eq_true rfl, Nat.le_of_ble_eq_true rfl, Nat.le_of_ble_eq_true rfl⟩ (fun τ1 hr1 => ?_)
  have hz1 : zOK τ1 := hr1.1
  have hRτ := mfr_R hr1.2.1 (by omega) hR
  have hSτ := hr1.2.2
  refine zx_aloadN dX10_byRank_4 rfl rfl ?_
  refine zx_iloadN dX10_byRank_5 rfl rfl ?_
  refine zy_cv [zi x] (sX10_atRank (D := D) hfl hz1 (by first | assumption | omega) hRτ (by first | exact hz1 _ _ | assumption | exact zr_b _ | exact zcmp_r _ _ | (unfold zr at *; omega)) hSτ) dX10_byRank_6 (by decide) rfl cw_RX10_154 okX10_atRank rfl (Nat.le_of_ble_eq_true rfl) ⟨Nat.le_of_ble_eq_true rfl, Nat.le_of_ble_eq_true rfl, Nat.le_of_ble_eq_true rfl, Nat.le_of_ble_eq_true rfl⟩ ?_
  refine zx_iret rfl rfl dX10_byRank_9 ?_
  rw [hQ]
  refine ⟨congrArg (fun z : Int => (Sum.inl (some (zi z)) : Option zV ⊕ String)) ?_, ?_⟩
  · rfl
  exact ⟨hz1, hr1.2.1, hr1.2.2⟩
set_option maxRecDepth 20000 in
set_option maxHeartbeats 2000000 in
theorem sX10_verdict {l : Launch} {w : zW} (hfl : l.stackTraces = false) {σ : zS} {D : zBk}  (hz : zOK σ) (hW : WF D) (hR : Rel D (σ.1 262)) (hP1 : 1 ≤ D 1 0) : Sp l w mX10_verdict 9 0 [zf 10 261] σ (zqv (some (zi ((wP D (Ht D) : Nat) : Int))) (fun τ => zOK τ ∧ mfr σ τ (fun k => k = 267 ∨ k = 268) (fun i => 9 ≤ i ∧ i ≤ 11) ∧ (∀ p : Nat, (p : Int) < D 1 0 → τ.1 268 p = tS D (Ht D) p))) := by
  obtain ⟨Q, hQ⟩ : ∃ Q : zQ, Q = (zqv (some (zi ((wP D (Ht D) : Nat) : Int))) (fun τ => zOK τ ∧ mfr σ τ (fun k => k = 267 ∨ k = 268) (fun i => 9 ≤ i ∧ i ≤ 11) ∧ (∀ p : Nat, (p : Int) < D 1 0 → τ.1 268 p = tS D (Ht D) p))) := ⟨_, rfl⟩
  rw [← hQ]
  refine zx_enter hfl (by decide) rfl 0 rfl ?_
  show zX l w mX10_verdict (zMQ w 9 0 Q) 0 [zf 10 261] [] 0 σ
  have hP : 0 ≤ D 1 0 ∧ D 1 0 ≤ 8 := hW.1.1
  have hM : 0 ≤ D 1 7 ∧ D 1 7 ≤ 8 := hW.1.2.1
  have hE : 0 ≤ D 1 10 ∧ D 1 10 ≤ 12 := hW.1.2.2.1
  have hK : 0 ≤ D 12 0 ∧ D 12 0 ≤ 40 := hW.1.2.2.2
  have r0 : σ.1 262 0 = D 1 0 := hR.1.1
  have r1 : σ.1 262 1 = D 1 7 := hR.1.2.1
  have r2 : σ.1 262 2 = D 1 10 := hR.1.2.2.1
  have r3 : σ.1 262 3 = D 12 0 := hR.1.2.2.2
  refine zx_aloadN dX10_verdict_0 rfl rfl ?_
  refine zx_iconst dX10_verdict_1 ?_
  refine zy_cvR [zi 0] (sX10_byRank (D := D) hfl hz (by first | assumption | omega) (by first | assumption | (refine Rel_put (by decide) ?_; assumption) | (refine Rel_put (by decide) (Rel_put (by decide) ?_); assumption) | (refine Rel_put (by decide) (Rel_put (by decide) (Rel_put (by decide) ?_)); assumption)) (by first | exact hz _ _ | assumption | exact zr_b _ | exact zcmp_r _ _ | (unfold zr at *; omega))) dX10_verdict_2 (by decide) rfl cw_RX10_157 okX10_byRank rfl (Nat.le_of_ble_eq_true rfl) ⟨Nat.le_of_ble_eq_true rfl, Nat.le_of_ble_eq_true rfl, Nat.le_of_ble_eq_true rfl, Nat.le_of_ble_eq_true rfl⟩ (fun τ2 hr2 => ?_)
  have hz2 : zOK τ2 := hr2.1
  refine zx_iret rfl rfl dX10_verdict_5 ?_
  rw [hQ]
  refine ⟨congrArg (fun z : Int => (Sum.inl (some (zi z)) : Option zV ⊕ String)) ?_, ?_⟩
  · exact wP_e hW hP1
  exact ⟨hz2, hr2.2.1, hr2.2.2⟩
set_option maxRecDepth 20000 in
set_option maxHeartbeats 2000000 in
theorem sX10_yearOfVerdict {l : Launch} {w : zW} (hfl : l.stackTraces = false) {σ : zS} {D : zBk}  (hz : zOK σ) (hW : WF D) (hR : Rel D (σ.1 262)) (hP1 : 1 ≤ D 1 0) : Sp l w mX10_yearOfVerdict 10 0 [zf 10 261] σ (zqv (some (zi (wY D (Ht D)))) (fun τ => zOK τ ∧ mfr σ τ (fun k => k = 267 ∨ k = 268) (fun i => (9 ≤ i ∧ i ≤ 11) ∨ i = 13) ∧ τ.1 261 13 = wP D (Ht D) ∧ τ.1 261 10 = wS D (Ht D))) := by
  obtain ⟨Q, hQ⟩ : ∃ Q : zQ, Q = (zqv (some (zi (wY D (Ht D)))) (fun τ => zOK τ ∧ mfr σ τ (fun k => k = 267 ∨ k = 268) (fun i => (9 ≤ i ∧ i ≤ 11) ∨ i = 13) ∧ τ.1 261 13 = wP D (Ht D) ∧ τ.1 261 10 = wS D (Ht D))) := ⟨_, rfl⟩
  rw [← hQ]
  refine zx_enter hfl (by decide) rfl 0 rfl ?_
  show zX l w mX10_yearOfVerdict (zMQ w 10 0 Q) 0 [zf 10 261] [] 0 σ
  have hP : 0 ≤ D 1 0 ∧ D 1 0 ≤ 8 := hW.1.1
  have hM : 0 ≤ D 1 7 ∧ D 1 7 ≤ 8 := hW.1.2.1
  have hE : 0 ≤ D 1 10 ∧ D 1 10 ≤ 12 := hW.1.2.2.1
  have hK : 0 ≤ D 12 0 ∧ D 12 0 ≤ 40 := hW.1.2.2.2
  have r0 : σ.1 262 0 = D 1 0 := hR.1.1
  have r1 : σ.1 262 1 = D 1 7 := hR.1.2.1
  have r2 : σ.1 262 2 = D 1 10 := hR.1.2.2.1
  have r3 : σ.1 262 3 = D 12 0 := hR.1.2.2.2
  refine zx_aloadN dX10_yearOfVerdict_0 rfl rfl ?_
  refine zx_aloadN dX10_yearOfVerdict_1 rfl rfl ?_
  refine zy_cvR [] (sX10_verdict (D := D) hfl hz (by first | assumption | omega) (by first | assumption | (refine Rel_put (by decide) ?_; assumption) | (refine Rel_put (by decide) (Rel_put (by decide) ?_); assumption) | (refine Rel_put (by decide) (Rel_put (by decide) (Rel_put (by decide) ?_)); assumption)) (by first | assumption | omega)) dX10_yearOfVerdict_2 (by decide) rfl cw_RX10_160 okX10_verdict rfl (Nat.le_of_ble_eq_true rfl) ⟨Nat.le_of_ble_eq_true rfl, Nat.le_of_ble_eq_true rfl, Nat.le_of_ble_eq_true rfl, Nat.le_of_ble_eq_true rfl⟩ (fun τ2 hr2 => ?_)
  have hz2 : zOK τ2 := hr2.1
  have hwl := wP_l (H := Ht D) hW hP1
  refine zx_putI fl_RX10_163 rfl (Or.inl fp_10_13) dX10_yearOfVerdict_5 ?_
  refine zx_aloadN dX10_yearOfVerdict_8 rfl rfl ?_
  refine zx_aloadN dX10_yearOfVerdict_9 rfl rfl ?_
  refine zy_getI (v := ((wP D (Ht D) : Nat) : Int)) fl_RX10_163 rfl dX10_yearOfVerdict_10 (zput_s _ _ _ _) ?_
  refine zy_cvvR [zi ((wP D (Ht D) : Nat) : Int)] (sX10_findsBest (D := D) (p := (wP D (Ht D))) hfl (zOK_put hz2 (by first | exact hz2 _ _ | assumption | exact zr_b _ | exact zcmp_r _ _ | (unfold zr at *; omega))) (by first | assumption | omega) (by refine Rel_put (by decide) ?_; exact mfr_R hr2.2.1 (by omega) hR) (by first | assumption | omega)) dX10_yearOfVerdict_13 (by decide) rfl cw_RX10_142 okX10_findsBest rfl (Nat.le_of_ble_eq_true rfl) ⟨Nat.le_of_ble_eq_true rfl, Nat.le_of_ble_eq_true rfl, Nat.le_of_ble_eq_true rfl, Nat.le_of_ble_eq_true rfl⟩ (fun τ13 hr13 => ?_)
  have hz13 : zOK τ13 := hr13.1
  refine zx_aloadN dX10_yearOfVerdict_16 rfl rfl ?_
  refine zy_getI fl_RX10_133 rfl dX10_yearOfVerdict_17 rfl ?_
  refine zx_iret rfl rfl dX10_yearOfVerdict_20 ?_
  rw [hQ]
  refine ⟨congrArg (fun z : Int => (Sum.inl (some (zi z)) : Option zV ⊕ String)) ?_, ?_⟩
  · exact hr13.2.2.1
  have hwl2 := hr13.2.1.2.1 13 (by omega)
  refine ⟨hz13, mfr_tr (mfr_put261 hr2.2.1) hr13.2.1 (fun k q => by omega) (fun k q => by omega), ?_, hr13.2.2.2.1⟩
  rw [hwl2]; exact zput_s _ _ _ _
set_option maxRecDepth 20000 in
set_option maxHeartbeats 2000000 in
theorem sX10_scoreOfVerdict {l : Launch} {w : zW} (hfl : l.stackTraces = false) {σ : zS} {D : zBk}  (hz : zOK σ) (hW : WF D) (hR : Rel D (σ.1 262)) (hP1 : 1 ≤ D 1 0) : Sp l w mX10_scoreOfVerdict 11 0 [zf 10 261] σ (zqv (some (zi (wS D (Ht D)))) (fun τ => zOK τ ∧ mfr σ τ (fun k => k = 267 ∨ k = 268) (fun i => (9 ≤ i ∧ i ≤ 11) ∨ i = 13) ∧ τ.1 261 13 = wP D (Ht D))) := by
  obtain ⟨Q, hQ⟩ : ∃ Q : zQ, Q = (zqv (some (zi (wS D (Ht D)))) (fun τ => zOK τ ∧ mfr σ τ (fun k => k = 267 ∨ k = 268) (fun i => (9 ≤ i ∧ i ≤ 11) ∨ i = 13) ∧ τ.1 261 13 = wP D (Ht D))) := ⟨_, rfl⟩
  rw [← hQ]
  refine zx_enter hfl (by decide) rfl 1 rfl ?_
  show zX l w mX10_scoreOfVerdict (zMQ w 11 0 Q) 0 [zf 10 261, zu] [] 0 σ
  have hP : 0 ≤ D 1 0 ∧ D 1 0 ≤ 8 := hW.1.1
  have hM : 0 ≤ D 1 7 ∧ D 1 7 ≤ 8 := hW.1.2.1
  have hE : 0 ≤ D 1 10 ∧ D 1 10 ≤ 12 := hW.1.2.2.1
  have hK : 0 ≤ D 12 0 ∧ D 12 0 ≤ 40 := hW.1.2.2.2
  have r0 : σ.1 262 0 = D 1 0 := hR.1.1
  have r1 : σ.1 262 1 = D 1 7 := hR.1.2.1
  have r2 : σ.1 262 2 = D 1 10 := hR.1.2.2.1
  have r3 : σ.1 262 3 = D 12 0 := hR.1.2.2.2
  refine zx_aloadN dX10_scoreOfVerdict_0 rfl rfl ?_
  refine zy_cvR [] (sX10_yearOfVerdict (D := D) hfl hz (by first | assumption | omega) (by first | assumption | (refine Rel_put (by decide) ?_; assumption) | (refine Rel_put (by decide) (Rel_put (by decide) ?_); assumption) | (refine Rel_put (by decide) (Rel_put (by decide) (Rel_put (by decide) ?_)); assumption)) (by first | assumption | omega)) dX10_scoreOfVerdict_1 (by decide) rfl cw_RX10_166 okX10_yearOfVerdict rfl (Nat.le_of_ble_eq_true rfl) ⟨Nat.le_of_ble_eq_true rfl, Nat.le_of_ble_eq_true rfl, Nat.le_of_ble_eq_true rfl, Nat.le_of_ble_eq_true rfl⟩ (fun τ1 hr1 => ?_)
  have hz1 : zOK τ1 := hr1.1
  refine zy_istoreN [zf 10 261, zi (wY D (Ht D))] dX10_scoreOfVerdict_4 rfl (Nat.le_of_ble_eq_true rfl) (Nat.le_of_ble_eq_true rfl) rfl rfl ?_
  refine zx_aloadN dX10_scoreOfVerdict_5 rfl rfl ?_
  refine zy_getI fl_RX10_136 rfl dX10_scoreOfVerdict_6 rfl ?_
  refine zx_iret rfl rfl dX10_scoreOfVerdict_9 ?_
  rw [hQ]
  refine ⟨congrArg (fun z : Int => (Sum.inl (some (zi z)) : Option zV ⊕ String)) ?_, ?_⟩
  · exact hr1.2.2.2
  exact ⟨hz1, hr1.2.1, hr1.2.2.1⟩
set_option maxRecDepth 20000 in
set_option maxHeartbeats 2000000 in
theorem sX10_isOpen {l : Launch} {w : zW} (hfl : l.stackTraces = false) {σ : zS} {D : zBk} {c u : Nat} {y : Int} (hz : zOK σ) (hW : WF D) (hR : Rel D (σ.1 262)) (hc : (c : Int) < D 12 0) (hw : σ.1 261 13 = u) (hu : (u : Int) < D 1 0) (hy : zr y) : Sp l w mX10_isOpen 5 0 [zf 10 261, zi ((c : Nat) : Int), zi y] σ (zret (zi (zb (Ht D c ∧ ¬ (works D u y ∧ cFit D u y c)))) σ) := by
  obtain ⟨Q, hQ⟩ : ∃ Q : zQ, Q = (zret (zi (zb (Ht D c ∧ ¬ (works D u y ∧ cFit D u y c)))) σ) := ⟨_, rfl⟩
  rw [← hQ]
  refine zx_enter hfl (by decide) rfl 0 rfl ?_
  show zX l w mX10_isOpen (zMQ w 5 0 Q) 0 [zf 10 261, zi ((c : Nat) : Int), zi y] [] 0 σ
  have hP : 0 ≤ D 1 0 ∧ D 1 0 ≤ 8 := hW.1.1
  have hM : 0 ≤ D 1 7 ∧ D 1 7 ≤ 8 := hW.1.2.1
  have hE : 0 ≤ D 1 10 ∧ D 1 10 ≤ 12 := hW.1.2.2.1
  have hK : 0 ≤ D 12 0 ∧ D 12 0 ≤ 40 := hW.1.2.2.2
  have r0 : σ.1 262 0 = D 1 0 := hR.1.1
  have r1 : σ.1 262 1 = D 1 7 := hR.1.2.1
  have r2 : σ.1 262 2 = D 1 10 := hR.1.2.2.1
  have r3 : σ.1 262 3 = D 12 0 := hR.1.2.2.2
  refine zx_aloadN dX10_isOpen_0 rfl rfl ?_
  refine zx_iloadN dX10_isOpen_1 rfl rfl ?_
  refine zy_cv [zi ((c : Nat) : Int)] (sX10_isCounted (D := D) (c := c) hfl hz (by first | assumption | omega) (by first | assumption | (refine Rel_put (by decide) ?_; assumption) | (refine Rel_put (by decide) (Rel_put (by decide) ?_); assumption) | (refine Rel_put (by decide) (Rel_put (by decide) (Rel_put (by decide) ?_)); assumption)) (by first | assumption | omega)) dX10_isOpen_2 (by decide) rfl cw_RX10_121 okX10_isCounted rfl (Nat.le_of_ble_eq_true rfl) ⟨Nat.le_of_ble_eq_true rfl, Nat.le_of_ble_eq_true rfl, Nat.le_of_ble_eq_true rfl, Nat.le_of_ble_eq_true rfl⟩ ?_
  refine zx_if_eq (tgt := 25) (by first | exact hz _ _ | assumption | exact zr_b _ | exact zcmp_r _ _ | (unfold zr at *; omega)) dX10_isOpen_5 (by decide) (fun h5 => ?_) (fun h5 => ?_)
  · have h5 := zb_0.mp h5
    refine zx_iconst dX10_isOpen_25 ?_
    refine zx_iret rfl rfl dX10_isOpen_26 ?_
    rw [hQ]
    refine ⟨congrArg (fun z : Int => (Sum.inl (some (zi z)) : Option zV ⊕ String)) ?_, by first | rfl | (exfalso; omega)⟩
    first | exact (zb_t ⟨h5, h18⟩).symm | exact (zb_f (fun q => h5 q.1)).symm | exact (zb_f (fun q => q.2 h18)).symm
  · have h5 := zb_n.mp h5
    refine zx_aloadN dX10_isOpen_8 rfl rfl ?_
    refine zx_iloadN dX10_isOpen_9 rfl rfl ?_
    refine zx_aloadN dX10_isOpen_10 rfl rfl ?_
    refine zy_getI fl_RX10_163 rfl dX10_isOpen_11 rfl ?_
    refine zy_top (b := ((u : Nat) : Int)) (hw) ?_
    refine zx_iloadN dX10_isOpen_14 rfl rfl ?_
    refine zy_cv [zi ((c : Nat) : Int), zi ((u : Nat) : Int), zi y] (sX10_isExplained (D := D) (c := c) (p := u) hfl hz (by first | assumption | omega) (by first | assumption | (refine Rel_put (by decide) ?_; assumption) | (refine Rel_put (by decide) (Rel_put (by decide) ?_); assumption) | (refine Rel_put (by decide) (Rel_put (by decide) (Rel_put (by decide) ?_)); assumption)) (by first | assumption | omega) (by first | assumption | omega) (by first | exact hz _ _ | assumption | exact zr_b _ | exact zcmp_r _ _ | (unfold zr at *; omega))) dX10_isOpen_15 (by decide) rfl cw_RX10_125 okX10_isExplained rfl (Nat.le_of_ble_eq_true rfl) ⟨Nat.le_of_ble_eq_true rfl, Nat.le_of_ble_eq_true rfl, Nat.le_of_ble_eq_true rfl, Nat.le_of_ble_eq_true rfl⟩ ?_
    refine zx_if_ne (tgt := 25) (by first | exact hz _ _ | assumption | exact zr_b _ | exact zcmp_r _ _ | (unfold zr at *; omega)) dX10_isOpen_18 (by decide) (fun h18 => ?_) (fun h18 => ?_)
    · have h18 := zb_n.mp h18
      refine zx_iconst dX10_isOpen_25 ?_
      refine zx_iret rfl rfl dX10_isOpen_26 ?_
      rw [hQ]
      refine ⟨congrArg (fun z : Int => (Sum.inl (some (zi z)) : Option zV ⊕ String)) ?_, by first | rfl | (exfalso; omega)⟩
      first | exact (zb_t ⟨h5, h18⟩).symm | exact (zb_f (fun q => h5 q.1)).symm | exact (zb_f (fun q => q.2 h18)).symm
    · have h18 := zb_0.mp h18
      refine zx_iconst dX10_isOpen_21 ?_
      refine zx_goto (tgt := 26) dX10_isOpen_22 (by decide) ?_
      refine zx_iret rfl rfl dX10_isOpen_26 ?_
      rw [hQ]
      refine ⟨congrArg (fun z : Int => (Sum.inl (some (zi z)) : Option zV ⊕ String)) ?_, by first | rfl | (exfalso; omega)⟩
      first | exact (zb_t ⟨h5, h18⟩).symm | exact (zb_f (fun q => h5 q.1)).symm | exact (zb_f (fun q => q.2 h18)).symm
set_option maxRecDepth 20000 in
set_option maxHeartbeats 2000000 in
theorem sX10_openMany {l : Launch} {w : zW} (hfl : l.stackTraces = false) {σ : zS} {D : zBk} {u : Nat} {y : Int} (hz : zOK σ) (hW : WF D) (hR : Rel D (σ.1 262)) (hw : σ.1 261 13 = u) (hu : (u : Int) < D 1 0) (hy : zr y) : Sp l w mX10_openMany 6 0 [zf 10 261, zi y] σ (zret (zi (zs (fun c => zb (Ht D c ∧ ¬ (works D u y ∧ cFit D u y c))) (D 12 0).toNat)) σ) := by
  obtain ⟨Q, hQ⟩ : ∃ Q : zQ, Q = (zret (zi (zs (fun c => zb (Ht D c ∧ ¬ (works D u y ∧ cFit D u y c))) (D 12 0).toNat)) σ) := ⟨_, rfl⟩
  rw [← hQ]
  refine zx_enter hfl (by decide) rfl 2 rfl ?_
  show zX l w mX10_openMany (zMQ w 6 0 Q) 0 [zf 10 261, zi y, zu, zu] [] 0 σ
  have hP : 0 ≤ D 1 0 ∧ D 1 0 ≤ 8 := hW.1.1
  have hM : 0 ≤ D 1 7 ∧ D 1 7 ≤ 8 := hW.1.2.1
  have hE : 0 ≤ D 1 10 ∧ D 1 10 ≤ 12 := hW.1.2.2.1
  have hK : 0 ≤ D 12 0 ∧ D 12 0 ≤ 40 := hW.1.2.2.2
  have r0 : σ.1 262 0 = D 1 0 := hR.1.1
  have r1 : σ.1 262 1 = D 1 7 := hR.1.2.1
  have r2 : σ.1 262 2 = D 1 10 := hR.1.2.2.1
  have r3 : σ.1 262 3 = D 12 0 := hR.1.2.2.2
  refine zx_iconst dX10_openMany_0 ?_
  refine zy_istoreN [zf 10 261, zi y, zi 0, zu] dX10_openMany_1 rfl (Nat.le_of_ble_eq_true rfl) (Nat.le_of_ble_eq_true rfl) rfl rfl ?_
  refine zx_iconst dX10_openMany_2 ?_
  refine zy_istoreN [zf 10 261, zi y, zi 0, zi 0] dX10_openMany_3 rfl (Nat.le_of_ble_eq_true rfl) (Nat.le_of_ble_eq_true rfl) rfl rfl ?_
  have L4 : ∀ (N : Nat) (c : Nat) (acc : Int), ((c : Int) ≤ D 12 0) → (acc = zs (fun c => zb (Ht D c ∧ ¬ (works D u y ∧ cFit D u y c))) c) → (41 - c) < N → zX l w mX10_openMany (zMQ w 6 0 Q) 4 [zf 10 261, zi y, zi acc, zi ((c : Nat) : Int)] [] 0 σ := by
    intro N
    induction N with
    | zero => intro c acc _ _ _; exact absurd (by assumption) (Nat.not_lt_zero _)
    | succ N ih4 =>
      intro c acc hc_ hacc hN
      refine zx_iloadN dX10_openMany_4 rfl rfl ?_
      refine zx_aloadN dX10_openMany_5 rfl rfl ?_
      refine zy_getR (q' := 262) fl_RX10_7 rfl dX10_openMany_6 rfl ?_
      refine zx_iconst dX10_openMany_9 ?_
      refine zy_iald (v := σ.1 262 3) rfl (by decide) (by decide) dX10_openMany_10 (by omega) (by omega) rfl ?_
      refine zx_icmp_ge (tgt := 32) (by first | exact hz _ _ | assumption | exact zr_b _ | exact zcmp_r _ _ | (unfold zr at *; omega)) (by first | exact hz _ _ | assumption | exact zr_b _ | exact zcmp_r _ _ | (unfold zr at *; omega)) dX10_openMany_11 (by decide) (fun h11 => ?_) (fun h11 => ?_)
      · refine zx_iloadN dX10_openMany_32 rfl rfl ?_
        refine zx_iret rfl rfl dX10_openMany_33 ?_
        rw [hQ]
        refine ⟨congrArg (fun z : Int => (Sum.inl (some (zi z)) : Option zV ⊕ String)) ?_, by first | rfl | (exfalso; omega)⟩
        rw [hacc]; congr 1; omega
      · refine zx_iloadN dX10_openMany_14 rfl rfl ?_
        refine zx_aloadN dX10_openMany_15 rfl rfl ?_
        refine zx_iloadN dX10_openMany_16 rfl rfl ?_
        refine zx_iloadN dX10_openMany_17 rfl rfl ?_
        refine zy_cv [zi ((c : Nat) : Int), zi y] (sX10_isOpen (D := D) (u := u) hfl hz (by first | assumption | omega) (by first | assumption | (refine Rel_put (by decide) ?_; assumption) | (refine Rel_put (by decide) (Rel_put (by decide) ?_); assumption) | (refine Rel_put (by decide) (Rel_put (by decide) (Rel_put (by decide) ?_)); assumption)) (by first | assumption | omega) (by first | assumption | omega) (by first | assumption | omega) (by first | exact hz _ _ | assumption | exact zr_b _ | exact zcmp_r _ _ | (unfold zr at *; omega))) dX10_openMany_18 (by decide) rfl cw_RX10_178 okX10_isOpen rfl (Nat.le_of_ble_eq_true rfl) ⟨Nat.le_of_ble_eq_true rfl, Nat.le_of_ble_eq_true rfl, Nat.le_of_ble_eq_true rfl, Nat.le_of_ble_eq_true rfl⟩ ?_
        refine zy_cs [zi (zb (Ht D c ∧ ¬ (works D u y ∧ cFit D u y c)))] (sX10_truth (A := (Ht D c ∧ ¬ (works D u y ∧ cFit D u y c))) hfl hz ) dX10_openMany_21 cw_RX10_94 okX10_truth rfl (Nat.le_of_ble_eq_true rfl) ⟨Nat.le_of_ble_eq_true rfl, Nat.le_of_ble_eq_true rfl, Nat.le_of_ble_eq_true rfl, Nat.le_of_ble_eq_true rfl⟩ ?_
        refine zx_iadd dX10_openMany_24 ?_
        refine zy_istoreN [zf 10 261, zi y, zi (acc + (zb (Ht D c ∧ ¬ (works D u y ∧ cFit D u y c)))), zi ((c : Nat) : Int)] dX10_openMany_25 rfl (Nat.le_of_ble_eq_true rfl) (Nat.le_of_ble_eq_true rfl) rfl rfl ?_
        refine zy_iinc (b := ((c + 1 : Nat) : Int)) [zf 10 261, zi y, zi (acc + (zb (Ht D c ∧ ¬ (works D u y ∧ cFit D u y c)))), zi ((c + 1 : Nat) : Int)] dX10_openMany_26 rfl (by omega) (Nat.le_of_ble_eq_true rfl) rfl rfl ?_
        refine zx_goto (tgt := 4) dX10_openMany_29 (by decide) ?_
        exact ih4 (c + 1) (acc + (zb (Ht D c ∧ ¬ (works D u y ∧ cFit D u y c)))) (by first | assumption | omega) (by subst hacc; exact (zs_s _ _).symm) (by omega)
  exact L4 _ 0 0 (by first | assumption | omega) rfl (Nat.lt_succ_self _)
set_option maxRecDepth 20000 in
set_option maxHeartbeats 2000000 in
theorem sX10_openWeight {l : Launch} {w : zW} (hfl : l.stackTraces = false) {σ : zS} {D : zBk} {u : Nat} {y : Int} (hz : zOK σ) (hW : WF D) (hR : Rel D (σ.1 262)) (hw : σ.1 261 13 = u) (hu : (u : Int) < D 1 0) (hy : zr y) : Sp l w mX10_openWeight 6 0 [zf 10 261, zi y] σ (zret (zi (zs (fun c => zif (Ht D c ∧ ¬ (works D u y ∧ cFit D u y c)) (D 16 c)) (D 12 0).toNat)) σ) := by
  obtain ⟨Q, hQ⟩ : ∃ Q : zQ, Q = (zret (zi (zs (fun c => zif (Ht D c ∧ ¬ (works D u y ∧ cFit D u y c)) (D 16 c)) (D 12 0).toNat)) σ) := ⟨_, rfl⟩
  rw [← hQ]
  refine zx_enter hfl (by decide) rfl 2 rfl ?_
  show zX l w mX10_openWeight (zMQ w 6 0 Q) 0 [zf 10 261, zi y, zu, zu] [] 0 σ
  have hP : 0 ≤ D 1 0 ∧ D 1 0 ≤ 8 := hW.1.1
  have hM : 0 ≤ D 1 7 ∧ D 1 7 ≤ 8 := hW.1.2.1
  have hE : 0 ≤ D 1 10 ∧ D 1 10 ≤ 12 := hW.1.2.2.1
  have hK : 0 ≤ D 12 0 ∧ D 12 0 ≤ 40 := hW.1.2.2.2
  have r0 : σ.1 262 0 = D 1 0 := hR.1.1
  have r1 : σ.1 262 1 = D 1 7 := hR.1.2.1
  have r2 : σ.1 262 2 = D 1 10 := hR.1.2.2.1
  have r3 : σ.1 262 3 = D 12 0 := hR.1.2.2.2
  have hz16 : ∀ c : Nat, (c : Int) < D 12 0 → zr (D 16 c) := fun c hc => by have := (hW.2.2.2.2.1 c hc).2.2.1; unfold zr; omega
  refine zx_iconst dX10_openWeight_0 ?_
  refine zy_istoreN [zf 10 261, zi y, zi 0, zu] dX10_openWeight_1 rfl (Nat.le_of_ble_eq_true rfl) (Nat.le_of_ble_eq_true rfl) rfl rfl ?_
  refine zx_iconst dX10_openWeight_2 ?_
  refine zy_istoreN [zf 10 261, zi y, zi 0, zi 0] dX10_openWeight_3 rfl (Nat.le_of_ble_eq_true rfl) (Nat.le_of_ble_eq_true rfl) rfl rfl ?_
  have L4 : ∀ (N : Nat) (c : Nat) (acc : Int), ((c : Int) ≤ D 12 0) → (acc = zs (fun c => zif (Ht D c ∧ ¬ (works D u y ∧ cFit D u y c)) (D 16 c)) c) → (41 - c) < N → zX l w mX10_openWeight (zMQ w 6 0 Q) 4 [zf 10 261, zi y, zi acc, zi ((c : Nat) : Int)] [] 0 σ := by
    intro N
    induction N with
    | zero => intro c acc _ _ _; exact absurd (by assumption) (Nat.not_lt_zero _)
    | succ N ih4 =>
      intro c acc hc_ hacc hN
      refine zx_iloadN dX10_openWeight_4 rfl rfl ?_
      refine zx_aloadN dX10_openWeight_5 rfl rfl ?_
      refine zy_getR (q' := 262) fl_RX10_7 rfl dX10_openWeight_6 rfl ?_
      refine zx_iconst dX10_openWeight_9 ?_
      refine zy_iald (v := σ.1 262 3) rfl (by decide) (by decide) dX10_openWeight_10 (by omega) (by omega) rfl ?_
      refine zx_icmp_ge (tgt := 42) (by first | exact hz _ _ | assumption | exact zr_b _ | exact zcmp_r _ _ | (unfold zr at *; omega)) (by first | exact hz _ _ | assumption | exact zr_b _ | exact zcmp_r _ _ | (unfold zr at *; omega)) dX10_openWeight_11 (by decide) (fun h11 => ?_) (fun h11 => ?_)
      · refine zx_iloadN dX10_openWeight_42 rfl rfl ?_
        refine zx_iret rfl rfl dX10_openWeight_43 ?_
        rw [hQ]
        refine ⟨congrArg (fun z : Int => (Sum.inl (some (zi z)) : Option zV ⊕ String)) ?_, by first | rfl | (exfalso; omega)⟩
        rw [hacc]; congr 1; omega
      · refine zx_iloadN dX10_openWeight_14 rfl rfl ?_
        refine zx_aloadN dX10_openWeight_15 rfl rfl ?_
        refine zx_iloadN dX10_openWeight_16 rfl rfl ?_
        refine zx_iloadN dX10_openWeight_17 rfl rfl ?_
        refine zy_cv [zi ((c : Nat) : Int), zi y] (sX10_isOpen (D := D) (u := u) hfl hz (by first | assumption | omega) (by first | assumption | (refine Rel_put (by decide) ?_; assumption) | (refine Rel_put (by decide) (Rel_put (by decide) ?_); assumption) | (refine Rel_put (by decide) (Rel_put (by decide) (Rel_put (by decide) ?_)); assumption)) (by first | assumption | omega) (by first | assumption | omega) (by first | assumption | omega) (by first | exact hz _ _ | assumption | exact zr_b _ | exact zcmp_r _ _ | (unfold zr at *; omega))) dX10_openWeight_18 (by decide) rfl cw_RX10_178 okX10_isOpen rfl (Nat.le_of_ble_eq_true rfl) ⟨Nat.le_of_ble_eq_true rfl, Nat.le_of_ble_eq_true rfl, Nat.le_of_ble_eq_true rfl, Nat.le_of_ble_eq_true rfl⟩ ?_
        refine zx_if_eq (tgt := 33) (by first | exact hz _ _ | assumption | exact zr_b _ | exact zcmp_r _ _ | (unfold zr at *; omega)) dX10_openWeight_21 (by decide) (fun h21 => ?_) (fun h21 => ?_)
        · have h21 := zb_0.mp h21
          refine zx_iconst dX10_openWeight_33 ?_
          refine zx_iadd dX10_openWeight_34 ?_
          refine zy_istoreN [zf 10 261, zi y, zi (acc + 0), zi ((c : Nat) : Int)] dX10_openWeight_35 rfl (Nat.le_of_ble_eq_true rfl) (Nat.le_of_ble_eq_true rfl) rfl rfl ?_
          refine zy_iinc (b := ((c + 1 : Nat) : Int)) [zf 10 261, zi y, zi (acc + 0), zi ((c + 1 : Nat) : Int)] dX10_openWeight_36 rfl (by omega) (Nat.le_of_ble_eq_true rfl) rfl rfl ?_
          refine zx_goto (tgt := 4) dX10_openWeight_39 (by decide) ?_
          exact ih4 (c + 1) (acc + 0) (by first | assumption | omega) (by subst hacc; first | exact zsw_t (P := (fun c => Ht D c ∧ ¬ (works D u y ∧ cFit D u y c))) (v := D 16) h21 | (rw [Int.add_zero]; exact zsw_f (P := (fun c => Ht D c ∧ ¬ (works D u y ∧ cFit D u y c))) (v := D 16) h21)) (by omega)
        · have h21 := zb_n.mp h21
          refine zx_aloadN dX10_openWeight_24 rfl rfl ?_
          refine zx_iloadN dX10_openWeight_25 rfl rfl ?_
          refine zx_iconst dX10_openWeight_26 ?_
          refine zy_cv [zi ((c : Nat) : Int), zi 3] (sX10_of (D := D) (c := c) (o := 3) hfl hz (by first | assumption | omega) (by first | assumption | (refine Rel_put (by decide) ?_; assumption) | (refine Rel_put (by decide) (Rel_put (by decide) ?_); assumption) | (refine Rel_put (by decide) (Rel_put (by decide) (Rel_put (by decide) ?_)); assumption)) (by first | assumption | omega) (by first | assumption | omega)) dX10_openWeight_27 (by decide) rfl cw_RX10_102 okX10_of rfl (Nat.le_of_ble_eq_true rfl) ⟨Nat.le_of_ble_eq_true rfl, Nat.le_of_ble_eq_true rfl, Nat.le_of_ble_eq_true rfl, Nat.le_of_ble_eq_true rfl⟩ ?_
          refine zy_top (b := D 16 c) rfl ?_
          refine zx_goto (tgt := 34) dX10_openWeight_30 (by decide) ?_
          refine zx_iadd dX10_openWeight_34 ?_
          refine zy_istoreN [zf 10 261, zi y, zi (acc + (D 16 c)), zi ((c : Nat) : Int)] dX10_openWeight_35 rfl (Nat.le_of_ble_eq_true rfl) (Nat.le_of_ble_eq_true rfl) rfl rfl ?_
          refine zy_iinc (b := ((c + 1 : Nat) : Int)) [zf 10 261, zi y, zi (acc + (D 16 c)), zi ((c + 1 : Nat) : Int)] dX10_openWeight_36 rfl (by omega) (Nat.le_of_ble_eq_true rfl) rfl rfl ?_
          refine zx_goto (tgt := 4) dX10_openWeight_39 (by decide) ?_
          exact ih4 (c + 1) (acc + (D 16 c)) (by first | assumption | omega) (by subst hacc; first | exact zsw_t (P := (fun c => Ht D c ∧ ¬ (works D u y ∧ cFit D u y c))) (v := D 16) h21 | (rw [Int.add_zero]; exact zsw_f (P := (fun c => Ht D c ∧ ¬ (works D u y ∧ cFit D u y c))) (v := D 16) h21)) (by omega)
  exact L4 _ 0 0 (by first | assumption | omega) rfl (Nat.lt_succ_self _)
set_option maxRecDepth 20000 in
set_option maxHeartbeats 2000000 in
theorem sX10_isBoth {l : Launch} {w : zW} (hfl : l.stackTraces = false) {σ : zS} {D : zBk} {c d p : Nat} (hz : zOK σ) (hW : WF D) (hR : Rel D (σ.1 262)) (hc : (c : Int) < D 12 0) (hd : (d : Int) < D 12 0) (hp : (p : Int) < D 1 0) : Sp l w mX10_isBoth 4 0 [zf 10 261, zi ((c : Nat) : Int), zi ((d : Nat) : Int), zi ((p : Nat) : Int)] σ (zret (zi (zb (both D c d p))) σ) := by
  obtain ⟨Q, hQ⟩ : ∃ Q : zQ, Q = (zret (zi (zb (both D c d p))) σ) := ⟨_, rfl⟩
  rw [← hQ]
  refine zx_enter hfl (by decide) rfl 2 rfl ?_
  show zX l w mX10_isBoth (zMQ w 4 0 Q) 0 [zf 10 261, zi ((c : Nat) : Int), zi ((d : Nat) : Int), zi ((p : Nat) : Int), zu, zu] [] 0 σ
  have hP : 0 ≤ D 1 0 ∧ D 1 0 ≤ 8 := hW.1.1
  have hM : 0 ≤ D 1 7 ∧ D 1 7 ≤ 8 := hW.1.2.1
  have hE : 0 ≤ D 1 10 ∧ D 1 10 ≤ 12 := hW.1.2.2.1
  have hK : 0 ≤ D 12 0 ∧ D 12 0 ≤ 40 := hW.1.2.2.2
  have r0 : σ.1 262 0 = D 1 0 := hR.1.1
  have r1 : σ.1 262 1 = D 1 7 := hR.1.2.1
  have r2 : σ.1 262 2 = D 1 10 := hR.1.2.2.1
  have r3 : σ.1 262 3 = D 12 0 := hR.1.2.2.2
  have hYc := WF_y hW hc
  have hYd := WF_y hW hd
  have hyr := (hW.2.1 p hp).2
  refine zx_aloadN dX10_isBoth_0 rfl rfl ?_
  refine zx_iloadN dX10_isBoth_1 rfl rfl ?_
  refine zx_bipush dX10_isBoth_2 rfl ?_
  refine zy_cv [zi ((p : Nat) : Int), zi 8] (sX10_ofPrinter (D := D) (p := p) (o := 8) hfl hz (by first | assumption | omega) (by first | assumption | (refine Rel_put (by decide) ?_; assumption) | (refine Rel_put (by decide) (Rel_put (by decide) ?_); assumption) | (refine Rel_put (by decide) (Rel_put (by decide) (Rel_put (by decide) ?_)); assumption)) (by first | assumption | omega) (by first | assumption | omega)) dX10_isBoth_4 (by decide) rfl cw_RX10_82 okX10_ofPrinter rfl (Nat.le_of_ble_eq_true rfl) ⟨Nat.le_of_ble_eq_true rfl, Nat.le_of_ble_eq_true rfl, Nat.le_of_ble_eq_true rfl, Nat.le_of_ble_eq_true rfl⟩ ?_
  refine zy_top (b := D 4 p) rfl ?_
  refine zx_aloadN dX10_isBoth_7 rfl rfl ?_
  refine zx_iloadN dX10_isBoth_8 rfl rfl ?_
  refine zy_cv [zi ((c : Nat) : Int)] (sX10_earliest (D := D) (c := c) hfl hz (by first | assumption | omega) (by first | assumption | (refine Rel_put (by decide) ?_; assumption) | (refine Rel_put (by decide) (Rel_put (by decide) ?_); assumption) | (refine Rel_put (by decide) (Rel_put (by decide) (Rel_put (by decide) ?_)); assumption)) (by first | assumption | omega)) dX10_isBoth_9 (by decide) rfl cw_RX10_114 okX10_earliest rfl (Nat.le_of_ble_eq_true rfl) ⟨Nat.le_of_ble_eq_true rfl, Nat.le_of_ble_eq_true rfl, Nat.le_of_ble_eq_true rfl, Nat.le_of_ble_eq_true rfl⟩ ?_
  refine zx_aloadN dX10_isBoth_12 rfl rfl ?_
  refine zx_iloadN dX10_isBoth_13 rfl rfl ?_
  refine zy_cv [zi ((d : Nat) : Int)] (sX10_earliest (D := D) (c := d) hfl hz (by first | assumption | omega) (by first | assumption | (refine Rel_put (by decide) ?_; assumption) | (refine Rel_put (by decide) (Rel_put (by decide) ?_); assumption) | (refine Rel_put (by decide) (Rel_put (by decide) (Rel_put (by decide) ?_)); assumption)) (by first | assumption | omega)) dX10_isBoth_14 (by decide) rfl cw_RX10_114 okX10_earliest rfl (Nat.le_of_ble_eq_true rfl) ⟨Nat.le_of_ble_eq_true rfl, Nat.le_of_ble_eq_true rfl, Nat.le_of_ble_eq_true rfl, Nat.le_of_ble_eq_true rfl⟩ ?_
  refine zx_max (by first | exact hz _ _ | assumption | exact zr_b _ | exact zcmp_r _ _ | exact zr_max (by unfold zr; omega) (by unfold zr; omega) | exact zr_min (by unfold zr; omega) (by unfold zr; omega) | exact zr_max (by unfold zr; omega) (zr_max (by unfold zr; omega) (by unfold zr; omega)) | exact zr_min (by unfold zr; omega) (zr_min (by unfold zr; omega) (by unfold zr; omega)) | (unfold zr at *; omega)) (by first | exact hz _ _ | assumption | exact zr_b _ | exact zcmp_r _ _ | exact zr_max (by unfold zr; omega) (by unfold zr; omega) | exact zr_min (by unfold zr; omega) (by unfold zr; omega) | exact zr_max (by unfold zr; omega) (zr_max (by unfold zr; omega) (by unfold zr; omega)) | exact zr_min (by unfold zr; omega) (zr_min (by unfold zr; omega) (by unfold zr; omega)) | (unfold zr at *; omega)) mw_RX10_181 (Nat.le_of_ble_eq_true rfl) ⟨Nat.le_of_ble_eq_true rfl, Nat.le_of_ble_eq_true rfl⟩ dX10_isBoth_17 ?_
  refine zx_max (by first | exact hz _ _ | assumption | exact zr_b _ | exact zcmp_r _ _ | exact zr_max (by unfold zr; omega) (by unfold zr; omega) | exact zr_min (by unfold zr; omega) (by unfold zr; omega) | exact zr_max (by unfold zr; omega) (zr_max (by unfold zr; omega) (by unfold zr; omega)) | exact zr_min (by unfold zr; omega) (zr_min (by unfold zr; omega) (by unfold zr; omega)) | (unfold zr at *; omega)) (by first | exact hz _ _ | assumption | exact zr_b _ | exact zcmp_r _ _ | exact zr_max (by unfold zr; omega) (by unfold zr; omega) | exact zr_min (by unfold zr; omega) (by unfold zr; omega) | exact zr_max (by unfold zr; omega) (zr_max (by unfold zr; omega) (by unfold zr; omega)) | exact zr_min (by unfold zr; omega) (zr_min (by unfold zr; omega) (by unfold zr; omega)) | (unfold zr at *; omega)) mw_RX10_181 (Nat.le_of_ble_eq_true rfl) ⟨Nat.le_of_ble_eq_true rfl, Nat.le_of_ble_eq_true rfl⟩ dX10_isBoth_20 ?_
  refine zy_istore [zf 10 261, zi ((c : Nat) : Int), zi ((d : Nat) : Int), zi ((p : Nat) : Int), zi (max (D 4 p) (max (eYr D c) (eYr D d))), zu] dX10_isBoth_23 (Nat.le_of_ble_eq_true rfl) (Nat.le_of_ble_eq_true rfl) rfl rfl ?_
  refine zx_aloadN dX10_isBoth_25 rfl rfl ?_
  refine zx_iloadN dX10_isBoth_26 rfl rfl ?_
  refine zx_bipush dX10_isBoth_27 rfl ?_
  refine zy_cv [zi ((p : Nat) : Int), zi 9] (sX10_ofPrinter (D := D) (p := p) (o := 9) hfl hz (by first | assumption | omega) (by first | assumption | (refine Rel_put (by decide) ?_; assumption) | (refine Rel_put (by decide) (Rel_put (by decide) ?_); assumption) | (refine Rel_put (by decide) (Rel_put (by decide) (Rel_put (by decide) ?_)); assumption)) (by first | assumption | omega) (by first | assumption | omega)) dX10_isBoth_29 (by decide) rfl cw_RX10_82 okX10_ofPrinter rfl (Nat.le_of_ble_eq_true rfl) ⟨Nat.le_of_ble_eq_true rfl, Nat.le_of_ble_eq_true rfl, Nat.le_of_ble_eq_true rfl, Nat.le_of_ble_eq_true rfl⟩ ?_
  refine zy_top (b := D 5 p) rfl ?_
  refine zx_aloadN dX10_isBoth_32 rfl rfl ?_
  refine zx_iloadN dX10_isBoth_33 rfl rfl ?_
  refine zy_cv [zi ((c : Nat) : Int)] (sX10_latest (D := D) (c := c) hfl hz (by first | assumption | omega) (by first | assumption | (refine Rel_put (by decide) ?_; assumption) | (refine Rel_put (by decide) (Rel_put (by decide) ?_); assumption) | (refine Rel_put (by decide) (Rel_put (by decide) (Rel_put (by decide) ?_)); assumption)) (by first | assumption | omega)) dX10_isBoth_34 (by decide) rfl cw_RX10_118 okX10_latest rfl (Nat.le_of_ble_eq_true rfl) ⟨Nat.le_of_ble_eq_true rfl, Nat.le_of_ble_eq_true rfl, Nat.le_of_ble_eq_true rfl, Nat.le_of_ble_eq_true rfl⟩ ?_
  refine zx_aloadN dX10_isBoth_37 rfl rfl ?_
  refine zx_iloadN dX10_isBoth_38 rfl rfl ?_
  refine zy_cv [zi ((d : Nat) : Int)] (sX10_latest (D := D) (c := d) hfl hz (by first | assumption | omega) (by first | assumption | (refine Rel_put (by decide) ?_; assumption) | (refine Rel_put (by decide) (Rel_put (by decide) ?_); assumption) | (refine Rel_put (by decide) (Rel_put (by decide) (Rel_put (by decide) ?_)); assumption)) (by first | assumption | omega)) dX10_isBoth_39 (by decide) rfl cw_RX10_118 okX10_latest rfl (Nat.le_of_ble_eq_true rfl) ⟨Nat.le_of_ble_eq_true rfl, Nat.le_of_ble_eq_true rfl, Nat.le_of_ble_eq_true rfl, Nat.le_of_ble_eq_true rfl⟩ ?_
  refine zx_min (by first | exact hz _ _ | assumption | exact zr_b _ | exact zcmp_r _ _ | exact zr_max (by unfold zr; omega) (by unfold zr; omega) | exact zr_min (by unfold zr; omega) (by unfold zr; omega) | exact zr_max (by unfold zr; omega) (zr_max (by unfold zr; omega) (by unfold zr; omega)) | exact zr_min (by unfold zr; omega) (zr_min (by unfold zr; omega) (by unfold zr; omega)) | (unfold zr at *; omega)) (by first | exact hz _ _ | assumption | exact zr_b _ | exact zcmp_r _ _ | exact zr_max (by unfold zr; omega) (by unfold zr; omega) | exact zr_min (by unfold zr; omega) (by unfold zr; omega) | exact zr_max (by unfold zr; omega) (zr_max (by unfold zr; omega) (by unfold zr; omega)) | exact zr_min (by unfold zr; omega) (zr_min (by unfold zr; omega) (by unfold zr; omega)) | (unfold zr at *; omega)) mw_RX10_186 (Nat.le_of_ble_eq_true rfl) ⟨Nat.le_of_ble_eq_true rfl, Nat.le_of_ble_eq_true rfl⟩ dX10_isBoth_42 ?_
  refine zx_min (by first | exact hz _ _ | assumption | exact zr_b _ | exact zcmp_r _ _ | exact zr_max (by unfold zr; omega) (by unfold zr; omega) | exact zr_min (by unfold zr; omega) (by unfold zr; omega) | exact zr_max (by unfold zr; omega) (zr_max (by unfold zr; omega) (by unfold zr; omega)) | exact zr_min (by unfold zr; omega) (zr_min (by unfold zr; omega) (by unfold zr; omega)) | (unfold zr at *; omega)) (by first | exact hz _ _ | assumption | exact zr_b _ | exact zcmp_r _ _ | exact zr_max (by unfold zr; omega) (by unfold zr; omega) | exact zr_min (by unfold zr; omega) (by unfold zr; omega) | exact zr_max (by unfold zr; omega) (zr_max (by unfold zr; omega) (by unfold zr; omega)) | exact zr_min (by unfold zr; omega) (zr_min (by unfold zr; omega) (by unfold zr; omega)) | (unfold zr at *; omega)) mw_RX10_186 (Nat.le_of_ble_eq_true rfl) ⟨Nat.le_of_ble_eq_true rfl, Nat.le_of_ble_eq_true rfl⟩ dX10_isBoth_45 ?_
  refine zy_istore [zf 10 261, zi ((c : Nat) : Int), zi ((d : Nat) : Int), zi ((p : Nat) : Int), zi (max (D 4 p) (max (eYr D c) (eYr D d))), zi (min (D 5 p) (min (lYr D c) (lYr D d)))] dX10_isBoth_48 (Nat.le_of_ble_eq_true rfl) (Nat.le_of_ble_eq_true rfl) rfl rfl ?_
  refine zx_aloadN dX10_isBoth_50 rfl rfl ?_
  refine zx_iloadN dX10_isBoth_51 rfl rfl ?_
  refine zx_iloadN dX10_isBoth_52 rfl rfl ?_
  refine zy_cv [zi ((c : Nat) : Int), zi ((p : Nat) : Int)] (sX10_suits (D := D) (c := c) (p := p) hfl hz (by first | assumption | omega) (by first | assumption | (refine Rel_put (by decide) ?_; assumption) | (refine Rel_put (by decide) (Rel_put (by decide) ?_); assumption) | (refine Rel_put (by decide) (Rel_put (by decide) (Rel_put (by decide) ?_)); assumption)) (by first | assumption | omega) (by first | assumption | omega)) dX10_isBoth_53 (by decide) rfl cw_RX10_111 okX10_suits rfl (Nat.le_of_ble_eq_true rfl) ⟨Nat.le_of_ble_eq_true rfl, Nat.le_of_ble_eq_true rfl, Nat.le_of_ble_eq_true rfl, Nat.le_of_ble_eq_true rfl⟩ ?_
  refine zx_if_eq (tgt := 79) (by first | exact hz _ _ | assumption | exact zr_b _ | exact zcmp_r _ _ | exact zr_max (by unfold zr; omega) (by unfold zr; omega) | exact zr_min (by unfold zr; omega) (by unfold zr; omega) | exact zr_max (by unfold zr; omega) (zr_max (by unfold zr; omega) (by unfold zr; omega)) | exact zr_min (by unfold zr; omega) (zr_min (by unfold zr; omega) (by unfold zr; omega)) | (unfold zr at *; omega)) dX10_isBoth_56 (by decide) (fun h56 => ?_) (fun h56 => ?_)
  · have h56 := zb_0.mp h56
    refine zx_iconst dX10_isBoth_79 ?_
    refine zx_iret rfl rfl dX10_isBoth_80 ?_
    rw [hQ]
    refine ⟨congrArg (fun z : Int => (Sum.inl (some (zi z)) : Option zV ⊕ String)) ?_, by first | rfl | (exfalso; omega)⟩
    unfold both
    first | exact (zb_t ⟨h56, h65, by omega⟩).symm | exact (zb_f (fun q => h56 q.1)).symm | exact (zb_f (fun q => h65 q.2.1)).symm | exact (zb_f (fun q => by have := q.2.2; omega)).symm
  · have h56 := zb_n.mp h56
    refine zx_aloadN dX10_isBoth_59 rfl rfl ?_
    refine zx_iloadN dX10_isBoth_60 rfl rfl ?_
    refine zx_iloadN dX10_isBoth_61 rfl rfl ?_
    refine zy_cv [zi ((d : Nat) : Int), zi ((p : Nat) : Int)] (sX10_suits (D := D) (c := d) (p := p) hfl hz (by first | assumption | omega) (by first | assumption | (refine Rel_put (by decide) ?_; assumption) | (refine Rel_put (by decide) (Rel_put (by decide) ?_); assumption) | (refine Rel_put (by decide) (Rel_put (by decide) (Rel_put (by decide) ?_)); assumption)) (by first | assumption | omega) (by first | assumption | omega)) dX10_isBoth_62 (by decide) rfl cw_RX10_111 okX10_suits rfl (Nat.le_of_ble_eq_true rfl) ⟨Nat.le_of_ble_eq_true rfl, Nat.le_of_ble_eq_true rfl, Nat.le_of_ble_eq_true rfl, Nat.le_of_ble_eq_true rfl⟩ ?_
    refine zx_if_eq (tgt := 79) (by first | exact hz _ _ | assumption | exact zr_b _ | exact zcmp_r _ _ | exact zr_max (by unfold zr; omega) (by unfold zr; omega) | exact zr_min (by unfold zr; omega) (by unfold zr; omega) | exact zr_max (by unfold zr; omega) (zr_max (by unfold zr; omega) (by unfold zr; omega)) | exact zr_min (by unfold zr; omega) (zr_min (by unfold zr; omega) (by unfold zr; omega)) | (unfold zr at *; omega)) dX10_isBoth_65 (by decide) (fun h65 => ?_) (fun h65 => ?_)
    · have h65 := zb_0.mp h65
      refine zx_iconst dX10_isBoth_79 ?_
      refine zx_iret rfl rfl dX10_isBoth_80 ?_
      rw [hQ]
      refine ⟨congrArg (fun z : Int => (Sum.inl (some (zi z)) : Option zV ⊕ String)) ?_, by first | rfl | (exfalso; omega)⟩
      unfold both
      first | exact (zb_t ⟨h56, h65, by omega⟩).symm | exact (zb_f (fun q => h56 q.1)).symm | exact (zb_f (fun q => h65 q.2.1)).symm | exact (zb_f (fun q => by have := q.2.2; omega)).symm
    · have h65 := zb_n.mp h65
      refine zx_iload dX10_isBoth_68 rfl ?_
      refine zx_iload dX10_isBoth_70 rfl ?_
      refine zx_icmp_gt (tgt := 79) (by first | exact hz _ _ | assumption | exact zr_b _ | exact zcmp_r _ _ | exact zr_max (by unfold zr; omega) (by unfold zr; omega) | exact zr_min (by unfold zr; omega) (by unfold zr; omega) | exact zr_max (by unfold zr; omega) (zr_max (by unfold zr; omega) (by unfold zr; omega)) | exact zr_min (by unfold zr; omega) (zr_min (by unfold zr; omega) (by unfold zr; omega)) | (unfold zr at *; omega)) (by first | exact hz _ _ | assumption | exact zr_b _ | exact zcmp_r _ _ | exact zr_max (by unfold zr; omega) (by unfold zr; omega) | exact zr_min (by unfold zr; omega) (by unfold zr; omega) | exact zr_max (by unfold zr; omega) (zr_max (by unfold zr; omega) (by unfold zr; omega)) | exact zr_min (by unfold zr; omega) (zr_min (by unfold zr; omega) (by unfold zr; omega)) | (unfold zr at *; omega)) dX10_isBoth_72 (by decide) (fun h72 => ?_) (fun h72 => ?_)
      · refine zx_iconst dX10_isBoth_79 ?_
        refine zx_iret rfl rfl dX10_isBoth_80 ?_
        rw [hQ]
        refine ⟨congrArg (fun z : Int => (Sum.inl (some (zi z)) : Option zV ⊕ String)) ?_, by first | rfl | (exfalso; omega)⟩
        unfold both
        first | exact (zb_t ⟨h56, h65, by omega⟩).symm | exact (zb_f (fun q => h56 q.1)).symm | exact (zb_f (fun q => h65 q.2.1)).symm | exact (zb_f (fun q => by have := q.2.2; omega)).symm
      · refine zx_iconst dX10_isBoth_75 ?_
        refine zx_goto (tgt := 80) dX10_isBoth_76 (by decide) ?_
        refine zx_iret rfl rfl dX10_isBoth_80 ?_
        rw [hQ]
        refine ⟨congrArg (fun z : Int => (Sum.inl (some (zi z)) : Option zV ⊕ String)) ?_, by first | rfl | (exfalso; omega)⟩
        unfold both
        first | exact (zb_t ⟨h56, h65, by omega⟩).symm | exact (zb_f (fun q => h56 q.1)).symm | exact (zb_f (fun q => h65 q.2.1)).symm | exact (zb_f (fun q => by have := q.2.2; omega)).symm
set_option maxRecDepth 20000 in
set_option maxHeartbeats 2000000 in
theorem sX10_areTogether {l : Launch} {w : zW} (hfl : l.stackTraces = false) {σ : zS} {D : zBk} {c d : Nat} (hz : zOK σ) (hW : WF D) (hR : Rel D (σ.1 262)) (hc : (c : Int) < D 12 0) (hd : (d : Int) < D 12 0) : Sp l w mX10_areTogether 5 0 [zf 10 261, zi ((c : Nat) : Int), zi ((d : Nat) : Int)] σ (zret (zi (zb (tog D c d))) σ) := by
  obtain ⟨Q, hQ⟩ : ∃ Q : zQ, Q = (zret (zi (zb (tog D c d))) σ) := ⟨_, rfl⟩
  rw [← hQ]
  refine zx_enter hfl (by decide) rfl 1 rfl ?_
  show zX l w mX10_areTogether (zMQ w 5 0 Q) 0 [zf 10 261, zi ((c : Nat) : Int), zi ((d : Nat) : Int), zu] [] 0 σ
  have hP : 0 ≤ D 1 0 ∧ D 1 0 ≤ 8 := hW.1.1
  have hM : 0 ≤ D 1 7 ∧ D 1 7 ≤ 8 := hW.1.2.1
  have hE : 0 ≤ D 1 10 ∧ D 1 10 ≤ 12 := hW.1.2.2.1
  have hK : 0 ≤ D 12 0 ∧ D 12 0 ≤ 40 := hW.1.2.2.2
  have r0 : σ.1 262 0 = D 1 0 := hR.1.1
  have r1 : σ.1 262 1 = D 1 7 := hR.1.2.1
  have r2 : σ.1 262 2 = D 1 10 := hR.1.2.2.1
  have r3 : σ.1 262 3 = D 12 0 := hR.1.2.2.2
  refine zx_iconst dX10_areTogether_0 ?_
  refine zy_istoreN [zf 10 261, zi ((c : Nat) : Int), zi ((d : Nat) : Int), zi 0] dX10_areTogether_1 rfl (Nat.le_of_ble_eq_true rfl) (Nat.le_of_ble_eq_true rfl) rfl rfl ?_
  have L2 : ∀ (N : Nat) (p : Nat), ((p : Int) ≤ D 1 0) → (∀ q, q < p → ¬ both D c d q) → (9 - p) < N → zX l w mX10_areTogether (zMQ w 5 0 Q) 2 [zf 10 261, zi ((c : Nat) : Int), zi ((d : Nat) : Int), zi ((p : Nat) : Int)] [] 0 σ := by
    intro N
    induction N with
    | zero => intro p _ _ _; exact absurd (by assumption) (Nat.not_lt_zero _)
    | succ N ih2 =>
      intro p hp_ hj hN
      refine zx_iloadN dX10_areTogether_2 rfl rfl ?_
      refine zx_aloadN dX10_areTogether_3 rfl rfl ?_
      refine zy_getR (q' := 262) fl_RX10_7 rfl dX10_areTogether_4 rfl ?_
      refine zx_iconst dX10_areTogether_7 ?_
      refine zy_iald (v := σ.1 262 0) rfl (by decide) (by decide) dX10_areTogether_8 (by omega) (by omega) rfl ?_
      refine zx_icmp_ge (tgt := 30) (by first | exact hz _ _ | assumption | exact zr_b _ | exact zcmp_r _ _ | (unfold zr at *; omega)) (by first | exact hz _ _ | assumption | exact zr_b _ | exact zcmp_r _ _ | (unfold zr at *; omega)) dX10_areTogether_9 (by decide) (fun h9 => ?_) (fun h9 => ?_)
      · refine zx_iconst dX10_areTogether_30 ?_
        refine zx_iret rfl rfl dX10_areTogether_31 ?_
        rw [hQ]
        refine ⟨congrArg (fun z : Int => (Sum.inl (some (zi z)) : Option zV ⊕ String)) ?_, by first | rfl | (exfalso; omega)⟩
        first | exact (zb_t ⟨p, by omega, by assumption⟩).symm | exact (zb_f (fun ⟨p2, q1, q2⟩ => hj p2 (by omega) q2)).symm
      · refine zx_aloadN dX10_areTogether_12 rfl rfl ?_
        refine zx_iloadN dX10_areTogether_13 rfl rfl ?_
        refine zx_iloadN dX10_areTogether_14 rfl rfl ?_
        refine zx_iloadN dX10_areTogether_15 rfl rfl ?_
        refine zy_cv [zi ((c : Nat) : Int), zi ((d : Nat) : Int), zi ((p : Nat) : Int)] (sX10_isBoth (D := D) (c := c) (d := d) (p := p) hfl hz (by first | assumption | omega) (by first | assumption | (refine Rel_put (by decide) ?_; assumption) | (refine Rel_put (by decide) (Rel_put (by decide) ?_); assumption) | (refine Rel_put (by decide) (Rel_put (by decide) (Rel_put (by decide) ?_)); assumption)) (by first | assumption | omega) (by first | assumption | omega) (by first | assumption | omega)) dX10_areTogether_16 (by decide) rfl cw_RX10_189 okX10_isBoth rfl (Nat.le_of_ble_eq_true rfl) ⟨Nat.le_of_ble_eq_true rfl, Nat.le_of_ble_eq_true rfl, Nat.le_of_ble_eq_true rfl, Nat.le_of_ble_eq_true rfl⟩ ?_
        refine zx_if_eq (tgt := 24) (by first | exact hz _ _ | assumption | exact zr_b _ | exact zcmp_r _ _ | (unfold zr at *; omega)) dX10_areTogether_19 (by decide) (fun h19 => ?_) (fun h19 => ?_)
        · have h19 := zb_0.mp h19
          refine zy_iinc (b := ((p + 1 : Nat) : Int)) [zf 10 261, zi ((c : Nat) : Int), zi ((d : Nat) : Int), zi ((p + 1 : Nat) : Int)] dX10_areTogether_24 rfl (by omega) (Nat.le_of_ble_eq_true rfl) rfl rfl ?_
          refine zx_goto (tgt := 2) dX10_areTogether_27 (by decide) ?_
          exact ih2 (p + 1) (by first | assumption | omega) (lt_s hj (by first | assumption | omega)) (by omega)
        · have h19 := zb_n.mp h19
          refine zx_iconst dX10_areTogether_22 ?_
          refine zx_iret rfl rfl dX10_areTogether_23 ?_
          rw [hQ]
          refine ⟨congrArg (fun z : Int => (Sum.inl (some (zi z)) : Option zV ⊕ String)) ?_, by first | rfl | (exfalso; omega)⟩
          first | exact (zb_t ⟨p, by omega, by assumption⟩).symm | exact (zb_f (fun ⟨p2, q1, q2⟩ => hj p2 (by omega) q2)).symm
  exact L2 _ 0 (by first | assumption | omega) lt_0 (Nat.lt_succ_self _)
set_option maxRecDepth 20000 in
set_option maxHeartbeats 2000000 in
theorem sX10_areAgainst {l : Launch} {w : zW} (hfl : l.stackTraces = false) {σ : zS} {D : zBk} {c d : Nat} (hz : zOK σ) (hW : WF D) (hR : Rel D (σ.1 262)) (hc : (c : Int) < D 12 0) (hd : (d : Int) < D 12 0) : Sp l w mX10_areAgainst 6 0 [zf 10 261, zi ((c : Nat) : Int), zi ((d : Nat) : Int)] σ (zret (zi (zb (¬ c = d ∧ ¬ tog D c d))) σ) := by
  obtain ⟨Q, hQ⟩ : ∃ Q : zQ, Q = (zret (zi (zb (¬ c = d ∧ ¬ tog D c d))) σ) := ⟨_, rfl⟩
  rw [← hQ]
  refine zx_enter hfl (by decide) rfl 0 rfl ?_
  show zX l w mX10_areAgainst (zMQ w 6 0 Q) 0 [zf 10 261, zi ((c : Nat) : Int), zi ((d : Nat) : Int)] [] 0 σ
  have hP : 0 ≤ D 1 0 ∧ D 1 0 ≤ 8 := hW.1.1
  have hM : 0 ≤ D 1 7 ∧ D 1 7 ≤ 8 := hW.1.2.1
  have hE : 0 ≤ D 1 10 ∧ D 1 10 ≤ 12 := hW.1.2.2.1
  have hK : 0 ≤ D 12 0 ∧ D 12 0 ≤ 40 := hW.1.2.2.2
  have r0 : σ.1 262 0 = D 1 0 := hR.1.1
  have r1 : σ.1 262 1 = D 1 7 := hR.1.2.1
  have r2 : σ.1 262 2 = D 1 10 := hR.1.2.2.1
  have r3 : σ.1 262 3 = D 12 0 := hR.1.2.2.2
  refine zx_iloadN dX10_areAgainst_0 rfl rfl ?_
  refine zx_iloadN dX10_areAgainst_1 rfl rfl ?_
  refine zx_icmp_eq (tgt := 18) (by first | exact hz _ _ | assumption | exact zr_b _ | exact zcmp_r _ _ | (unfold zr at *; omega)) (by first | exact hz _ _ | assumption | exact zr_b _ | exact zcmp_r _ _ | (unfold zr at *; omega)) dX10_areAgainst_2 (by decide) (fun h2 => ?_) (fun h2 => ?_)
  · refine zx_iconst dX10_areAgainst_18 ?_
    refine zx_iret rfl rfl dX10_areAgainst_19 ?_
    rw [hQ]
    refine ⟨congrArg (fun z : Int => (Sum.inl (some (zi z)) : Option zV ⊕ String)) ?_, by first | rfl | (exfalso; omega)⟩
    first | exact (zb_f (fun q => q.1 (by omega))).symm | exact (zb_t ⟨by omega, by assumption⟩).symm | exact (zb_f (fun q => q.2 (by assumption))).symm
  · refine zx_aloadN dX10_areAgainst_5 rfl rfl ?_
    refine zx_iloadN dX10_areAgainst_6 rfl rfl ?_
    refine zx_iloadN dX10_areAgainst_7 rfl rfl ?_
    refine zy_cv [zi ((c : Nat) : Int), zi ((d : Nat) : Int)] (sX10_areTogether (D := D) (c := c) (d := d) hfl hz (by first | assumption | omega) (by first | assumption | (refine Rel_put (by decide) ?_; assumption) | (refine Rel_put (by decide) (Rel_put (by decide) ?_); assumption) | (refine Rel_put (by decide) (Rel_put (by decide) (Rel_put (by decide) ?_)); assumption)) (by first | assumption | omega) (by first | assumption | omega)) dX10_areAgainst_8 (by decide) rfl cw_RX10_192 okX10_areTogether rfl (Nat.le_of_ble_eq_true rfl) ⟨Nat.le_of_ble_eq_true rfl, Nat.le_of_ble_eq_true rfl, Nat.le_of_ble_eq_true rfl, Nat.le_of_ble_eq_true rfl⟩ ?_
    refine zx_if_ne (tgt := 18) (by first | exact hz _ _ | assumption | exact zr_b _ | exact zcmp_r _ _ | (unfold zr at *; omega)) dX10_areAgainst_11 (by decide) (fun h11 => ?_) (fun h11 => ?_)
    · have h11 := zb_n.mp h11
      refine zx_iconst dX10_areAgainst_18 ?_
      refine zx_iret rfl rfl dX10_areAgainst_19 ?_
      rw [hQ]
      refine ⟨congrArg (fun z : Int => (Sum.inl (some (zi z)) : Option zV ⊕ String)) ?_, by first | rfl | (exfalso; omega)⟩
      first | exact (zb_f (fun q => q.1 (by omega))).symm | exact (zb_t ⟨by omega, by assumption⟩).symm | exact (zb_f (fun q => q.2 (by assumption))).symm
    · have h11 := zb_0.mp h11
      refine zx_iconst dX10_areAgainst_14 ?_
      refine zx_goto (tgt := 19) dX10_areAgainst_15 (by decide) ?_
      refine zx_iret rfl rfl dX10_areAgainst_19 ?_
      rw [hQ]
      refine ⟨congrArg (fun z : Int => (Sum.inl (some (zi z)) : Option zV ⊕ String)) ?_, by first | rfl | (exfalso; omega)⟩
      first | exact (zb_f (fun q => q.1 (by omega))).symm | exact (zb_t ⟨by omega, by assumption⟩).symm | exact (zb_f (fun q => q.2 (by assumption))).symm

