abbrev mX7_rowOf : zM := (yX7_rowOf, cX7_rowOf, 1, (some .int), [])
theorem okX7_rowOf : zMok mX7_rowOf 1 := ⟨by decide, by decide, by decide +kernel⟩
theorem dX7_rowOf_0 : decode cX7_rowOf 0 = .ok (.iconst 0, 1) := by decide +kernel
theorem dX7_rowOf_1 : decode cX7_rowOf 1 = .ok (.iload_n 0, 1) := by decide +kernel
theorem dX7_rowOf_2 : decode cX7_rowOf 2 = .ok (.sipush 1450, 3) := by decide +kernel
theorem dX7_rowOf_5 : decode cX7_rowOf 5 = .ok (.isub, 1) := by decide +kernel
theorem dX7_rowOf_6 : decode cX7_rowOf 6 = .ok (.sipush 550, 3) := by decide +kernel
theorem dX7_rowOf_9 : decode cX7_rowOf 9 = .ok (.invokestatic 108, 3) := by decide +kernel
theorem mw_RX7_108 : ∀ x ∈ ([.methodLink RX7 108 Lib.Math.min.name, .static Lib.Math.min.name, .initialized "java/lang/Math", .code Lib.Math.min.name Lib.Math.min.code 2 (some .int)] : List Cond), x ∈ zgood := zall [872, 782, 19, 783] (by decide +kernel) (by decide +kernel)
theorem dX7_rowOf_12 : decode cX7_rowOf 12 = .ok (.invokestatic 114, 3) := by decide +kernel
theorem mw_RX7_114 : ∀ x ∈ ([.methodLink RX7 114 Lib.Math.max.name, .static Lib.Math.max.name, .initialized "java/lang/Math", .code Lib.Math.max.name Lib.Math.max.code 2 (some .int)] : List Cond), x ∈ zgood := zall [873, 874, 19, 875] (by decide +kernel) (by decide +kernel)
theorem dX7_rowOf_15 : decode cX7_rowOf 15 = .ok (.ireturn, 1) := by decide +kernel
abbrev mX7_heed : zM := (yX7_heed, cX7_heed, 9, none, [])
theorem okX7_heed : zMok mX7_heed 3 := ⟨by decide, by decide, by decide +kernel⟩
theorem dX7_heed_0 : decode cX7_heed 0 = .ok (.iload_n 2, 1) := by decide +kernel
theorem dX7_heed_1 : decode cX7_heed 1 = .ok (.istore 4, 2) := by decide +kernel
theorem dX7_heed_3 : decode cX7_heed 3 = .ok (.iconst 0, 1) := by decide +kernel
theorem dX7_heed_4 : decode cX7_heed 4 = .ok (.istore 5, 2) := by decide +kernel
theorem dX7_heed_6 : decode cX7_heed 6 = .ok (.iload 5, 2) := by decide +kernel
theorem dX7_heed_8 : decode cX7_heed 8 = .ok (.aload_n 1, 1) := by decide +kernel
theorem dX7_heed_9 : decode cX7_heed 9 = .ok (.getfield 68, 3) := by decide +kernel
theorem fl_RX7_68 : zFl RX7 68 2 0 := ⟨RX2, TX2, 8, rfl, by decide, zmem1 164 (by decide +kernel) rfl, rfl⟩
theorem dX7_heed_12 : decode cX7_heed 12 = .ok (.if_icmp .ge 92, 3) := by decide +kernel
theorem dX7_heed_104 : decode cX7_heed 104 = .ok (.return_, 1) := by decide +kernel
theorem dX7_heed_15 : decode cX7_heed 15 = .ok (.aload_n 1, 1) := by decide +kernel
theorem dX7_heed_16 : decode cX7_heed 16 = .ok (.iload 5, 2) := by decide +kernel
theorem dX7_heed_18 : decode cX7_heed 18 = .ok (.invokevirtual 73, 3) := by decide +kernel
theorem cw_RX7_73 : zCwV RX7 73 mX2_clueAt := zall [842, 508, 509, 36, 510] (by decide +kernel) (by decide +kernel)
theorem dX7_heed_21 : decode cX7_heed 21 = .ok (.istore 6, 2) := by decide +kernel
theorem dX7_heed_23 : decode cX7_heed 23 = .ok (.aload_n 1, 1) := by decide +kernel
theorem dX7_heed_24 : decode cX7_heed 24 = .ok (.iload 6, 2) := by decide +kernel
theorem dX7_heed_26 : decode cX7_heed 26 = .ok (.invokevirtual 77, 3) := by decide +kernel
theorem cw_RX7_77 : zCwV RX7 77 mX2_has := zall [843, 512, 513, 36, 514] (by decide +kernel) (by decide +kernel)
theorem dX7_heed_29 : decode cX7_heed 29 = .ok (.ifCond .eq 69, 3) := by decide +kernel
theorem dX7_heed_98 : decode cX7_heed 98 = .ok (.iinc 5 1, 3) := by decide +kernel
theorem dX7_heed_101 : decode cX7_heed 101 = .ok (.goto (-95), 3) := by decide +kernel
theorem dX7_heed_32 : decode cX7_heed 32 = .ok (.aload_n 1, 1) := by decide +kernel
theorem dX7_heed_33 : decode cX7_heed 33 = .ok (.iload 6, 2) := by decide +kernel
theorem dX7_heed_35 : decode cX7_heed 35 = .ok (.invokevirtual 81, 3) := by decide +kernel
theorem cw_RX7_81 : zCwV RX7 81 mX2_isUnread := zall [844, 809, 810, 36, 811] (by decide +kernel) (by decide +kernel)
theorem dX7_heed_38 : decode cX7_heed 38 = .ok (.istore 7, 2) := by decide +kernel
theorem dX7_heed_40 : decode cX7_heed 40 = .ok (.iload 7, 2) := by decide +kernel
theorem dX7_heed_42 : decode cX7_heed 42 = .ok (.ifCond .eq 8, 3) := by decide +kernel
theorem dX7_heed_50 : decode cX7_heed 50 = .ok (.iconst 1, 1) := by decide +kernel
theorem dX7_heed_51 : decode cX7_heed 51 = .ok (.goto 4, 3) := by decide +kernel
theorem dX7_heed_55 : decode cX7_heed 55 = .ok (.istore 8, 2) := by decide +kernel
theorem dX7_heed_57 : decode cX7_heed 57 = .ok (.aload_n 0, 1) := by decide +kernel
theorem dX7_heed_58 : decode cX7_heed 58 = .ok (.getfield 9, 3) := by decide +kernel
theorem fl_RX7_9 : zFl RX7 9 7 0 := ⟨RX7, TX7, 7, rfl, by decide, zmem1 274 (by decide +kernel) rfl, rfl⟩
theorem dX7_heed_61 : decode cX7_heed 61 = .ok (.iload 6, 2) := by decide +kernel
theorem dX7_heed_63 : decode cX7_heed 63 = .ok (.iload 8, 2) := by decide +kernel
theorem dX7_heed_65 : decode cX7_heed 65 = .ok (.ifCond .eq 23, 3) := by decide +kernel
theorem dX7_heed_68 : decode cX7_heed 68 = .ok (.aload_n 1, 1) := by decide +kernel
theorem dX7_heed_69 : decode cX7_heed 69 = .ok (.getfield 84, 3) := by decide +kernel
theorem fl_RX7_84 : zFl RX7 84 2 6 := ⟨RX2, TX2, 8, rfl, by decide, zmem1 181 (by decide +kernel) rfl, rfl⟩
theorem dX7_heed_72 : decode cX7_heed 72 = .ok (.iload 6, 2) := by decide +kernel
theorem dX7_heed_74 : decode cX7_heed 74 = .ok (.baload, 1) := by decide +kernel
theorem dX7_heed_75 : decode cX7_heed 75 = .ok (.ifCond .ne 13, 3) := by decide +kernel
theorem dX7_heed_88 : decode cX7_heed 88 = .ok (.iconst 0, 1) := by decide +kernel
theorem dX7_heed_89 : decode cX7_heed 89 = .ok (.bastore, 1) := by decide +kernel
theorem dX7_heed_90 : decode cX7_heed 90 = .ok (.iload 7, 2) := by decide +kernel
theorem dX7_heed_92 : decode cX7_heed 92 = .ok (.ifCond .eq 6, 3) := by decide +kernel
theorem dX7_heed_95 : decode cX7_heed 95 = .ok (.iinc 4 (-1), 3) := by decide +kernel
theorem dX7_heed_78 : decode cX7_heed 78 = .ok (.iload 6, 2) := by decide +kernel
theorem dX7_heed_80 : decode cX7_heed 80 = .ok (.iload_n 3, 1) := by decide +kernel
theorem dX7_heed_81 : decode cX7_heed 81 = .ok (.if_icmp .eq 7, 3) := by decide +kernel
theorem dX7_heed_84 : decode cX7_heed 84 = .ok (.iconst 1, 1) := by decide +kernel
theorem dX7_heed_85 : decode cX7_heed 85 = .ok (.goto 4, 3) := by decide +kernel
theorem dX7_heed_45 : decode cX7_heed 45 = .ok (.iload 4, 2) := by decide +kernel
theorem dX7_heed_47 : decode cX7_heed 47 = .ok (.ifCond .le 7, 3) := by decide +kernel
theorem dX7_heed_54 : decode cX7_heed 54 = .ok (.iconst 0, 1) := by decide +kernel
abbrev mX7_sumYears : zM := (yX7_sumYears, cX7_sumYears, 3, none, [])
theorem okX7_sumYears : zMok mX7_sumYears 1 := ⟨by decide, by decide, by decide +kernel⟩
theorem dX7_sumYears_0 : decode cX7_sumYears 0 = .ok (.aload_n 0, 1) := by decide +kernel
theorem dX7_sumYears_1 : decode cX7_sumYears 1 = .ok (.getfield 15, 3) := by decide +kernel
theorem fl_RX7_15 : zFl RX7 15 7 1 := ⟨RX7, TX7, 7, rfl, by decide, zmem1 275 (by decide +kernel) rfl, rfl⟩
theorem dX7_sumYears_4 : decode cX7_sumYears 4 = .ok (.iconst 0, 1) := by decide +kernel
theorem dX7_sumYears_5 : decode cX7_sumYears 5 = .ok (.invokestatic 87, 3) := by decide +kernel
theorem cw_RX7_87 : zCwS RX7 87 mJ7_fill_53178 := zall [849, 850, 25, 851] (by decide +kernel) (by decide +kernel)
theorem dX7_sumYears_8 : decode cX7_sumYears 8 = .ok (.iconst 0, 1) := by decide +kernel
theorem dX7_sumYears_9 : decode cX7_sumYears 9 = .ok (.istore_n 2, 1) := by decide +kernel
theorem dX7_sumYears_10 : decode cX7_sumYears 10 = .ok (.iload_n 2, 1) := by decide +kernel
theorem dX7_sumYears_11 : decode cX7_sumYears 11 = .ok (.aload_n 1, 1) := by decide +kernel
theorem dX7_sumYears_12 : decode cX7_sumYears 12 = .ok (.getfield 35, 3) := by decide +kernel
theorem fl_RX7_35 : zFl RX7 35 1 1 := ⟨RX1, TX1, 2, rfl, by decide, zmem1 208 (by decide +kernel) rfl, rfl⟩
theorem dX7_sumYears_15 : decode cX7_sumYears 15 = .ok (.getfield 68, 3) := by decide +kernel
theorem dX7_sumYears_18 : decode cX7_sumYears 18 = .ok (.if_icmp .ge 78, 3) := by decide +kernel
theorem dX7_sumYears_96 : decode cX7_sumYears 96 = .ok (.iconst 1, 1) := by decide +kernel
theorem dX7_sumYears_97 : decode cX7_sumYears 97 = .ok (.istore_n 2, 1) := by decide +kernel
theorem dX7_sumYears_98 : decode cX7_sumYears 98 = .ok (.iload_n 2, 1) := by decide +kernel
theorem dX7_sumYears_99 : decode cX7_sumYears 99 = .ok (.aload_n 0, 1) := by decide +kernel
theorem dX7_sumYears_100 : decode cX7_sumYears 100 = .ok (.getfield 15, 3) := by decide +kernel
theorem dX7_sumYears_103 : decode cX7_sumYears 103 = .ok (.arraylength, 1) := by decide +kernel
theorem dX7_sumYears_104 : decode cX7_sumYears 104 = .ok (.if_icmp .ge 26, 3) := by decide +kernel
theorem dX7_sumYears_130 : decode cX7_sumYears 130 = .ok (.return_, 1) := by decide +kernel
theorem dX7_sumYears_107 : decode cX7_sumYears 107 = .ok (.aload_n 0, 1) := by decide +kernel
theorem dX7_sumYears_108 : decode cX7_sumYears 108 = .ok (.getfield 15, 3) := by decide +kernel
theorem dX7_sumYears_111 : decode cX7_sumYears 111 = .ok (.iload_n 2, 1) := by decide +kernel
theorem dX7_sumYears_112 : decode cX7_sumYears 112 = .ok (.dup2, 1) := by decide +kernel
theorem dX7_sumYears_113 : decode cX7_sumYears 113 = .ok (.iaload, 1) := by decide +kernel
theorem dX7_sumYears_114 : decode cX7_sumYears 114 = .ok (.aload_n 0, 1) := by decide +kernel
theorem dX7_sumYears_115 : decode cX7_sumYears 115 = .ok (.getfield 15, 3) := by decide +kernel
theorem dX7_sumYears_118 : decode cX7_sumYears 118 = .ok (.iload_n 2, 1) := by decide +kernel
theorem dX7_sumYears_119 : decode cX7_sumYears 119 = .ok (.iconst 1, 1) := by decide +kernel
theorem dX7_sumYears_120 : decode cX7_sumYears 120 = .ok (.isub, 1) := by decide +kernel
theorem dX7_sumYears_121 : decode cX7_sumYears 121 = .ok (.iaload, 1) := by decide +kernel
theorem dX7_sumYears_122 : decode cX7_sumYears 122 = .ok (.iadd, 1) := by decide +kernel
theorem dX7_sumYears_123 : decode cX7_sumYears 123 = .ok (.iastore, 1) := by decide +kernel
theorem dX7_sumYears_124 : decode cX7_sumYears 124 = .ok (.iinc 2 1, 3) := by decide +kernel
theorem dX7_sumYears_127 : decode cX7_sumYears 127 = .ok (.goto (-29), 3) := by decide +kernel
theorem dX7_sumYears_21 : decode cX7_sumYears 21 = .ok (.aload_n 0, 1) := by decide +kernel
theorem dX7_sumYears_22 : decode cX7_sumYears 22 = .ok (.getfield 9, 3) := by decide +kernel
theorem dX7_sumYears_25 : decode cX7_sumYears 25 = .ok (.iload_n 2, 1) := by decide +kernel
theorem dX7_sumYears_26 : decode cX7_sumYears 26 = .ok (.baload, 1) := by decide +kernel
theorem dX7_sumYears_27 : decode cX7_sumYears 27 = .ok (.ifCond .eq 63, 3) := by decide +kernel
theorem dX7_sumYears_90 : decode cX7_sumYears 90 = .ok (.iinc 2 1, 3) := by decide +kernel
theorem dX7_sumYears_93 : decode cX7_sumYears 93 = .ok (.goto (-83), 3) := by decide +kernel
theorem dX7_sumYears_30 : decode cX7_sumYears 30 = .ok (.aload_n 1, 1) := by decide +kernel
theorem dX7_sumYears_31 : decode cX7_sumYears 31 = .ok (.iload_n 2, 1) := by decide +kernel
theorem dX7_sumYears_32 : decode cX7_sumYears 32 = .ok (.invokevirtual 93, 3) := by decide +kernel
theorem cw_RX7_93 : zCwV RX7 93 mX1_dependsOnYear := zall [852, 853, 854, 34, 855] (by decide +kernel) (by decide +kernel)
theorem dX7_sumYears_35 : decode cX7_sumYears 35 = .ok (.ifCond .eq 55, 3) := by decide +kernel
theorem dX7_sumYears_38 : decode cX7_sumYears 38 = .ok (.aload_n 0, 1) := by decide +kernel
theorem dX7_sumYears_39 : decode cX7_sumYears 39 = .ok (.getfield 15, 3) := by decide +kernel
theorem dX7_sumYears_42 : decode cX7_sumYears 42 = .ok (.aload_n 1, 1) := by decide +kernel
theorem dX7_sumYears_43 : decode cX7_sumYears 43 = .ok (.iload_n 2, 1) := by decide +kernel
theorem dX7_sumYears_44 : decode cX7_sumYears 44 = .ok (.invokevirtual 96, 3) := by decide +kernel
theorem cw_RX7_96 : zCwV RX7 96 mX1_earliestYear := zall [856, 857, 858, 34, 859] (by decide +kernel) (by decide +kernel)
theorem dX7_sumYears_47 : decode cX7_sumYears 47 = .ok (.invokestatic 99, 3) := by decide +kernel
theorem cw_RX7_99 : zCwS RX7 99 mX7_rowOf := zall [869, 870, 39, 871] (by decide +kernel) (by decide +kernel)
theorem dX7_sumYears_50 : decode cX7_sumYears 50 = .ok (.dup2, 1) := by decide +kernel
theorem dX7_sumYears_51 : decode cX7_sumYears 51 = .ok (.iaload, 1) := by decide +kernel
theorem dX7_sumYears_52 : decode cX7_sumYears 52 = .ok (.aload_n 1, 1) := by decide +kernel
theorem dX7_sumYears_53 : decode cX7_sumYears 53 = .ok (.getfield 35, 3) := by decide +kernel
theorem dX7_sumYears_56 : decode cX7_sumYears 56 = .ok (.getfield 102, 3) := by decide +kernel
theorem fl_RX7_102 : zFl RX7 102 2 4 := ⟨RX2, TX2, 8, rfl, by decide, zmem1 175 (by decide +kernel) rfl, rfl⟩
theorem dX7_sumYears_59 : decode cX7_sumYears 59 = .ok (.iload_n 2, 1) := by decide +kernel
theorem dX7_sumYears_60 : decode cX7_sumYears 60 = .ok (.iaload, 1) := by decide +kernel
theorem dX7_sumYears_61 : decode cX7_sumYears 61 = .ok (.iadd, 1) := by decide +kernel
theorem dX7_sumYears_62 : decode cX7_sumYears 62 = .ok (.iastore, 1) := by decide +kernel
theorem dX7_sumYears_63 : decode cX7_sumYears 63 = .ok (.aload_n 0, 1) := by decide +kernel
theorem dX7_sumYears_64 : decode cX7_sumYears 64 = .ok (.getfield 15, 3) := by decide +kernel
theorem dX7_sumYears_67 : decode cX7_sumYears 67 = .ok (.aload_n 1, 1) := by decide +kernel
theorem dX7_sumYears_68 : decode cX7_sumYears 68 = .ok (.iload_n 2, 1) := by decide +kernel
theorem dX7_sumYears_69 : decode cX7_sumYears 69 = .ok (.invokevirtual 105, 3) := by decide +kernel
theorem cw_RX7_105 : zCwV RX7 105 mX1_latestYear := zall [876, 877, 878, 34, 879] (by decide +kernel) (by decide +kernel)
theorem dX7_sumYears_72 : decode cX7_sumYears 72 = .ok (.iconst 1, 1) := by decide +kernel
theorem dX7_sumYears_73 : decode cX7_sumYears 73 = .ok (.iadd, 1) := by decide +kernel
theorem dX7_sumYears_74 : decode cX7_sumYears 74 = .ok (.invokestatic 99, 3) := by decide +kernel
theorem dX7_sumYears_77 : decode cX7_sumYears 77 = .ok (.dup2, 1) := by decide +kernel
theorem dX7_sumYears_78 : decode cX7_sumYears 78 = .ok (.iaload, 1) := by decide +kernel
theorem dX7_sumYears_79 : decode cX7_sumYears 79 = .ok (.aload_n 1, 1) := by decide +kernel
theorem dX7_sumYears_80 : decode cX7_sumYears 80 = .ok (.getfield 35, 3) := by decide +kernel
theorem dX7_sumYears_83 : decode cX7_sumYears 83 = .ok (.getfield 102, 3) := by decide +kernel
theorem dX7_sumYears_86 : decode cX7_sumYears 86 = .ok (.iload_n 2, 1) := by decide +kernel
theorem dX7_sumYears_87 : decode cX7_sumYears 87 = .ok (.iaload, 1) := by decide +kernel
theorem dX7_sumYears_88 : decode cX7_sumYears 88 = .ok (.isub, 1) := by decide +kernel
theorem dX7_sumYears_89 : decode cX7_sumYears 89 = .ok (.iastore, 1) := by decide +kernel
abbrev mX7_findTopYear : zM := (yX7_findTopYear, cX7_findTopYear, 8, none, [])
theorem okX7_findTopYear : zMok mX7_findTopYear 2 := ⟨by decide, by decide, by decide +kernel⟩
theorem dX7_findTopYear_0 : decode cX7_findTopYear 0 = .ok (.aload_n 1, 1) := by decide +kernel
theorem dX7_findTopYear_1 : decode cX7_findTopYear 1 = .ok (.getfield 117, 3) := by decide +kernel
theorem fl_RX7_117 : zFl RX7 117 0 3 := ⟨RX0, TX0, 13, rfl, by decide, zmem1 113 (by decide +kernel) rfl, rfl⟩
theorem dX7_findTopYear_4 : decode cX7_findTopYear 4 = .ok (.iload_n 2, 1) := by decide +kernel
theorem dX7_findTopYear_5 : decode cX7_findTopYear 5 = .ok (.iaload, 1) := by decide +kernel
theorem dX7_findTopYear_6 : decode cX7_findTopYear 6 = .ok (.invokestatic 99, 3) := by decide +kernel
theorem dX7_findTopYear_9 : decode cX7_findTopYear 9 = .ok (.istore_n 3, 1) := by decide +kernel
theorem dX7_findTopYear_10 : decode cX7_findTopYear 10 = .ok (.aload_n 1, 1) := by decide +kernel
theorem dX7_findTopYear_11 : decode cX7_findTopYear 11 = .ok (.getfield 120, 3) := by decide +kernel
theorem fl_RX7_120 : zFl RX7 120 0 4 := ⟨RX0, TX0, 13, rfl, by decide, zmem1 116 (by decide +kernel) rfl, rfl⟩
theorem dX7_findTopYear_14 : decode cX7_findTopYear 14 = .ok (.iload_n 2, 1) := by decide +kernel
theorem dX7_findTopYear_15 : decode cX7_findTopYear 15 = .ok (.iaload, 1) := by decide +kernel
theorem dX7_findTopYear_16 : decode cX7_findTopYear 16 = .ok (.invokestatic 99, 3) := by decide +kernel
theorem dX7_findTopYear_19 : decode cX7_findTopYear 19 = .ok (.istore 4, 2) := by decide +kernel
theorem dX7_findTopYear_21 : decode cX7_findTopYear 21 = .ok (.iload_n 3, 1) := by decide +kernel
theorem dX7_findTopYear_22 : decode cX7_findTopYear 22 = .ok (.istore 5, 2) := by decide +kernel
theorem dX7_findTopYear_24 : decode cX7_findTopYear 24 = .ok (.iconst 0, 1) := by decide +kernel
theorem dX7_findTopYear_25 : decode cX7_findTopYear 25 = .ok (.istore 6, 2) := by decide +kernel
theorem dX7_findTopYear_27 : decode cX7_findTopYear 27 = .ok (.iload_n 3, 1) := by decide +kernel
theorem dX7_findTopYear_28 : decode cX7_findTopYear 28 = .ok (.istore 7, 2) := by decide +kernel
theorem dX7_findTopYear_30 : decode cX7_findTopYear 30 = .ok (.iload 7, 2) := by decide +kernel
theorem dX7_findTopYear_32 : decode cX7_findTopYear 32 = .ok (.iload 4, 2) := by decide +kernel
theorem dX7_findTopYear_34 : decode cX7_findTopYear 34 = .ok (.if_icmp .gt 53, 3) := by decide +kernel
theorem dX7_findTopYear_87 : decode cX7_findTopYear 87 = .ok (.aload_n 0, 1) := by decide +kernel
theorem dX7_findTopYear_88 : decode cX7_findTopYear 88 = .ok (.getfield 19, 3) := by decide +kernel
theorem fl_RX7_19 : zFl RX7 19 7 2 := ⟨RX7, TX7, 7, rfl, by decide, zmem1 276 (by decide +kernel) rfl, rfl⟩
theorem dX7_findTopYear_91 : decode cX7_findTopYear 91 = .ok (.iload_n 2, 1) := by decide +kernel
theorem dX7_findTopYear_92 : decode cX7_findTopYear 92 = .ok (.sipush 1450, 3) := by decide +kernel
theorem dX7_findTopYear_95 : decode cX7_findTopYear 95 = .ok (.iload 5, 2) := by decide +kernel
theorem dX7_findTopYear_97 : decode cX7_findTopYear 97 = .ok (.iadd, 1) := by decide +kernel
theorem dX7_findTopYear_98 : decode cX7_findTopYear 98 = .ok (.iastore, 1) := by decide +kernel
theorem dX7_findTopYear_99 : decode cX7_findTopYear 99 = .ok (.aload_n 0, 1) := by decide +kernel
theorem dX7_findTopYear_100 : decode cX7_findTopYear 100 = .ok (.getfield 22, 3) := by decide +kernel
theorem fl_RX7_22 : zFl RX7 22 7 3 := ⟨RX7, TX7, 7, rfl, by decide, zmem1 278 (by decide +kernel) rfl, rfl⟩
theorem dX7_findTopYear_103 : decode cX7_findTopYear 103 = .ok (.iload_n 2, 1) := by decide +kernel
theorem dX7_findTopYear_104 : decode cX7_findTopYear 104 = .ok (.aload_n 0, 1) := by decide +kernel
theorem dX7_findTopYear_105 : decode cX7_findTopYear 105 = .ok (.getfield 15, 3) := by decide +kernel
theorem dX7_findTopYear_108 : decode cX7_findTopYear 108 = .ok (.iload 5, 2) := by decide +kernel
theorem dX7_findTopYear_110 : decode cX7_findTopYear 110 = .ok (.iaload, 1) := by decide +kernel
theorem dX7_findTopYear_111 : decode cX7_findTopYear 111 = .ok (.iastore, 1) := by decide +kernel
theorem dX7_findTopYear_112 : decode cX7_findTopYear 112 = .ok (.aload_n 0, 1) := by decide +kernel
theorem dX7_findTopYear_113 : decode cX7_findTopYear 113 = .ok (.getfield 25, 3) := by decide +kernel
theorem fl_RX7_25 : zFl RX7 25 7 4 := ⟨RX7, TX7, 7, rfl, by decide, zmem1 280 (by decide +kernel) rfl, rfl⟩
theorem dX7_findTopYear_116 : decode cX7_findTopYear 116 = .ok (.iload_n 2, 1) := by decide +kernel
theorem dX7_findTopYear_117 : decode cX7_findTopYear 117 = .ok (.iload 6, 2) := by decide +kernel
theorem dX7_findTopYear_119 : decode cX7_findTopYear 119 = .ok (.iastore, 1) := by decide +kernel
theorem dX7_findTopYear_120 : decode cX7_findTopYear 120 = .ok (.return_, 1) := by decide +kernel
theorem dX7_findTopYear_37 : decode cX7_findTopYear 37 = .ok (.aload_n 0, 1) := by decide +kernel
theorem dX7_findTopYear_38 : decode cX7_findTopYear 38 = .ok (.getfield 15, 3) := by decide +kernel
theorem dX7_findTopYear_41 : decode cX7_findTopYear 41 = .ok (.iload 7, 2) := by decide +kernel
theorem dX7_findTopYear_43 : decode cX7_findTopYear 43 = .ok (.iaload, 1) := by decide +kernel
theorem dX7_findTopYear_44 : decode cX7_findTopYear 44 = .ok (.aload_n 0, 1) := by decide +kernel
theorem dX7_findTopYear_45 : decode cX7_findTopYear 45 = .ok (.getfield 15, 3) := by decide +kernel
theorem dX7_findTopYear_48 : decode cX7_findTopYear 48 = .ok (.iload 5, 2) := by decide +kernel
theorem dX7_findTopYear_50 : decode cX7_findTopYear 50 = .ok (.iaload, 1) := by decide +kernel
theorem dX7_findTopYear_51 : decode cX7_findTopYear 51 = .ok (.if_icmp .le 10, 3) := by decide +kernel
theorem dX7_findTopYear_61 : decode cX7_findTopYear 61 = .ok (.aload_n 0, 1) := by decide +kernel
theorem dX7_findTopYear_62 : decode cX7_findTopYear 62 = .ok (.getfield 15, 3) := by decide +kernel
theorem dX7_findTopYear_65 : decode cX7_findTopYear 65 = .ok (.iload 7, 2) := by decide +kernel
theorem dX7_findTopYear_67 : decode cX7_findTopYear 67 = .ok (.iaload, 1) := by decide +kernel
theorem dX7_findTopYear_68 : decode cX7_findTopYear 68 = .ok (.aload_n 0, 1) := by decide +kernel
theorem dX7_findTopYear_69 : decode cX7_findTopYear 69 = .ok (.getfield 15, 3) := by decide +kernel
theorem dX7_findTopYear_72 : decode cX7_findTopYear 72 = .ok (.iload 5, 2) := by decide +kernel
theorem dX7_findTopYear_74 : decode cX7_findTopYear 74 = .ok (.iaload, 1) := by decide +kernel
theorem dX7_findTopYear_75 : decode cX7_findTopYear 75 = .ok (.if_icmp .ne 6, 3) := by decide +kernel
theorem dX7_findTopYear_81 : decode cX7_findTopYear 81 = .ok (.iinc 7 1, 3) := by decide +kernel
theorem dX7_findTopYear_84 : decode cX7_findTopYear 84 = .ok (.goto (-54), 3) := by decide +kernel
theorem dX7_findTopYear_78 : decode cX7_findTopYear 78 = .ok (.iinc 6 1, 3) := by decide +kernel
theorem dX7_findTopYear_54 : decode cX7_findTopYear 54 = .ok (.iload 7, 2) := by decide +kernel
theorem dX7_findTopYear_56 : decode cX7_findTopYear 56 = .ok (.istore 5, 2) := by decide +kernel
theorem dX7_findTopYear_58 : decode cX7_findTopYear 58 = .ok (.iconst 0, 1) := by decide +kernel
theorem dX7_findTopYear_59 : decode cX7_findTopYear 59 = .ok (.istore 6, 2) := by decide +kernel
abbrev mX7_yearlessWeight : zM := (yX7_yearlessWeight, cX7_yearlessWeight, 5, (some .int), [])
theorem okX7_yearlessWeight : zMok mX7_yearlessWeight 2 := ⟨by decide, by decide, by decide +kernel⟩
theorem dX7_yearlessWeight_0 : decode cX7_yearlessWeight 0 = .ok (.iconst 0, 1) := by decide +kernel
theorem dX7_yearlessWeight_1 : decode cX7_yearlessWeight 1 = .ok (.istore_n 3, 1) := by decide +kernel
theorem dX7_yearlessWeight_2 : decode cX7_yearlessWeight 2 = .ok (.iconst 0, 1) := by decide +kernel
theorem dX7_yearlessWeight_3 : decode cX7_yearlessWeight 3 = .ok (.istore 4, 2) := by decide +kernel
theorem dX7_yearlessWeight_5 : decode cX7_yearlessWeight 5 = .ok (.iload 4, 2) := by decide +kernel
theorem dX7_yearlessWeight_7 : decode cX7_yearlessWeight 7 = .ok (.aload_n 1, 1) := by decide +kernel
theorem dX7_yearlessWeight_8 : decode cX7_yearlessWeight 8 = .ok (.getfield 35, 3) := by decide +kernel
theorem dX7_yearlessWeight_11 : decode cX7_yearlessWeight 11 = .ok (.getfield 68, 3) := by decide +kernel
theorem dX7_yearlessWeight_14 : decode cX7_yearlessWeight 14 = .ok (.if_icmp .ge 51, 3) := by decide +kernel
theorem dX7_yearlessWeight_65 : decode cX7_yearlessWeight 65 = .ok (.iload_n 3, 1) := by decide +kernel
theorem dX7_yearlessWeight_66 : decode cX7_yearlessWeight 66 = .ok (.ireturn, 1) := by decide +kernel
theorem dX7_yearlessWeight_17 : decode cX7_yearlessWeight 17 = .ok (.aload_n 0, 1) := by decide +kernel
theorem dX7_yearlessWeight_18 : decode cX7_yearlessWeight 18 = .ok (.getfield 9, 3) := by decide +kernel
theorem dX7_yearlessWeight_21 : decode cX7_yearlessWeight 21 = .ok (.iload 4, 2) := by decide +kernel
theorem dX7_yearlessWeight_23 : decode cX7_yearlessWeight 23 = .ok (.baload, 1) := by decide +kernel
theorem dX7_yearlessWeight_24 : decode cX7_yearlessWeight 24 = .ok (.ifCond .eq 35, 3) := by decide +kernel
theorem dX7_yearlessWeight_59 : decode cX7_yearlessWeight 59 = .ok (.iinc 4 1, 3) := by decide +kernel
theorem dX7_yearlessWeight_62 : decode cX7_yearlessWeight 62 = .ok (.goto (-57), 3) := by decide +kernel
theorem dX7_yearlessWeight_27 : decode cX7_yearlessWeight 27 = .ok (.aload_n 1, 1) := by decide +kernel
theorem dX7_yearlessWeight_28 : decode cX7_yearlessWeight 28 = .ok (.iload 4, 2) := by decide +kernel
theorem dX7_yearlessWeight_30 : decode cX7_yearlessWeight 30 = .ok (.invokevirtual 93, 3) := by decide +kernel
theorem dX7_yearlessWeight_33 : decode cX7_yearlessWeight 33 = .ok (.ifCond .ne 26, 3) := by decide +kernel
theorem dX7_yearlessWeight_36 : decode cX7_yearlessWeight 36 = .ok (.aload_n 1, 1) := by decide +kernel
theorem dX7_yearlessWeight_37 : decode cX7_yearlessWeight 37 = .ok (.iload_n 2, 1) := by decide +kernel
theorem dX7_yearlessWeight_38 : decode cX7_yearlessWeight 38 = .ok (.iload 4, 2) := by decide +kernel
theorem dX7_yearlessWeight_40 : decode cX7_yearlessWeight 40 = .ok (.invokevirtual 123, 3) := by decide +kernel
theorem cw_RX7_123 : zCwV RX7 123 mX1_printerFits := zall [892, 893, 894, 34, 895] (by decide +kernel) (by decide +kernel)
theorem dX7_yearlessWeight_43 : decode cX7_yearlessWeight 43 = .ok (.ifCond .eq 16, 3) := by decide +kernel
theorem dX7_yearlessWeight_46 : decode cX7_yearlessWeight 46 = .ok (.iload_n 3, 1) := by decide +kernel
theorem dX7_yearlessWeight_47 : decode cX7_yearlessWeight 47 = .ok (.aload_n 1, 1) := by decide +kernel
theorem dX7_yearlessWeight_48 : decode cX7_yearlessWeight 48 = .ok (.getfield 35, 3) := by decide +kernel
theorem dX7_yearlessWeight_51 : decode cX7_yearlessWeight 51 = .ok (.getfield 102, 3) := by decide +kernel
theorem dX7_yearlessWeight_54 : decode cX7_yearlessWeight 54 = .ok (.iload 4, 2) := by decide +kernel
theorem dX7_yearlessWeight_56 : decode cX7_yearlessWeight 56 = .ok (.iaload, 1) := by decide +kernel
theorem dX7_yearlessWeight_57 : decode cX7_yearlessWeight 57 = .ok (.iadd, 1) := by decide +kernel
theorem dX7_yearlessWeight_58 : decode cX7_yearlessWeight 58 = .ok (.istore_n 3, 1) := by decide +kernel
abbrev mX7_printerAt : zM := (yX7_printerAt, cX7_printerAt, 2, (some .int), [])
theorem okX7_printerAt : zMok mX7_printerAt 1 := ⟨by decide, by decide, by decide +kernel⟩
theorem dX7_printerAt_0 : decode cX7_printerAt 0 = .ok (.iload_n 1, 1) := by decide +kernel
theorem dX7_printerAt_1 : decode cX7_printerAt 1 = .ok (.ifCond .lt 20, 3) := by decide +kernel
theorem dX7_printerAt_21 : decode cX7_printerAt 21 = .ok (.iconst (-1), 1) := by decide +kernel
theorem dX7_printerAt_22 : decode cX7_printerAt 22 = .ok (.ireturn, 1) := by decide +kernel
theorem dX7_printerAt_4 : decode cX7_printerAt 4 = .ok (.iload_n 1, 1) := by decide +kernel
theorem dX7_printerAt_5 : decode cX7_printerAt 5 = .ok (.aload_n 0, 1) := by decide +kernel
theorem dX7_printerAt_6 : decode cX7_printerAt 6 = .ok (.getfield 28, 3) := by decide +kernel
theorem fl_RX7_28 : zFl RX7 28 7 5 := ⟨RX7, TX7, 7, rfl, by decide, zmem1 282 (by decide +kernel) rfl, rfl⟩
theorem dX7_printerAt_9 : decode cX7_printerAt 9 = .ok (.if_icmp .ge 12, 3) := by decide +kernel
theorem dX7_printerAt_12 : decode cX7_printerAt 12 = .ok (.aload_n 0, 1) := by decide +kernel
theorem dX7_printerAt_13 : decode cX7_printerAt 13 = .ok (.getfield 32, 3) := by decide +kernel
theorem fl_RX7_32 : zFl RX7 32 7 6 := ⟨RX7, TX7, 7, rfl, by decide, zmem1 283 (by decide +kernel) rfl, rfl⟩
theorem dX7_printerAt_16 : decode cX7_printerAt 16 = .ok (.iload_n 1, 1) := by decide +kernel
theorem dX7_printerAt_17 : decode cX7_printerAt 17 = .ok (.iaload, 1) := by decide +kernel
theorem dX7_printerAt_18 : decode cX7_printerAt 18 = .ok (.goto 4, 3) := by decide +kernel
abbrev mX7_scoreAt : zM := (yX7_scoreAt, cX7_scoreAt, 3, (some .int), [])
theorem okX7_scoreAt : zMok mX7_scoreAt 1 := ⟨by decide, by decide, by decide +kernel⟩
theorem dX7_scoreAt_0 : decode cX7_scoreAt 0 = .ok (.aload_n 0, 1) := by decide +kernel
theorem dX7_scoreAt_1 : decode cX7_scoreAt 1 = .ok (.iload_n 1, 1) := by decide +kernel
theorem dX7_scoreAt_2 : decode cX7_scoreAt 2 = .ok (.invokevirtual 130, 3) := by decide +kernel
theorem cw_RX7_130 : zCwV RX7 130 mX7_printerAt := zall [913, 914, 915, 39, 916] (by decide +kernel) (by decide +kernel)
theorem dX7_scoreAt_5 : decode cX7_scoreAt 5 = .ok (.istore_n 2, 1) := by decide +kernel
theorem dX7_scoreAt_6 : decode cX7_scoreAt 6 = .ok (.iload_n 2, 1) := by decide +kernel
theorem dX7_scoreAt_7 : decode cX7_scoreAt 7 = .ok (.iconst 0, 1) := by decide +kernel
theorem dX7_scoreAt_8 : decode cX7_scoreAt 8 = .ok (.bipush 7, 2) := by decide +kernel
theorem dX7_scoreAt_10 : decode cX7_scoreAt 10 = .ok (.invokestatic 133, 3) := by decide +kernel
theorem cw_RX7_133 : zCwN RX7 133 mX9_isWithin := ⟨⟨_, List.mem_of_getElem? (i := 14) rfl⟩, zall [420, 31, 421] (by decide +kernel) (by decide +kernel)⟩
theorem dX7_scoreAt_13 : decode cX7_scoreAt 13 = .ok (.ifCond .eq 12, 3) := by decide +kernel
theorem dX7_scoreAt_25 : decode cX7_scoreAt 25 = .ok (.iconst 0, 1) := by decide +kernel
theorem dX7_scoreAt_26 : decode cX7_scoreAt 26 = .ok (.ireturn, 1) := by decide +kernel
theorem dX7_scoreAt_16 : decode cX7_scoreAt 16 = .ok (.aload_n 0, 1) := by decide +kernel
theorem dX7_scoreAt_17 : decode cX7_scoreAt 17 = .ok (.getfield 22, 3) := by decide +kernel
theorem dX7_scoreAt_20 : decode cX7_scoreAt 20 = .ok (.iload_n 2, 1) := by decide +kernel
theorem dX7_scoreAt_21 : decode cX7_scoreAt 21 = .ok (.iaload, 1) := by decide +kernel
theorem dX7_scoreAt_22 : decode cX7_scoreAt 22 = .ok (.goto 4, 3) := by decide +kernel
abbrev mX7_rank : zM := (yX7_rank, cX7_rank, 3, none, [])
theorem okX7_rank : zMok mX7_rank 1 := ⟨by decide, by decide, by decide +kernel⟩
theorem dX7_rank_0 : decode cX7_rank 0 = .ok (.aload_n 0, 1) := by decide +kernel
theorem dX7_rank_1 : decode cX7_rank 1 = .ok (.getfield 28, 3) := by decide +kernel
theorem dX7_rank_4 : decode cX7_rank 4 = .ok (.ifCond .lt 12, 3) := by decide +kernel
theorem dX7_rank_7 : decode cX7_rank 7 = .ok (.aload_n 0, 1) := by decide +kernel
theorem dX7_rank_8 : decode cX7_rank 8 = .ok (.getfield 28, 3) := by decide +kernel
theorem dX7_rank_11 : decode cX7_rank 11 = .ok (.bipush 8, 2) := by decide +kernel
theorem dX7_rank_13 : decode cX7_rank 13 = .ok (.if_icmp .lt 4, 3) := by decide +kernel
theorem dX7_rank_17 : decode cX7_rank 17 = .ok (.aload_n 0, 1) := by decide +kernel
theorem dX7_rank_18 : decode cX7_rank 18 = .ok (.getfield 28, 3) := by decide +kernel
theorem dX7_rank_21 : decode cX7_rank 21 = .ok (.istore_n 2, 1) := by decide +kernel
theorem dX7_rank_22 : decode cX7_rank 22 = .ok (.aload_n 0, 1) := by decide +kernel
theorem dX7_rank_23 : decode cX7_rank 23 = .ok (.dup, 1) := by decide +kernel
theorem dX7_rank_24 : decode cX7_rank 24 = .ok (.getfield 28, 3) := by decide +kernel
theorem dX7_rank_27 : decode cX7_rank 27 = .ok (.iconst 1, 1) := by decide +kernel
theorem dX7_rank_28 : decode cX7_rank 28 = .ok (.iadd, 1) := by decide +kernel
theorem dX7_rank_29 : decode cX7_rank 29 = .ok (.putfield 28, 3) := by decide +kernel
theorem fp_7_5 : zFi 7 5 "I" := ⟨RX7, TX7, 7, rfl, rfl, rfl⟩
theorem dX7_rank_32 : decode cX7_rank 32 = .ok (.iload_n 2, 1) := by decide +kernel
theorem dX7_rank_33 : decode cX7_rank 33 = .ok (.ifCond .le 39, 3) := by decide +kernel
theorem dX7_rank_72 : decode cX7_rank 72 = .ok (.aload_n 0, 1) := by decide +kernel
theorem dX7_rank_73 : decode cX7_rank 73 = .ok (.getfield 32, 3) := by decide +kernel
theorem dX7_rank_76 : decode cX7_rank 76 = .ok (.iload_n 2, 1) := by decide +kernel
theorem dX7_rank_77 : decode cX7_rank 77 = .ok (.iload_n 1, 1) := by decide +kernel
theorem dX7_rank_78 : decode cX7_rank 78 = .ok (.iastore, 1) := by decide +kernel
theorem dX7_rank_79 : decode cX7_rank 79 = .ok (.return_, 1) := by decide +kernel
theorem dX7_rank_36 : decode cX7_rank 36 = .ok (.aload_n 0, 1) := by decide +kernel
theorem dX7_rank_37 : decode cX7_rank 37 = .ok (.iload_n 2, 1) := by decide +kernel
theorem dX7_rank_38 : decode cX7_rank 38 = .ok (.iconst 1, 1) := by decide +kernel
theorem dX7_rank_39 : decode cX7_rank 39 = .ok (.isub, 1) := by decide +kernel
theorem dX7_rank_40 : decode cX7_rank 40 = .ok (.invokevirtual 127, 3) := by decide +kernel
theorem cw_RX7_127 : zCwV RX7 127 mX7_scoreAt := zall [909, 910, 911, 39, 912] (by decide +kernel) (by decide +kernel)
theorem dX7_rank_43 : decode cX7_rank 43 = .ok (.aload_n 0, 1) := by decide +kernel
theorem dX7_rank_44 : decode cX7_rank 44 = .ok (.getfield 22, 3) := by decide +kernel
theorem dX7_rank_47 : decode cX7_rank 47 = .ok (.iload_n 1, 1) := by decide +kernel
theorem dX7_rank_48 : decode cX7_rank 48 = .ok (.iaload, 1) := by decide +kernel
theorem dX7_rank_49 : decode cX7_rank 49 = .ok (.if_icmp .ge 23, 3) := by decide +kernel
theorem dX7_rank_52 : decode cX7_rank 52 = .ok (.aload_n 0, 1) := by decide +kernel
theorem dX7_rank_53 : decode cX7_rank 53 = .ok (.getfield 32, 3) := by decide +kernel
theorem dX7_rank_56 : decode cX7_rank 56 = .ok (.iload_n 2, 1) := by decide +kernel
theorem dX7_rank_57 : decode cX7_rank 57 = .ok (.aload_n 0, 1) := by decide +kernel
theorem dX7_rank_58 : decode cX7_rank 58 = .ok (.getfield 32, 3) := by decide +kernel
theorem dX7_rank_61 : decode cX7_rank 61 = .ok (.iload_n 2, 1) := by decide +kernel
theorem dX7_rank_62 : decode cX7_rank 62 = .ok (.iconst 1, 1) := by decide +kernel
theorem dX7_rank_63 : decode cX7_rank 63 = .ok (.isub, 1) := by decide +kernel
theorem dX7_rank_64 : decode cX7_rank 64 = .ok (.iaload, 1) := by decide +kernel
theorem dX7_rank_65 : decode cX7_rank 65 = .ok (.iastore, 1) := by decide +kernel
theorem dX7_rank_66 : decode cX7_rank 66 = .ok (.iinc 2 (-1), 3) := by decide +kernel
theorem dX7_rank_69 : decode cX7_rank 69 = .ok (.goto (-37), 3) := by decide +kernel

theorem dl_put {τ : zS} {q a b j : Nat} {v S : Int} (hab : a < b) (hj : τ.1 q j = S) : (zput (zput τ q a (τ.1 q a + v)) q b (τ.1 q b - v)).1 q j = S + ((if a = j then v else 0) - (if b = j then v else 0)) := by
  subst hj
  simp only [zput_e, true_and]
  by_cases e1 : j = b
  · rw [if_pos e1, if_neg (by omega), if_pos e1.symm, e1]; omega
  · rw [if_neg e1]
    by_cases e2 : j = a
    · rw [if_pos e2, if_pos e2.symm, if_neg (fun q => e1 q.symm), e2]; omega
    · rw [if_neg e2, if_neg (fun q => e2 q.symm), if_neg (fun q => e1 q.symm)]; omega
noncomputable def rE (D : zBk) (c : Nat) : Nat := (eYr D c - 1450).toNat
noncomputable def rL (D : zBk) (c : Nat) : Nat := (min (lYr D c + 1 - 1450) 550).toNat
theorem rw_ok {D : zBk} {c : Nat} (h : (1450 ≤ eYr D c ∧ eYr D c ≤ 1999) ∧ (1450 ≤ lYr D c ∧ lYr D c ≤ 2002) ∧ eYr D c ≤ lYr D c) : rE D c < 550 ∧ rL D c < 551 ∧ rE D c < rL D c := by
  unfold rE rL; omega
theorem dl_b {D : zBk} (h : WF D) {P : Nat → Prop} {a b : Nat → Nat} {j n : Nat} (hn : (n : Int) ≤ D 12 0) : -360 ≤ zs (fun d => zif (P d) (dlt a b (D 16) d j)) n ∧ zs (fun d => zif (P d) (dlt a b (D 16) d j)) n ≤ 360 := by
  have hk := h.1.2.2.2
  have := zs_abs (f := fun d => zif (P d) (dlt a b (D 16) d j)) (b := 9) (by omega) (n := n) (fun d hd => by
    by_cases hp : P d
    · show -9 ≤ zif (P d) _ ∧ zif (P d) _ ≤ 9
      rw [zif_t hp]
      have := (h.2.2.2.2.1 d (by omega)).2.2.1
      exact dlt_abs (by omega)
    · show -9 ≤ zif (P d) _ ∧ zif (P d) _ ≤ 9
      rw [zif_f hp]; omega)
  omega
theorem wt_b {D : zBk} (h : WF D) (P : Nat → Prop) : 0 ≤ zs (fun d => zif (P d) (D 16 d)) (D 12 0).toNat ∧ zs (fun d => zif (P d) (D 16 d)) (D 12 0).toNat ≤ 360 := by
  have hk := h.1.2.2.2
  have := zs_bnd (f := fun d => zif (P d) (D 16 d)) (b := 9) (by omega) (n := (D 12 0).toNat) (fun d hd => by
    by_cases hp : P d
    · show 0 ≤ zif (P d) _ ∧ zif (P d) _ ≤ 9
      rw [zif_t hp]
      have := (h.2.2.2.2.1 d (by omega)).2.2.1
      omega
    · show 0 ≤ zif (P d) _ ∧ zif (P d) _ ≤ 9
      rw [zif_f hp]; omega)
  omega

set_option maxRecDepth 20000 in
set_option maxHeartbeats 2000000 in
theorem sX7_rowOf {l : Launch} {w : zW} (hfl : l.stackTraces = false) {σ : zS} {x : Int} (hz : zOK σ) (hx : 0 ≤ x ∧ x ≤ 5000) : Sp l w mX7_rowOf 1 0 [zi x] σ (zret (zi (max 0 (min (x - 1450) 550))) σ) := by
  obtain ⟨Q, hQ⟩ : ∃ Q : zQ, Q = (zret (zi (max 0 (min (x - 1450) 550))) σ) := ⟨_, rfl⟩
  rw [← hQ]
  refine zx_enter hfl (by decide) rfl 0 rfl ?_
  show zX l w mX7_rowOf (zMQ w 1 0 Q) 0 [zi x] [] 0 σ
  have hx2 : zr x := by unfold zr; omega
  refine zx_iconst dX7_rowOf_0 ?_
  refine zx_iloadN dX7_rowOf_1 rfl rfl ?_
  refine zx_sipush dX7_rowOf_2 rfl ?_
  refine zx_isub dX7_rowOf_5 ?_
  refine zx_sipush dX7_rowOf_6 rfl ?_
  refine zx_min (by first | exact hz _ _ | assumption | exact zr_b _ | exact zcmp_r _ _ | (unfold zr at *; omega)) (by first | exact hz _ _ | assumption | exact zr_b _ | exact zcmp_r _ _ | (unfold zr at *; omega)) mw_RX7_108 (Nat.le_of_ble_eq_true rfl) ⟨Nat.le_of_ble_eq_true rfl, Nat.le_of_ble_eq_true rfl⟩ dX7_rowOf_9 ?_
  refine zx_max (by first | exact hz _ _ | assumption | exact zr_b _ | exact zcmp_r _ _ | (unfold zr at *; omega)) (by first | exact hz _ _ | assumption | exact zr_b _ | exact zcmp_r _ _ | (unfold zr at *; omega)) mw_RX7_114 (Nat.le_of_ble_eq_true rfl) ⟨Nat.le_of_ble_eq_true rfl, Nat.le_of_ble_eq_true rfl⟩ dX7_rowOf_12 ?_
  refine zx_iret rfl rfl dX7_rowOf_15 ?_
  rw [hQ]
  refine ⟨congrArg (fun z : Int => (Sum.inl (some (zi z)) : Option zV ⊕ String)) ?_, by first | rfl | (exfalso; omega)⟩
  first | rfl | omega | (split <;> first | rfl | omega)
set_option maxRecDepth 20000 in
set_option maxHeartbeats 2000000 in
theorem sX7_heed {l : Launch} {w : zW} (hfl : l.stackTraces = false) {σ : zS} {x y : Int} (hz : zOK σ) (hW : WF (bk σ 30)) (hx : 0 ≤ x ∧ x ≤ 40) (hy : zr y) : Sp l w mX7_heed 2 0 [zf 7 252, zf 2 42, zi x, zi y] σ (zqv (none) (fun τ => zOK τ ∧ zSame (fun q => q = 253) σ τ ∧ ∀ c : Nat, (c : Int) < σ.1 42 0 → τ.1 253 c = zb (Hd (bk σ 30) x y c))) := by
  obtain ⟨Q, hQ⟩ : ∃ Q : zQ, Q = (zqv (none) (fun τ => zOK τ ∧ zSame (fun q => q = 253) σ τ ∧ ∀ c : Nat, (c : Int) < σ.1 42 0 → τ.1 253 c = zb (Hd (bk σ 30) x y c))) := ⟨_, rfl⟩
  rw [← hQ]
  refine zx_enter hfl (by decide) rfl 5 rfl ?_
  show zX l w mX7_heed (zMQ w 2 0 Q) 0 [zf 7 252, zf 2 42, zi x, zi y, zu, zu, zu, zu, zu] [] 0 σ
  have hP : 0 ≤ σ.1 31 0 ∧ σ.1 31 0 ≤ 8 := hW.1.1
  have hM : 0 ≤ σ.1 31 7 ∧ σ.1 31 7 ≤ 8 := hW.1.2.1
  have hK : 0 ≤ σ.1 42 0 ∧ σ.1 42 0 ≤ 40 := hW.1.2.2.2
  refine zx_iloadN dX7_heed_0 rfl rfl ?_
  refine zy_istore [zf 7 252, zf 2 42, zi x, zi y, zi x, zu, zu, zu, zu] dX7_heed_1 (Nat.le_of_ble_eq_true rfl) (Nat.le_of_ble_eq_true rfl) rfl rfl ?_
  refine zx_iconst dX7_heed_3 ?_
  refine zy_istore [zf 7 252, zf 2 42, zi x, zi y, zi x, zi 0, zu, zu, zu] dX7_heed_4 (Nat.le_of_ble_eq_true rfl) (Nat.le_of_ble_eq_true rfl) rfl rfl ?_
  have L6 : ∀ (N : Nat) (τ : zS) (p : Nat) (o : Int), (zOK τ) → ((p : Int) ≤ σ.1 42 0) → (o = x - U (bk σ 30) p) → (zSame (fun q => q = 253) σ τ) → (∀ q : Nat, q < p → τ.1 253 (σ.1 49 q).toNat = zb (Hd (bk σ 30) x y (σ.1 49 q).toNat)) → (41 - p) < N → zX l w mX7_heed (zMQ w 2 0 Q) 6 [zf 7 252, zf 2 42, zi x, zi y, zi o, zi ((p : Nat) : Int), zu, zu, zu] [] 0 τ := by
    intro N
    induction N with
    | zero => intro τ p o _ _ _ _ _ _; exact absurd (by assumption) (Nat.not_lt_zero _)
    | succ N ih6 =>
      intro τ p o hz hp ho h1 h2 hN
      have c42 : τ.1 42 0 = σ.1 42 0 := h1.1 42 (by dsimp only; omega) 0
      have c47 := h1.1 47 (by dsimp only; omega) (σ.1 49 p).toNat
      have c48 := h1.1 48 (by dsimp only; omega) (σ.1 49 p).toNat
      have c49 := h1.1 49 (by dsimp only; omega) p
      have hKτ : 0 ≤ τ.1 42 0 ∧ τ.1 42 0 ≤ 40 := by omega
      have hU : 0 ≤ U (bk σ 30) p ∧ U (bk σ 30) p ≤ p := zsb_le _ p
      refine zx_iload dX7_heed_6 rfl ?_
      refine zx_aloadN dX7_heed_8 rfl rfl ?_
      refine zy_getI fl_RX7_68 rfl dX7_heed_9 rfl ?_
      refine zx_icmp_ge (tgt := 104) (by first | exact hz _ _ | assumption | exact zr_b _ | exact zcmp_r _ _ | (unfold zr at *; omega)) (by first | exact hz _ _ | assumption | exact zr_b _ | exact zcmp_r _ _ | (unfold zr at *; omega)) dX7_heed_12 (by decide) (fun h12 => ?_) (fun h12 => ?_)
      · refine zx_vret rfl dX7_heed_104 ?_
        rw [hQ]
        refine ⟨rfl, ?_⟩
        refine ⟨hz, h1, fun c hc => ?_⟩
        obtain ⟨i, hi, e⟩ := WFo_sj hW.2.2.2.2.2 (D := bk σ 30) (c := c) hc
        rw [← e]
        exact h2 i (by have : (i : Int) < σ.1 42 0 := hi; omega)
      · have hpK : (p : Int) < bk σ 30 12 0 := by show (p : Int) < σ.1 42 0; omega
        have hO : 0 ≤ σ.1 49 p ∧ σ.1 49 p < σ.1 42 0 := hW.2.2.2.2.2.1 p hpK
        have hH : Hd (bk σ 30) x y (σ.1 49 p).toNat ↔ ((¬ σ.1 47 (σ.1 49 p).toNat = 0 ∨ U (bk σ 30) p < x) ∧ σ.1 48 (σ.1 49 p).toNat = 0 ∧ ¬ σ.1 49 p = y) := by
          have e := Rd_at hW.2.2.2.2.2 (x := x) hpK
          have e2 : (((σ.1 49 p).toNat : Nat) : Int) = σ.1 49 p := by omega
          unfold Hd
          rw [show (σ.1 49 p).toNat = (bk σ 30 19 p).toNat from rfl, e]
          show (_ ∧ _ ∧ ¬ (((σ.1 49 p).toNat : Nat) : Int) = y) ↔ _
          rw [e2]
          exact Iff.rfl
        refine zx_aloadN dX7_heed_15 rfl rfl ?_
        refine zx_iload dX7_heed_16 rfl ?_
        refine zy_cv [zi ((p : Nat) : Int)] (sX2_clueAt  hfl hz (by first | exact hz _ _ | assumption | exact zr_b _ | exact zcmp_r _ _ | (unfold zr at *; omega)) (by first | assumption | omega)) dX7_heed_18 (by decide) rfl cw_RX7_73 okX2_clueAt rfl (Nat.le_of_ble_eq_true rfl) ⟨Nat.le_of_ble_eq_true rfl, Nat.le_of_ble_eq_true rfl, Nat.le_of_ble_eq_true rfl, Nat.le_of_ble_eq_true rfl⟩ ?_
        refine zy_top (b := if 0 ≤ ((p : Nat) : Int) ∧ ((p : Nat) : Int) < τ.1 42 0 then τ.1 49 p else -1) rfl ?_
        refine zy_top (b := (((σ.1 49 p).toNat : Nat) : Int)) (by rw [if_pos (by omega)]; show τ.1 49 p = _; omega) ?_
        refine zy_istore [zf 7 252, zf 2 42, zi x, zi y, zi o, zi ((p : Nat) : Int), zi (((σ.1 49 p).toNat : Nat) : Int), zu, zu] dX7_heed_21 (Nat.le_of_ble_eq_true rfl) (Nat.le_of_ble_eq_true rfl) rfl rfl ?_
        refine zx_aloadN dX7_heed_23 rfl rfl ?_
        refine zx_iload dX7_heed_24 rfl ?_
        refine zy_cv [zi (((σ.1 49 p).toNat : Nat) : Int)] (sX2_has  hfl hz (by first | exact hz _ _ | assumption | exact zr_b _ | exact zcmp_r _ _ | (unfold zr at *; omega))) dX7_heed_26 (by decide) rfl cw_RX7_77 okX2_has rfl (Nat.le_of_ble_eq_true rfl) ⟨Nat.le_of_ble_eq_true rfl, Nat.le_of_ble_eq_true rfl, Nat.le_of_ble_eq_true rfl, Nat.le_of_ble_eq_true rfl⟩ ?_
        refine zx_if_eq (tgt := 98) (by first | exact hz _ _ | assumption | exact zr_b _ | exact zcmp_r _ _ | (unfold zr at *; omega)) dX7_heed_29 (by decide) (fun h29 => ?_) (fun h29 => ?_)
        · have h29 := zb_0.mp h29
          refine zy_iinc (b := ((p + 1 : Nat) : Int)) [zf 7 252, zf 2 42, zi x, zi y, zi o, zi ((p + 1 : Nat) : Int), zi (((σ.1 49 p).toNat : Nat) : Int), zu, zu] dX7_heed_98 rfl (by omega) (Nat.le_of_ble_eq_true rfl) rfl rfl ?_
          refine zx_goto (tgt := 6) dX7_heed_101 (by decide) ?_
          refine zy_drop 6 [zf 7 252, zf 2 42, zi x, zi y, zi o, zi ((p + 1 : Nat) : Int), zu, zu, zu] rfl ?_
          exact ih6 τ (p + 1) o hz (by first | assumption | omega) (by have e : U (bk σ 30) (p + 1) = U (bk σ 30) p + zb (σ.1 47 (σ.1 49 p).toNat = 0) := rfl; have z0 := @zb_0 (σ.1 47 (σ.1 49 p).toNat = 0); have z1 := zb_01 (σ.1 47 (σ.1 49 p).toNat = 0); omega) (by first | exact h1 | exact ⟨fun q hq i => by have hq2 := hq; dsimp only at hq2; exact (zput_k _ _ _ _ _ (by omega)).trans (h1.1 q hq i), h1.2⟩) (by first
                  | (exfalso; omega)
                  | exact (fun q hq => by
                      rcases Nat.lt_succ_iff_lt_or_eq.mp hq with q1 | rfl
                      · exact (zput_i _ _ _ _ _ (fun e => absurd (WFo_inj hW.2.2.2.2.2 (show (q : Int) < bk σ 30 12 0 by show (q : Int) < σ.1 42 0; omega) hpK e) (by omega))).trans (h2 q q1)
                      · refine (zput_s _ _ _ _).trans ?_
                        first
                        | exact (zb_t (hH.mpr (by omega))).symm
                        | exact (zb_f (fun q => by have := hH.mp q; omega)).symm)) (by omega)
        · have h29 := zb_n.mp h29
          refine zx_aloadN dX7_heed_32 rfl rfl ?_
          refine zx_iload dX7_heed_33 rfl ?_
          refine zy_cv [zi (((σ.1 49 p).toNat : Nat) : Int)] (sX2_isUnread  hfl hz (by first | exact hz _ _ | assumption | exact zr_b _ | exact zcmp_r _ _ | (unfold zr at *; omega)) (by first | assumption | omega)) dX7_heed_35 (by decide) rfl cw_RX7_81 okX2_isUnread rfl (Nat.le_of_ble_eq_true rfl) ⟨Nat.le_of_ble_eq_true rfl, Nat.le_of_ble_eq_true rfl, Nat.le_of_ble_eq_true rfl, Nat.le_of_ble_eq_true rfl⟩ ?_
          refine zy_top (b := zb (0 ≤ (((σ.1 49 p).toNat : Nat) : Int) ∧ (((σ.1 49 p).toNat : Nat) : Int) < τ.1 42 0 ∧ τ.1 47 ((σ.1 49 p).toNat) = 0)) rfl ?_
          refine zy_istore [zf 7 252, zf 2 42, zi x, zi y, zi o, zi ((p : Nat) : Int), zi (((σ.1 49 p).toNat : Nat) : Int), zi (zb (0 ≤ (((σ.1 49 p).toNat : Nat) : Int) ∧ (((σ.1 49 p).toNat : Nat) : Int) < τ.1 42 0 ∧ τ.1 47 ((σ.1 49 p).toNat) = 0)), zu] dX7_heed_38 (Nat.le_of_ble_eq_true rfl) (Nat.le_of_ble_eq_true rfl) rfl rfl ?_
          refine zx_iload dX7_heed_40 rfl ?_
          refine zx_if_eq (tgt := 50) (by first | exact hz _ _ | assumption | exact zr_b _ | exact zcmp_r _ _ | (unfold zr at *; omega)) dX7_heed_42 (by decide) (fun h42 => ?_) (fun h42 => ?_)
          · have h42 := zb_0.mp h42
            refine zx_iconst dX7_heed_50 ?_
            refine zx_goto (tgt := 55) dX7_heed_51 (by decide) ?_
            refine zy_istore [zf 7 252, zf 2 42, zi x, zi y, zi o, zi ((p : Nat) : Int), zi (((σ.1 49 p).toNat : Nat) : Int), zi (zb (0 ≤ (((σ.1 49 p).toNat : Nat) : Int) ∧ (((σ.1 49 p).toNat : Nat) : Int) < τ.1 42 0 ∧ τ.1 47 ((σ.1 49 p).toNat) = 0)), zi 1] dX7_heed_55 (Nat.le_of_ble_eq_true rfl) (Nat.le_of_ble_eq_true rfl) rfl rfl ?_
            refine zx_aloadN dX7_heed_57 rfl rfl ?_
            refine zy_getR (q' := 253) fl_RX7_9 rfl dX7_heed_58 rfl ?_
            refine zx_iload dX7_heed_61 rfl ?_
            refine zx_iload dX7_heed_63 rfl ?_
            refine zx_if_eq (tgt := 88) (by unfold zr; omega) dX7_heed_65 (by decide) (fun h65 => ?_) (fun h65 => ?_)
            · exact absurd h65 (by decide)
            · refine zx_aloadN dX7_heed_68 rfl rfl ?_
              refine zy_getR (q' := 48) fl_RX7_84 rfl dX7_heed_69 rfl ?_
              refine zx_iload dX7_heed_72 rfl ?_
              refine zy_zald (v := τ.1 48 ((σ.1 49 p).toNat)) rfl (by decide) (by decide) dX7_heed_74 (by omega) (by omega) rfl ?_
              refine zx_if_ne (tgt := 88) (by first | exact hz _ _ | assumption | exact zr_b _ | exact zcmp_r _ _ | (unfold zr at *; omega)) dX7_heed_75 (by decide) (fun h75 => ?_) (fun h75 => ?_)
              · refine zx_iconst dX7_heed_88 ?_
                refine zy_zast (i := (σ.1 49 p).toNat) rfl (by decide) (by decide) dX7_heed_89 (Or.inl rfl) (by omega) (by omega) rfl ?_
                refine zx_iload dX7_heed_90 rfl ?_
                refine zx_if_eq (tgt := 98) (by first | exact hz _ _ | assumption | exact zr_b _ | exact zcmp_r _ _ | (unfold zr at *; omega)) dX7_heed_92 (by decide) (fun h92 => ?_) (fun h92 => ?_)
                · have h92 := zb_0.mp h92
                  refine zy_iinc (b := ((p + 1 : Nat) : Int)) [zf 7 252, zf 2 42, zi x, zi y, zi o, zi ((p + 1 : Nat) : Int), zi (((σ.1 49 p).toNat : Nat) : Int), zi (zb (0 ≤ (((σ.1 49 p).toNat : Nat) : Int) ∧ (((σ.1 49 p).toNat : Nat) : Int) < τ.1 42 0 ∧ τ.1 47 ((σ.1 49 p).toNat) = 0)), zi 1] dX7_heed_98 rfl (by omega) (Nat.le_of_ble_eq_true rfl) rfl rfl ?_
                  refine zx_goto (tgt := 6) dX7_heed_101 (by decide) ?_
                  refine zy_drop 6 [zf 7 252, zf 2 42, zi x, zi y, zi o, zi ((p + 1 : Nat) : Int), zu, zi (zb (0 ≤ (((σ.1 49 p).toNat : Nat) : Int) ∧ (((σ.1 49 p).toNat : Nat) : Int) < τ.1 42 0 ∧ τ.1 47 ((σ.1 49 p).toNat) = 0)), zi 1] rfl ?_
                  refine zy_drop 7 [zf 7 252, zf 2 42, zi x, zi y, zi o, zi ((p + 1 : Nat) : Int), zu, zu, zi 1] rfl ?_
                  refine zy_drop 8 [zf 7 252, zf 2 42, zi x, zi y, zi o, zi ((p + 1 : Nat) : Int), zu, zu, zu] rfl ?_
                  exact ih6 (zput τ 253 ((σ.1 49 p).toNat) 0) (p + 1) o (zOK_put hz (by unfold zr; omega)) (by first | assumption | omega) (by have e : U (bk σ 30) (p + 1) = U (bk σ 30) p + zb (σ.1 47 (σ.1 49 p).toNat = 0) := rfl; have z0 := @zb_0 (σ.1 47 (σ.1 49 p).toNat = 0); have z1 := zb_01 (σ.1 47 (σ.1 49 p).toNat = 0); omega) (by first | exact h1 | exact ⟨fun q hq i => by have hq2 := hq; dsimp only at hq2; exact (zput_k _ _ _ _ _ (by omega)).trans (h1.1 q hq i), h1.2⟩) (by first
                          | (exfalso; omega)
                          | exact (fun q hq => by
                              rcases Nat.lt_succ_iff_lt_or_eq.mp hq with q1 | rfl
                              · exact (zput_i _ _ _ _ _ (fun e => absurd (WFo_inj hW.2.2.2.2.2 (show (q : Int) < bk σ 30 12 0 by show (q : Int) < σ.1 42 0; omega) hpK e) (by omega))).trans (h2 q q1)
                              · refine (zput_s _ _ _ _).trans ?_
                                first
                                | exact (zb_t (hH.mpr (by omega))).symm
                                | exact (zb_f (fun q => by have := hH.mp q; omega)).symm)) (by omega)
                · have h92 := zb_n.mp h92
                  refine zy_iinc (b := o - 1) [zf 7 252, zf 2 42, zi x, zi y, zi (o - 1), zi ((p : Nat) : Int), zi (((σ.1 49 p).toNat : Nat) : Int), zi (zb (0 ≤ (((σ.1 49 p).toNat : Nat) : Int) ∧ (((σ.1 49 p).toNat : Nat) : Int) < τ.1 42 0 ∧ τ.1 47 ((σ.1 49 p).toNat) = 0)), zi 1] dX7_heed_95 rfl (by omega) (Nat.le_of_ble_eq_true rfl) rfl rfl ?_
                  refine zy_iinc (b := ((p + 1 : Nat) : Int)) [zf 7 252, zf 2 42, zi x, zi y, zi (o - 1), zi ((p + 1 : Nat) : Int), zi (((σ.1 49 p).toNat : Nat) : Int), zi (zb (0 ≤ (((σ.1 49 p).toNat : Nat) : Int) ∧ (((σ.1 49 p).toNat : Nat) : Int) < τ.1 42 0 ∧ τ.1 47 ((σ.1 49 p).toNat) = 0)), zi 1] dX7_heed_98 rfl (by omega) (Nat.le_of_ble_eq_true rfl) rfl rfl ?_
                  refine zx_goto (tgt := 6) dX7_heed_101 (by decide) ?_
                  refine zy_drop 6 [zf 7 252, zf 2 42, zi x, zi y, zi (o - 1), zi ((p + 1 : Nat) : Int), zu, zi (zb (0 ≤ (((σ.1 49 p).toNat : Nat) : Int) ∧ (((σ.1 49 p).toNat : Nat) : Int) < τ.1 42 0 ∧ τ.1 47 ((σ.1 49 p).toNat) = 0)), zi 1] rfl ?_
                  refine zy_drop 7 [zf 7 252, zf 2 42, zi x, zi y, zi (o - 1), zi ((p + 1 : Nat) : Int), zu, zu, zi 1] rfl ?_
                  refine zy_drop 8 [zf 7 252, zf 2 42, zi x, zi y, zi (o - 1), zi ((p + 1 : Nat) : Int), zu, zu, zu] rfl ?_
                  exact ih6 (zput τ 253 ((σ.1 49 p).toNat) 0) (p + 1) (o - 1) (zOK_put hz (by unfold zr; omega)) (by first | assumption | omega) (by have e : U (bk σ 30) (p + 1) = U (bk σ 30) p + zb (σ.1 47 (σ.1 49 p).toNat = 0) := rfl; have z0 := @zb_0 (σ.1 47 (σ.1 49 p).toNat = 0); have z1 := zb_01 (σ.1 47 (σ.1 49 p).toNat = 0); omega) (by first | exact h1 | exact ⟨fun q hq i => by have hq2 := hq; dsimp only at hq2; exact (zput_k _ _ _ _ _ (by omega)).trans (h1.1 q hq i), h1.2⟩) (by first
                          | (exfalso; omega)
                          | exact (fun q hq => by
                              rcases Nat.lt_succ_iff_lt_or_eq.mp hq with q1 | rfl
                              · exact (zput_i _ _ _ _ _ (fun e => absurd (WFo_inj hW.2.2.2.2.2 (show (q : Int) < bk σ 30 12 0 by show (q : Int) < σ.1 42 0; omega) hpK e) (by omega))).trans (h2 q q1)
                              · refine (zput_s _ _ _ _).trans ?_
                                first
                                | exact (zb_t (hH.mpr (by omega))).symm
                                | exact (zb_f (fun q => by have := hH.mp q; omega)).symm)) (by omega)
              · refine zx_iload dX7_heed_78 rfl ?_
                refine zx_iloadN dX7_heed_80 rfl rfl ?_
                refine zx_icmp_eq (tgt := 88) (by first | exact hz _ _ | assumption | exact zr_b _ | exact zcmp_r _ _ | (unfold zr at *; omega)) (by first | exact hz _ _ | assumption | exact zr_b _ | exact zcmp_r _ _ | (unfold zr at *; omega)) dX7_heed_81 (by decide) (fun h81 => ?_) (fun h81 => ?_)
                · refine zx_iconst dX7_heed_88 ?_
                  refine zy_zast (i := (σ.1 49 p).toNat) rfl (by decide) (by decide) dX7_heed_89 (Or.inl rfl) (by omega) (by omega) rfl ?_
                  refine zx_iload dX7_heed_90 rfl ?_
                  refine zx_if_eq (tgt := 98) (by first | exact hz _ _ | assumption | exact zr_b _ | exact zcmp_r _ _ | (unfold zr at *; omega)) dX7_heed_92 (by decide) (fun h92 => ?_) (fun h92 => ?_)
                  · have h92 := zb_0.mp h92
                    refine zy_iinc (b := ((p + 1 : Nat) : Int)) [zf 7 252, zf 2 42, zi x, zi y, zi o, zi ((p + 1 : Nat) : Int), zi (((σ.1 49 p).toNat : Nat) : Int), zi (zb (0 ≤ (((σ.1 49 p).toNat : Nat) : Int) ∧ (((σ.1 49 p).toNat : Nat) : Int) < τ.1 42 0 ∧ τ.1 47 ((σ.1 49 p).toNat) = 0)), zi 1] dX7_heed_98 rfl (by omega) (Nat.le_of_ble_eq_true rfl) rfl rfl ?_
                    refine zx_goto (tgt := 6) dX7_heed_101 (by decide) ?_
                    refine zy_drop 6 [zf 7 252, zf 2 42, zi x, zi y, zi o, zi ((p + 1 : Nat) : Int), zu, zi (zb (0 ≤ (((σ.1 49 p).toNat : Nat) : Int) ∧ (((σ.1 49 p).toNat : Nat) : Int) < τ.1 42 0 ∧ τ.1 47 ((σ.1 49 p).toNat) = 0)), zi 1] rfl ?_
                    refine zy_drop 7 [zf 7 252, zf 2 42, zi x, zi y, zi o, zi ((p + 1 : Nat) : Int), zu, zu, zi 1] rfl ?_
                    refine zy_drop 8 [zf 7 252, zf 2 42, zi x, zi y, zi o, zi ((p + 1 : Nat) : Int), zu, zu, zu] rfl ?_
                    exact ih6 (zput τ 253 ((σ.1 49 p).toNat) 0) (p + 1) o (zOK_put hz (by unfold zr; omega)) (by first | assumption | omega) (by have e : U (bk σ 30) (p + 1) = U (bk σ 30) p + zb (σ.1 47 (σ.1 49 p).toNat = 0) := rfl; have z0 := @zb_0 (σ.1 47 (σ.1 49 p).toNat = 0); have z1 := zb_01 (σ.1 47 (σ.1 49 p).toNat = 0); omega) (by first | exact h1 | exact ⟨fun q hq i => by have hq2 := hq; dsimp only at hq2; exact (zput_k _ _ _ _ _ (by omega)).trans (h1.1 q hq i), h1.2⟩) (by first
                            | (exfalso; omega)
                            | exact (fun q hq => by
                                rcases Nat.lt_succ_iff_lt_or_eq.mp hq with q1 | rfl
                                · exact (zput_i _ _ _ _ _ (fun e => absurd (WFo_inj hW.2.2.2.2.2 (show (q : Int) < bk σ 30 12 0 by show (q : Int) < σ.1 42 0; omega) hpK e) (by omega))).trans (h2 q q1)
                                · refine (zput_s _ _ _ _).trans ?_
                                  first
                                  | exact (zb_t (hH.mpr (by omega))).symm
                                  | exact (zb_f (fun q => by have := hH.mp q; omega)).symm)) (by omega)
                  · have h92 := zb_n.mp h92
                    refine zy_iinc (b := o - 1) [zf 7 252, zf 2 42, zi x, zi y, zi (o - 1), zi ((p : Nat) : Int), zi (((σ.1 49 p).toNat : Nat) : Int), zi (zb (0 ≤ (((σ.1 49 p).toNat : Nat) : Int) ∧ (((σ.1 49 p).toNat : Nat) : Int) < τ.1 42 0 ∧ τ.1 47 ((σ.1 49 p).toNat) = 0)), zi 1] dX7_heed_95 rfl (by omega) (Nat.le_of_ble_eq_true rfl) rfl rfl ?_
                    refine zy_iinc (b := ((p + 1 : Nat) : Int)) [zf 7 252, zf 2 42, zi x, zi y, zi (o - 1), zi ((p + 1 : Nat) : Int), zi (((σ.1 49 p).toNat : Nat) : Int), zi (zb (0 ≤ (((σ.1 49 p).toNat : Nat) : Int) ∧ (((σ.1 49 p).toNat : Nat) : Int) < τ.1 42 0 ∧ τ.1 47 ((σ.1 49 p).toNat) = 0)), zi 1] dX7_heed_98 rfl (by omega) (Nat.le_of_ble_eq_true rfl) rfl rfl ?_
                    refine zx_goto (tgt := 6) dX7_heed_101 (by decide) ?_
                    refine zy_drop 6 [zf 7 252, zf 2 42, zi x, zi y, zi (o - 1), zi ((p + 1 : Nat) : Int), zu, zi (zb (0 ≤ (((σ.1 49 p).toNat : Nat) : Int) ∧ (((σ.1 49 p).toNat : Nat) : Int) < τ.1 42 0 ∧ τ.1 47 ((σ.1 49 p).toNat) = 0)), zi 1] rfl ?_
                    refine zy_drop 7 [zf 7 252, zf 2 42, zi x, zi y, zi (o - 1), zi ((p + 1 : Nat) : Int), zu, zu, zi 1] rfl ?_
                    refine zy_drop 8 [zf 7 252, zf 2 42, zi x, zi y, zi (o - 1), zi ((p + 1 : Nat) : Int), zu, zu, zu] rfl ?_
                    exact ih6 (zput τ 253 ((σ.1 49 p).toNat) 0) (p + 1) (o - 1) (zOK_put hz (by unfold zr; omega)) (by first | assumption | omega) (by have e : U (bk σ 30) (p + 1) = U (bk σ 30) p + zb (σ.1 47 (σ.1 49 p).toNat = 0) := rfl; have z0 := @zb_0 (σ.1 47 (σ.1 49 p).toNat = 0); have z1 := zb_01 (σ.1 47 (σ.1 49 p).toNat = 0); omega) (by first | exact h1 | exact ⟨fun q hq i => by have hq2 := hq; dsimp only at hq2; exact (zput_k _ _ _ _ _ (by omega)).trans (h1.1 q hq i), h1.2⟩) (by first
                            | (exfalso; omega)
                            | exact (fun q hq => by
                                rcases Nat.lt_succ_iff_lt_or_eq.mp hq with q1 | rfl
                                · exact (zput_i _ _ _ _ _ (fun e => absurd (WFo_inj hW.2.2.2.2.2 (show (q : Int) < bk σ 30 12 0 by show (q : Int) < σ.1 42 0; omega) hpK e) (by omega))).trans (h2 q q1)
                                · refine (zput_s _ _ _ _).trans ?_
                                  first
                                  | exact (zb_t (hH.mpr (by omega))).symm
                                  | exact (zb_f (fun q => by have := hH.mp q; omega)).symm)) (by omega)
                · refine zx_iconst dX7_heed_84 ?_
                  refine zx_goto (tgt := 89) dX7_heed_85 (by decide) ?_
                  refine zy_zast (i := (σ.1 49 p).toNat) rfl (by decide) (by decide) dX7_heed_89 (Or.inr rfl) (by omega) (by omega) rfl ?_
                  refine zx_iload dX7_heed_90 rfl ?_
                  refine zx_if_eq (tgt := 98) (by first | exact hz _ _ | assumption | exact zr_b _ | exact zcmp_r _ _ | (unfold zr at *; omega)) dX7_heed_92 (by decide) (fun h92 => ?_) (fun h92 => ?_)
                  · have h92 := zb_0.mp h92
                    refine zy_iinc (b := ((p + 1 : Nat) : Int)) [zf 7 252, zf 2 42, zi x, zi y, zi o, zi ((p + 1 : Nat) : Int), zi (((σ.1 49 p).toNat : Nat) : Int), zi (zb (0 ≤ (((σ.1 49 p).toNat : Nat) : Int) ∧ (((σ.1 49 p).toNat : Nat) : Int) < τ.1 42 0 ∧ τ.1 47 ((σ.1 49 p).toNat) = 0)), zi 1] dX7_heed_98 rfl (by omega) (Nat.le_of_ble_eq_true rfl) rfl rfl ?_
                    refine zx_goto (tgt := 6) dX7_heed_101 (by decide) ?_
                    refine zy_drop 6 [zf 7 252, zf 2 42, zi x, zi y, zi o, zi ((p + 1 : Nat) : Int), zu, zi (zb (0 ≤ (((σ.1 49 p).toNat : Nat) : Int) ∧ (((σ.1 49 p).toNat : Nat) : Int) < τ.1 42 0 ∧ τ.1 47 ((σ.1 49 p).toNat) = 0)), zi 1] rfl ?_
                    refine zy_drop 7 [zf 7 252, zf 2 42, zi x, zi y, zi o, zi ((p + 1 : Nat) : Int), zu, zu, zi 1] rfl ?_
                    refine zy_drop 8 [zf 7 252, zf 2 42, zi x, zi y, zi o, zi ((p + 1 : Nat) : Int), zu, zu, zu] rfl ?_
                    exact ih6 (zput τ 253 ((σ.1 49 p).toNat) 1) (p + 1) o (zOK_put hz (by unfold zr; omega)) (by first | assumption | omega) (by have e : U (bk σ 30) (p + 1) = U (bk σ 30) p + zb (σ.1 47 (σ.1 49 p).toNat = 0) := rfl; have z0 := @zb_0 (σ.1 47 (σ.1 49 p).toNat = 0); have z1 := zb_01 (σ.1 47 (σ.1 49 p).toNat = 0); omega) (by first | exact h1 | exact ⟨fun q hq i => by have hq2 := hq; dsimp only at hq2; exact (zput_k _ _ _ _ _ (by omega)).trans (h1.1 q hq i), h1.2⟩) (by first
                            | (exfalso; omega)
                            | exact (fun q hq => by
                                rcases Nat.lt_succ_iff_lt_or_eq.mp hq with q1 | rfl
                                · exact (zput_i _ _ _ _ _ (fun e => absurd (WFo_inj hW.2.2.2.2.2 (show (q : Int) < bk σ 30 12 0 by show (q : Int) < σ.1 42 0; omega) hpK e) (by omega))).trans (h2 q q1)
                                · refine (zput_s _ _ _ _).trans ?_
                                  first
                                  | exact (zb_t (hH.mpr (by omega))).symm
                                  | exact (zb_f (fun q => by have := hH.mp q; omega)).symm)) (by omega)
                  · have h92 := zb_n.mp h92
                    refine zy_iinc (b := o - 1) [zf 7 252, zf 2 42, zi x, zi y, zi (o - 1), zi ((p : Nat) : Int), zi (((σ.1 49 p).toNat : Nat) : Int), zi (zb (0 ≤ (((σ.1 49 p).toNat : Nat) : Int) ∧ (((σ.1 49 p).toNat : Nat) : Int) < τ.1 42 0 ∧ τ.1 47 ((σ.1 49 p).toNat) = 0)), zi 1] dX7_heed_95 rfl (by omega) (Nat.le_of_ble_eq_true rfl) rfl rfl ?_
                    refine zy_iinc (b := ((p + 1 : Nat) : Int)) [zf 7 252, zf 2 42, zi x, zi y, zi (o - 1), zi ((p + 1 : Nat) : Int), zi (((σ.1 49 p).toNat : Nat) : Int), zi (zb (0 ≤ (((σ.1 49 p).toNat : Nat) : Int) ∧ (((σ.1 49 p).toNat : Nat) : Int) < τ.1 42 0 ∧ τ.1 47 ((σ.1 49 p).toNat) = 0)), zi 1] dX7_heed_98 rfl (by omega) (Nat.le_of_ble_eq_true rfl) rfl rfl ?_
                    refine zx_goto (tgt := 6) dX7_heed_101 (by decide) ?_
                    refine zy_drop 6 [zf 7 252, zf 2 42, zi x, zi y, zi (o - 1), zi ((p + 1 : Nat) : Int), zu, zi (zb (0 ≤ (((σ.1 49 p).toNat : Nat) : Int) ∧ (((σ.1 49 p).toNat : Nat) : Int) < τ.1 42 0 ∧ τ.1 47 ((σ.1 49 p).toNat) = 0)), zi 1] rfl ?_
                    refine zy_drop 7 [zf 7 252, zf 2 42, zi x, zi y, zi (o - 1), zi ((p + 1 : Nat) : Int), zu, zu, zi 1] rfl ?_
                    refine zy_drop 8 [zf 7 252, zf 2 42, zi x, zi y, zi (o - 1), zi ((p + 1 : Nat) : Int), zu, zu, zu] rfl ?_
                    exact ih6 (zput τ 253 ((σ.1 49 p).toNat) 1) (p + 1) (o - 1) (zOK_put hz (by unfold zr; omega)) (by first | assumption | omega) (by have e : U (bk σ 30) (p + 1) = U (bk σ 30) p + zb (σ.1 47 (σ.1 49 p).toNat = 0) := rfl; have z0 := @zb_0 (σ.1 47 (σ.1 49 p).toNat = 0); have z1 := zb_01 (σ.1 47 (σ.1 49 p).toNat = 0); omega) (by first | exact h1 | exact ⟨fun q hq i => by have hq2 := hq; dsimp only at hq2; exact (zput_k _ _ _ _ _ (by omega)).trans (h1.1 q hq i), h1.2⟩) (by first
                            | (exfalso; omega)
                            | exact (fun q hq => by
                                rcases Nat.lt_succ_iff_lt_or_eq.mp hq with q1 | rfl
                                · exact (zput_i _ _ _ _ _ (fun e => absurd (WFo_inj hW.2.2.2.2.2 (show (q : Int) < bk σ 30 12 0 by show (q : Int) < σ.1 42 0; omega) hpK e) (by omega))).trans (h2 q q1)
                                · refine (zput_s _ _ _ _).trans ?_
                                  first
                                  | exact (zb_t (hH.mpr (by omega))).symm
                                  | exact (zb_f (fun q => by have := hH.mp q; omega)).symm)) (by omega)
          · have h42 := zb_n.mp h42
            refine zx_iload dX7_heed_45 rfl ?_
            refine zx_if_le (tgt := 54) (by first | exact hz _ _ | assumption | exact zr_b _ | exact zcmp_r _ _ | (unfold zr at *; omega)) dX7_heed_47 (by decide) (fun h47 => ?_) (fun h47 => ?_)
            · refine zx_iconst dX7_heed_54 ?_
              refine zy_istore [zf 7 252, zf 2 42, zi x, zi y, zi o, zi ((p : Nat) : Int), zi (((σ.1 49 p).toNat : Nat) : Int), zi (zb (0 ≤ (((σ.1 49 p).toNat : Nat) : Int) ∧ (((σ.1 49 p).toNat : Nat) : Int) < τ.1 42 0 ∧ τ.1 47 ((σ.1 49 p).toNat) = 0)), zi 0] dX7_heed_55 (Nat.le_of_ble_eq_true rfl) (Nat.le_of_ble_eq_true rfl) rfl rfl ?_
              refine zx_aloadN dX7_heed_57 rfl rfl ?_
              refine zy_getR (q' := 253) fl_RX7_9 rfl dX7_heed_58 rfl ?_
              refine zx_iload dX7_heed_61 rfl ?_
              refine zx_iload dX7_heed_63 rfl ?_
              refine zx_if_eq (tgt := 88) (by unfold zr; omega) dX7_heed_65 (by decide) (fun h65 => ?_) (fun h65 => ?_)
              · refine zx_iconst dX7_heed_88 ?_
                refine zy_zast (i := (σ.1 49 p).toNat) rfl (by decide) (by decide) dX7_heed_89 (Or.inl rfl) (by omega) (by omega) rfl ?_
                refine zx_iload dX7_heed_90 rfl ?_
                refine zx_if_eq (tgt := 98) (by first | exact hz _ _ | assumption | exact zr_b _ | exact zcmp_r _ _ | (unfold zr at *; omega)) dX7_heed_92 (by decide) (fun h92 => ?_) (fun h92 => ?_)
                · have h92 := zb_0.mp h92
                  refine zy_iinc (b := ((p + 1 : Nat) : Int)) [zf 7 252, zf 2 42, zi x, zi y, zi o, zi ((p + 1 : Nat) : Int), zi (((σ.1 49 p).toNat : Nat) : Int), zi (zb (0 ≤ (((σ.1 49 p).toNat : Nat) : Int) ∧ (((σ.1 49 p).toNat : Nat) : Int) < τ.1 42 0 ∧ τ.1 47 ((σ.1 49 p).toNat) = 0)), zi 0] dX7_heed_98 rfl (by omega) (Nat.le_of_ble_eq_true rfl) rfl rfl ?_
                  refine zx_goto (tgt := 6) dX7_heed_101 (by decide) ?_
                  refine zy_drop 6 [zf 7 252, zf 2 42, zi x, zi y, zi o, zi ((p + 1 : Nat) : Int), zu, zi (zb (0 ≤ (((σ.1 49 p).toNat : Nat) : Int) ∧ (((σ.1 49 p).toNat : Nat) : Int) < τ.1 42 0 ∧ τ.1 47 ((σ.1 49 p).toNat) = 0)), zi 0] rfl ?_
                  refine zy_drop 7 [zf 7 252, zf 2 42, zi x, zi y, zi o, zi ((p + 1 : Nat) : Int), zu, zu, zi 0] rfl ?_
                  refine zy_drop 8 [zf 7 252, zf 2 42, zi x, zi y, zi o, zi ((p + 1 : Nat) : Int), zu, zu, zu] rfl ?_
                  exact ih6 (zput τ 253 ((σ.1 49 p).toNat) 0) (p + 1) o (zOK_put hz (by unfold zr; omega)) (by first | assumption | omega) (by have e : U (bk σ 30) (p + 1) = U (bk σ 30) p + zb (σ.1 47 (σ.1 49 p).toNat = 0) := rfl; have z0 := @zb_0 (σ.1 47 (σ.1 49 p).toNat = 0); have z1 := zb_01 (σ.1 47 (σ.1 49 p).toNat = 0); omega) (by first | exact h1 | exact ⟨fun q hq i => by have hq2 := hq; dsimp only at hq2; exact (zput_k _ _ _ _ _ (by omega)).trans (h1.1 q hq i), h1.2⟩) (by first
                          | (exfalso; omega)
                          | exact (fun q hq => by
                              rcases Nat.lt_succ_iff_lt_or_eq.mp hq with q1 | rfl
                              · exact (zput_i _ _ _ _ _ (fun e => absurd (WFo_inj hW.2.2.2.2.2 (show (q : Int) < bk σ 30 12 0 by show (q : Int) < σ.1 42 0; omega) hpK e) (by omega))).trans (h2 q q1)
                              · refine (zput_s _ _ _ _).trans ?_
                                first
                                | exact (zb_t (hH.mpr (by omega))).symm
                                | exact (zb_f (fun q => by have := hH.mp q; omega)).symm)) (by omega)
                · have h92 := zb_n.mp h92
                  refine zy_iinc (b := o - 1) [zf 7 252, zf 2 42, zi x, zi y, zi (o - 1), zi ((p : Nat) : Int), zi (((σ.1 49 p).toNat : Nat) : Int), zi (zb (0 ≤ (((σ.1 49 p).toNat : Nat) : Int) ∧ (((σ.1 49 p).toNat : Nat) : Int) < τ.1 42 0 ∧ τ.1 47 ((σ.1 49 p).toNat) = 0)), zi 0] dX7_heed_95 rfl (by omega) (Nat.le_of_ble_eq_true rfl) rfl rfl ?_
                  refine zy_iinc (b := ((p + 1 : Nat) : Int)) [zf 7 252, zf 2 42, zi x, zi y, zi (o - 1), zi ((p + 1 : Nat) : Int), zi (((σ.1 49 p).toNat : Nat) : Int), zi (zb (0 ≤ (((σ.1 49 p).toNat : Nat) : Int) ∧ (((σ.1 49 p).toNat : Nat) : Int) < τ.1 42 0 ∧ τ.1 47 ((σ.1 49 p).toNat) = 0)), zi 0] dX7_heed_98 rfl (by omega) (Nat.le_of_ble_eq_true rfl) rfl rfl ?_
                  refine zx_goto (tgt := 6) dX7_heed_101 (by decide) ?_
                  refine zy_drop 6 [zf 7 252, zf 2 42, zi x, zi y, zi (o - 1), zi ((p + 1 : Nat) : Int), zu, zi (zb (0 ≤ (((σ.1 49 p).toNat : Nat) : Int) ∧ (((σ.1 49 p).toNat : Nat) : Int) < τ.1 42 0 ∧ τ.1 47 ((σ.1 49 p).toNat) = 0)), zi 0] rfl ?_
                  refine zy_drop 7 [zf 7 252, zf 2 42, zi x, zi y, zi (o - 1), zi ((p + 1 : Nat) : Int), zu, zu, zi 0] rfl ?_
                  refine zy_drop 8 [zf 7 252, zf 2 42, zi x, zi y, zi (o - 1), zi ((p + 1 : Nat) : Int), zu, zu, zu] rfl ?_
                  exact ih6 (zput τ 253 ((σ.1 49 p).toNat) 0) (p + 1) (o - 1) (zOK_put hz (by unfold zr; omega)) (by first | assumption | omega) (by have e : U (bk σ 30) (p + 1) = U (bk σ 30) p + zb (σ.1 47 (σ.1 49 p).toNat = 0) := rfl; have z0 := @zb_0 (σ.1 47 (σ.1 49 p).toNat = 0); have z1 := zb_01 (σ.1 47 (σ.1 49 p).toNat = 0); omega) (by first | exact h1 | exact ⟨fun q hq i => by have hq2 := hq; dsimp only at hq2; exact (zput_k _ _ _ _ _ (by omega)).trans (h1.1 q hq i), h1.2⟩) (by first
                          | (exfalso; omega)
                          | exact (fun q hq => by
                              rcases Nat.lt_succ_iff_lt_or_eq.mp hq with q1 | rfl
                              · exact (zput_i _ _ _ _ _ (fun e => absurd (WFo_inj hW.2.2.2.2.2 (show (q : Int) < bk σ 30 12 0 by show (q : Int) < σ.1 42 0; omega) hpK e) (by omega))).trans (h2 q q1)
                              · refine (zput_s _ _ _ _).trans ?_
                                first
                                | exact (zb_t (hH.mpr (by omega))).symm
                                | exact (zb_f (fun q => by have := hH.mp q; omega)).symm)) (by omega)
              · exact absurd h65 (by decide)
            · refine zx_iconst dX7_heed_50 ?_
              refine zx_goto (tgt := 55) dX7_heed_51 (by decide) ?_
              refine zy_istore [zf 7 252, zf 2 42, zi x, zi y, zi o, zi ((p : Nat) : Int), zi (((σ.1 49 p).toNat : Nat) : Int), zi (zb (0 ≤ (((σ.1 49 p).toNat : Nat) : Int) ∧ (((σ.1 49 p).toNat : Nat) : Int) < τ.1 42 0 ∧ τ.1 47 ((σ.1 49 p).toNat) = 0)), zi 1] dX7_heed_55 (Nat.le_of_ble_eq_true rfl) (Nat.le_of_ble_eq_true rfl) rfl rfl ?_
              refine zx_aloadN dX7_heed_57 rfl rfl ?_
              refine zy_getR (q' := 253) fl_RX7_9 rfl dX7_heed_58 rfl ?_
              refine zx_iload dX7_heed_61 rfl ?_
              refine zx_iload dX7_heed_63 rfl ?_
              refine zx_if_eq (tgt := 88) (by unfold zr; omega) dX7_heed_65 (by decide) (fun h65 => ?_) (fun h65 => ?_)
              · exact absurd h65 (by decide)
              · refine zx_aloadN dX7_heed_68 rfl rfl ?_
                refine zy_getR (q' := 48) fl_RX7_84 rfl dX7_heed_69 rfl ?_
                refine zx_iload dX7_heed_72 rfl ?_
                refine zy_zald (v := τ.1 48 ((σ.1 49 p).toNat)) rfl (by decide) (by decide) dX7_heed_74 (by omega) (by omega) rfl ?_
                refine zx_if_ne (tgt := 88) (by first | exact hz _ _ | assumption | exact zr_b _ | exact zcmp_r _ _ | (unfold zr at *; omega)) dX7_heed_75 (by decide) (fun h75 => ?_) (fun h75 => ?_)
                · refine zx_iconst dX7_heed_88 ?_
                  refine zy_zast (i := (σ.1 49 p).toNat) rfl (by decide) (by decide) dX7_heed_89 (Or.inl rfl) (by omega) (by omega) rfl ?_
                  refine zx_iload dX7_heed_90 rfl ?_
                  refine zx_if_eq (tgt := 98) (by first | exact hz _ _ | assumption | exact zr_b _ | exact zcmp_r _ _ | (unfold zr at *; omega)) dX7_heed_92 (by decide) (fun h92 => ?_) (fun h92 => ?_)
                  · have h92 := zb_0.mp h92
                    refine zy_iinc (b := ((p + 1 : Nat) : Int)) [zf 7 252, zf 2 42, zi x, zi y, zi o, zi ((p + 1 : Nat) : Int), zi (((σ.1 49 p).toNat : Nat) : Int), zi (zb (0 ≤ (((σ.1 49 p).toNat : Nat) : Int) ∧ (((σ.1 49 p).toNat : Nat) : Int) < τ.1 42 0 ∧ τ.1 47 ((σ.1 49 p).toNat) = 0)), zi 1] dX7_heed_98 rfl (by omega) (Nat.le_of_ble_eq_true rfl) rfl rfl ?_
                    refine zx_goto (tgt := 6) dX7_heed_101 (by decide) ?_
                    refine zy_drop 6 [zf 7 252, zf 2 42, zi x, zi y, zi o, zi ((p + 1 : Nat) : Int), zu, zi (zb (0 ≤ (((σ.1 49 p).toNat : Nat) : Int) ∧ (((σ.1 49 p).toNat : Nat) : Int) < τ.1 42 0 ∧ τ.1 47 ((σ.1 49 p).toNat) = 0)), zi 1] rfl ?_
                    refine zy_drop 7 [zf 7 252, zf 2 42, zi x, zi y, zi o, zi ((p + 1 : Nat) : Int), zu, zu, zi 1] rfl ?_
                    refine zy_drop 8 [zf 7 252, zf 2 42, zi x, zi y, zi o, zi ((p + 1 : Nat) : Int), zu, zu, zu] rfl ?_
                    exact ih6 (zput τ 253 ((σ.1 49 p).toNat) 0) (p + 1) o (zOK_put hz (by unfold zr; omega)) (by first | assumption | omega) (by have e : U (bk σ 30) (p + 1) = U (bk σ 30) p + zb (σ.1 47 (σ.1 49 p).toNat = 0) := rfl; have z0 := @zb_0 (σ.1 47 (σ.1 49 p).toNat = 0); have z1 := zb_01 (σ.1 47 (σ.1 49 p).toNat = 0); omega) (by first | exact h1 | exact ⟨fun q hq i => by have hq2 := hq; dsimp only at hq2; exact (zput_k _ _ _ _ _ (by omega)).trans (h1.1 q hq i), h1.2⟩) (by first
                            | (exfalso; omega)
                            | exact (fun q hq => by
                                rcases Nat.lt_succ_iff_lt_or_eq.mp hq with q1 | rfl
                                · exact (zput_i _ _ _ _ _ (fun e => absurd (WFo_inj hW.2.2.2.2.2 (show (q : Int) < bk σ 30 12 0 by show (q : Int) < σ.1 42 0; omega) hpK e) (by omega))).trans (h2 q q1)
                                · refine (zput_s _ _ _ _).trans ?_
                                  first
                                  | exact (zb_t (hH.mpr (by omega))).symm
                                  | exact (zb_f (fun q => by have := hH.mp q; omega)).symm)) (by omega)
                  · have h92 := zb_n.mp h92
                    refine zy_iinc (b := o - 1) [zf 7 252, zf 2 42, zi x, zi y, zi (o - 1), zi ((p : Nat) : Int), zi (((σ.1 49 p).toNat : Nat) : Int), zi (zb (0 ≤ (((σ.1 49 p).toNat : Nat) : Int) ∧ (((σ.1 49 p).toNat : Nat) : Int) < τ.1 42 0 ∧ τ.1 47 ((σ.1 49 p).toNat) = 0)), zi 1] dX7_heed_95 rfl (by omega) (Nat.le_of_ble_eq_true rfl) rfl rfl ?_
                    refine zy_iinc (b := ((p + 1 : Nat) : Int)) [zf 7 252, zf 2 42, zi x, zi y, zi (o - 1), zi ((p + 1 : Nat) : Int), zi (((σ.1 49 p).toNat : Nat) : Int), zi (zb (0 ≤ (((σ.1 49 p).toNat : Nat) : Int) ∧ (((σ.1 49 p).toNat : Nat) : Int) < τ.1 42 0 ∧ τ.1 47 ((σ.1 49 p).toNat) = 0)), zi 1] dX7_heed_98 rfl (by omega) (Nat.le_of_ble_eq_true rfl) rfl rfl ?_
                    refine zx_goto (tgt := 6) dX7_heed_101 (by decide) ?_
                    refine zy_drop 6 [zf 7 252, zf 2 42, zi x, zi y, zi (o - 1), zi ((p + 1 : Nat) : Int), zu, zi (zb (0 ≤ (((σ.1 49 p).toNat : Nat) : Int) ∧ (((σ.1 49 p).toNat : Nat) : Int) < τ.1 42 0 ∧ τ.1 47 ((σ.1 49 p).toNat) = 0)), zi 1] rfl ?_
                    refine zy_drop 7 [zf 7 252, zf 2 42, zi x, zi y, zi (o - 1), zi ((p + 1 : Nat) : Int), zu, zu, zi 1] rfl ?_
                    refine zy_drop 8 [zf 7 252, zf 2 42, zi x, zi y, zi (o - 1), zi ((p + 1 : Nat) : Int), zu, zu, zu] rfl ?_
                    exact ih6 (zput τ 253 ((σ.1 49 p).toNat) 0) (p + 1) (o - 1) (zOK_put hz (by unfold zr; omega)) (by first | assumption | omega) (by have e : U (bk σ 30) (p + 1) = U (bk σ 30) p + zb (σ.1 47 (σ.1 49 p).toNat = 0) := rfl; have z0 := @zb_0 (σ.1 47 (σ.1 49 p).toNat = 0); have z1 := zb_01 (σ.1 47 (σ.1 49 p).toNat = 0); omega) (by first | exact h1 | exact ⟨fun q hq i => by have hq2 := hq; dsimp only at hq2; exact (zput_k _ _ _ _ _ (by omega)).trans (h1.1 q hq i), h1.2⟩) (by first
                            | (exfalso; omega)
                            | exact (fun q hq => by
                                rcases Nat.lt_succ_iff_lt_or_eq.mp hq with q1 | rfl
                                · exact (zput_i _ _ _ _ _ (fun e => absurd (WFo_inj hW.2.2.2.2.2 (show (q : Int) < bk σ 30 12 0 by show (q : Int) < σ.1 42 0; omega) hpK e) (by omega))).trans (h2 q q1)
                                · refine (zput_s _ _ _ _).trans ?_
                                  first
                                  | exact (zb_t (hH.mpr (by omega))).symm
                                  | exact (zb_f (fun q => by have := hH.mp q; omega)).symm)) (by omega)
                · refine zx_iload dX7_heed_78 rfl ?_
                  refine zx_iloadN dX7_heed_80 rfl rfl ?_
                  refine zx_icmp_eq (tgt := 88) (by first | exact hz _ _ | assumption | exact zr_b _ | exact zcmp_r _ _ | (unfold zr at *; omega)) (by first | exact hz _ _ | assumption | exact zr_b _ | exact zcmp_r _ _ | (unfold zr at *; omega)) dX7_heed_81 (by decide) (fun h81 => ?_) (fun h81 => ?_)
                  · refine zx_iconst dX7_heed_88 ?_
                    refine zy_zast (i := (σ.1 49 p).toNat) rfl (by decide) (by decide) dX7_heed_89 (Or.inl rfl) (by omega) (by omega) rfl ?_
                    refine zx_iload dX7_heed_90 rfl ?_
                    refine zx_if_eq (tgt := 98) (by first | exact hz _ _ | assumption | exact zr_b _ | exact zcmp_r _ _ | (unfold zr at *; omega)) dX7_heed_92 (by decide) (fun h92 => ?_) (fun h92 => ?_)
                    · have h92 := zb_0.mp h92
                      refine zy_iinc (b := ((p + 1 : Nat) : Int)) [zf 7 252, zf 2 42, zi x, zi y, zi o, zi ((p + 1 : Nat) : Int), zi (((σ.1 49 p).toNat : Nat) : Int), zi (zb (0 ≤ (((σ.1 49 p).toNat : Nat) : Int) ∧ (((σ.1 49 p).toNat : Nat) : Int) < τ.1 42 0 ∧ τ.1 47 ((σ.1 49 p).toNat) = 0)), zi 1] dX7_heed_98 rfl (by omega) (Nat.le_of_ble_eq_true rfl) rfl rfl ?_
                      refine zx_goto (tgt := 6) dX7_heed_101 (by decide) ?_
                      refine zy_drop 6 [zf 7 252, zf 2 42, zi x, zi y, zi o, zi ((p + 1 : Nat) : Int), zu, zi (zb (0 ≤ (((σ.1 49 p).toNat : Nat) : Int) ∧ (((σ.1 49 p).toNat : Nat) : Int) < τ.1 42 0 ∧ τ.1 47 ((σ.1 49 p).toNat) = 0)), zi 1] rfl ?_
                      refine zy_drop 7 [zf 7 252, zf 2 42, zi x, zi y, zi o, zi ((p + 1 : Nat) : Int), zu, zu, zi 1] rfl ?_
                      refine zy_drop 8 [zf 7 252, zf 2 42, zi x, zi y, zi o, zi ((p + 1 : Nat) : Int), zu, zu, zu] rfl ?_
                      exact ih6 (zput τ 253 ((σ.1 49 p).toNat) 0) (p + 1) o (zOK_put hz (by unfold zr; omega)) (by first | assumption | omega) (by have e : U (bk σ 30) (p + 1) = U (bk σ 30) p + zb (σ.1 47 (σ.1 49 p).toNat = 0) := rfl; have z0 := @zb_0 (σ.1 47 (σ.1 49 p).toNat = 0); have z1 := zb_01 (σ.1 47 (σ.1 49 p).toNat = 0); omega) (by first | exact h1 | exact ⟨fun q hq i => by have hq2 := hq; dsimp only at hq2; exact (zput_k _ _ _ _ _ (by omega)).trans (h1.1 q hq i), h1.2⟩) (by first
                              | (exfalso; omega)
                              | exact (fun q hq => by
                                  rcases Nat.lt_succ_iff_lt_or_eq.mp hq with q1 | rfl
                                  · exact (zput_i _ _ _ _ _ (fun e => absurd (WFo_inj hW.2.2.2.2.2 (show (q : Int) < bk σ 30 12 0 by show (q : Int) < σ.1 42 0; omega) hpK e) (by omega))).trans (h2 q q1)
                                  · refine (zput_s _ _ _ _).trans ?_
                                    first
                                    | exact (zb_t (hH.mpr (by omega))).symm
                                    | exact (zb_f (fun q => by have := hH.mp q; omega)).symm)) (by omega)
                    · have h92 := zb_n.mp h92
                      refine zy_iinc (b := o - 1) [zf 7 252, zf 2 42, zi x, zi y, zi (o - 1), zi ((p : Nat) : Int), zi (((σ.1 49 p).toNat : Nat) : Int), zi (zb (0 ≤ (((σ.1 49 p).toNat : Nat) : Int) ∧ (((σ.1 49 p).toNat : Nat) : Int) < τ.1 42 0 ∧ τ.1 47 ((σ.1 49 p).toNat) = 0)), zi 1] dX7_heed_95 rfl (by omega) (Nat.le_of_ble_eq_true rfl) rfl rfl ?_
                      refine zy_iinc (b := ((p + 1 : Nat) : Int)) [zf 7 252, zf 2 42, zi x, zi y, zi (o - 1), zi ((p + 1 : Nat) : Int), zi (((σ.1 49 p).toNat : Nat) : Int), zi (zb (0 ≤ (((σ.1 49 p).toNat : Nat) : Int) ∧ (((σ.1 49 p).toNat : Nat) : Int) < τ.1 42 0 ∧ τ.1 47 ((σ.1 49 p).toNat) = 0)), zi 1] dX7_heed_98 rfl (by omega) (Nat.le_of_ble_eq_true rfl) rfl rfl ?_
                      refine zx_goto (tgt := 6) dX7_heed_101 (by decide) ?_
                      refine zy_drop 6 [zf 7 252, zf 2 42, zi x, zi y, zi (o - 1), zi ((p + 1 : Nat) : Int), zu, zi (zb (0 ≤ (((σ.1 49 p).toNat : Nat) : Int) ∧ (((σ.1 49 p).toNat : Nat) : Int) < τ.1 42 0 ∧ τ.1 47 ((σ.1 49 p).toNat) = 0)), zi 1] rfl ?_
                      refine zy_drop 7 [zf 7 252, zf 2 42, zi x, zi y, zi (o - 1), zi ((p + 1 : Nat) : Int), zu, zu, zi 1] rfl ?_
                      refine zy_drop 8 [zf 7 252, zf 2 42, zi x, zi y, zi (o - 1), zi ((p + 1 : Nat) : Int), zu, zu, zu] rfl ?_
                      exact ih6 (zput τ 253 ((σ.1 49 p).toNat) 0) (p + 1) (o - 1) (zOK_put hz (by unfold zr; omega)) (by first | assumption | omega) (by have e : U (bk σ 30) (p + 1) = U (bk σ 30) p + zb (σ.1 47 (σ.1 49 p).toNat = 0) := rfl; have z0 := @zb_0 (σ.1 47 (σ.1 49 p).toNat = 0); have z1 := zb_01 (σ.1 47 (σ.1 49 p).toNat = 0); omega) (by first | exact h1 | exact ⟨fun q hq i => by have hq2 := hq; dsimp only at hq2; exact (zput_k _ _ _ _ _ (by omega)).trans (h1.1 q hq i), h1.2⟩) (by first
                              | (exfalso; omega)
                              | exact (fun q hq => by
                                  rcases Nat.lt_succ_iff_lt_or_eq.mp hq with q1 | rfl
                                  · exact (zput_i _ _ _ _ _ (fun e => absurd (WFo_inj hW.2.2.2.2.2 (show (q : Int) < bk σ 30 12 0 by show (q : Int) < σ.1 42 0; omega) hpK e) (by omega))).trans (h2 q q1)
                                  · refine (zput_s _ _ _ _).trans ?_
                                    first
                                    | exact (zb_t (hH.mpr (by omega))).symm
                                    | exact (zb_f (fun q => by have := hH.mp q; omega)).symm)) (by omega)
                  · refine zx_iconst dX7_heed_84 ?_
                    refine zx_goto (tgt := 89) dX7_heed_85 (by decide) ?_
                    refine zy_zast (i := (σ.1 49 p).toNat) rfl (by decide) (by decide) dX7_heed_89 (Or.inr rfl) (by omega) (by omega) rfl ?_
                    refine zx_iload dX7_heed_90 rfl ?_
                    refine zx_if_eq (tgt := 98) (by first | exact hz _ _ | assumption | exact zr_b _ | exact zcmp_r _ _ | (unfold zr at *; omega)) dX7_heed_92 (by decide) (fun h92 => ?_) (fun h92 => ?_)
                    · have h92 := zb_0.mp h92
                      refine zy_iinc (b := ((p + 1 : Nat) : Int)) [zf 7 252, zf 2 42, zi x, zi y, zi o, zi ((p + 1 : Nat) : Int), zi (((σ.1 49 p).toNat : Nat) : Int), zi (zb (0 ≤ (((σ.1 49 p).toNat : Nat) : Int) ∧ (((σ.1 49 p).toNat : Nat) : Int) < τ.1 42 0 ∧ τ.1 47 ((σ.1 49 p).toNat) = 0)), zi 1] dX7_heed_98 rfl (by omega) (Nat.le_of_ble_eq_true rfl) rfl rfl ?_
                      refine zx_goto (tgt := 6) dX7_heed_101 (by decide) ?_
                      refine zy_drop 6 [zf 7 252, zf 2 42, zi x, zi y, zi o, zi ((p + 1 : Nat) : Int), zu, zi (zb (0 ≤ (((σ.1 49 p).toNat : Nat) : Int) ∧ (((σ.1 49 p).toNat : Nat) : Int) < τ.1 42 0 ∧ τ.1 47 ((σ.1 49 p).toNat) = 0)), zi 1] rfl ?_
                      refine zy_drop 7 [zf 7 252, zf 2 42, zi x, zi y, zi o, zi ((p + 1 : Nat) : Int), zu, zu, zi 1] rfl ?_
                      refine zy_drop 8 [zf 7 252, zf 2 42, zi x, zi y, zi o, zi ((p + 1 : Nat) : Int), zu, zu, zu] rfl ?_
                      exact ih6 (zput τ 253 ((σ.1 49 p).toNat) 1) (p + 1) o (zOK_put hz (by unfold zr; omega)) (by first | assumption | omega) (by have e : U (bk σ 30) (p + 1) = U (bk σ 30) p + zb (σ.1 47 (σ.1 49 p).toNat = 0) := rfl; have z0 := @zb_0 (σ.1 47 (σ.1 49 p).toNat = 0); have z1 := zb_01 (σ.1 47 (σ.1 49 p).toNat = 0); omega) (by first | exact h1 | exact ⟨fun q hq i => by have hq2 := hq; dsimp only at hq2; exact (zput_k _ _ _ _ _ (by omega)).trans (h1.1 q hq i), h1.2⟩) (by first
                              | (exfalso; omega)
                              | exact (fun q hq => by
                                  rcases Nat.lt_succ_iff_lt_or_eq.mp hq with q1 | rfl
                                  · exact (zput_i _ _ _ _ _ (fun e => absurd (WFo_inj hW.2.2.2.2.2 (show (q : Int) < bk σ 30 12 0 by show (q : Int) < σ.1 42 0; omega) hpK e) (by omega))).trans (h2 q q1)
                                  · refine (zput_s _ _ _ _).trans ?_
                                    first
                                    | exact (zb_t (hH.mpr (by omega))).symm
                                    | exact (zb_f (fun q => by have := hH.mp q; omega)).symm)) (by omega)
                    · have h92 := zb_n.mp h92
                      refine zy_iinc (b := o - 1) [zf 7 252, zf 2 42, zi x, zi y, zi (o - 1), zi ((p : Nat) : Int), zi (((σ.1 49 p).toNat : Nat) : Int), zi (zb (0 ≤ (((σ.1 49 p).toNat : Nat) : Int) ∧ (((σ.1 49 p).toNat : Nat) : Int) < τ.1 42 0 ∧ τ.1 47 ((σ.1 49 p).toNat) = 0)), zi 1] dX7_heed_95 rfl (by omega) (Nat.le_of_ble_eq_true rfl) rfl rfl ?_
                      refine zy_iinc (b := ((p + 1 : Nat) : Int)) [zf 7 252, zf 2 42, zi x, zi y, zi (o - 1), zi ((p + 1 : Nat) : Int), zi (((σ.1 49 p).toNat : Nat) : Int), zi (zb (0 ≤ (((σ.1 49 p).toNat : Nat) : Int) ∧ (((σ.1 49 p).toNat : Nat) : Int) < τ.1 42 0 ∧ τ.1 47 ((σ.1 49 p).toNat) = 0)), zi 1] dX7_heed_98 rfl (by omega) (Nat.le_of_ble_eq_true rfl) rfl rfl ?_
                      refine zx_goto (tgt := 6) dX7_heed_101 (by decide) ?_
                      refine zy_drop 6 [zf 7 252, zf 2 42, zi x, zi y, zi (o - 1), zi ((p + 1 : Nat) : Int), zu, zi (zb (0 ≤ (((σ.1 49 p).toNat : Nat) : Int) ∧ (((σ.1 49 p).toNat : Nat) : Int) < τ.1 42 0 ∧ τ.1 47 ((σ.1 49 p).toNat) = 0)), zi 1] rfl ?_
                      refine zy_drop 7 [zf 7 252, zf 2 42, zi x, zi y, zi (o - 1), zi ((p + 1 : Nat) : Int), zu, zu, zi 1] rfl ?_
                      refine zy_drop 8 [zf 7 252, zf 2 42, zi x, zi y, zi (o - 1), zi ((p + 1 : Nat) : Int), zu, zu, zu] rfl ?_
                      exact ih6 (zput τ 253 ((σ.1 49 p).toNat) 1) (p + 1) (o - 1) (zOK_put hz (by unfold zr; omega)) (by first | assumption | omega) (by have e : U (bk σ 30) (p + 1) = U (bk σ 30) p + zb (σ.1 47 (σ.1 49 p).toNat = 0) := rfl; have z0 := @zb_0 (σ.1 47 (σ.1 49 p).toNat = 0); have z1 := zb_01 (σ.1 47 (σ.1 49 p).toNat = 0); omega) (by first | exact h1 | exact ⟨fun q hq i => by have hq2 := hq; dsimp only at hq2; exact (zput_k _ _ _ _ _ (by omega)).trans (h1.1 q hq i), h1.2⟩) (by first
                              | (exfalso; omega)
                              | exact (fun q hq => by
                                  rcases Nat.lt_succ_iff_lt_or_eq.mp hq with q1 | rfl
                                  · exact (zput_i _ _ _ _ _ (fun e => absurd (WFo_inj hW.2.2.2.2.2 (show (q : Int) < bk σ 30 12 0 by show (q : Int) < σ.1 42 0; omega) hpK e) (by omega))).trans (h2 q q1)
                                  · refine (zput_s _ _ _ _).trans ?_
                                    first
                                    | exact (zb_t (hH.mpr (by omega))).symm
                                    | exact (zb_f (fun q => by have := hH.mp q; omega)).symm)) (by omega)
  exact L6 _ σ 0 x hz (by first | assumption | omega) (by show x = x - 0; omega) (zSame_rf _ _) (fun q hq => absurd hq (Nat.not_lt_zero q)) (Nat.lt_succ_self _)
set_option maxRecDepth 20000 in
set_option maxHeartbeats 2000000 in
theorem sX7_sumYears {l : Launch} {w : zW} (hfl : l.stackTraces = false) {σ : zS} {H : Nat → Prop} (hz : zOK σ) (hW : WF (bk σ 30)) (hH : ∀ c : Nat, (c : Int) < σ.1 42 0 → σ.1 253 c = zb (H c)) : Sp l w mX7_sumYears 3 0 [zf 7 252, zf 1 30] σ (zqv (none) (fun τ => zOK τ ∧ zSame (fun q => q = 254) σ τ ∧ ∀ r : Nat, r < 550 → τ.1 254 r = scY (bk σ 30) H r)) := by
  obtain ⟨Q, hQ⟩ : ∃ Q : zQ, Q = (zqv (none) (fun τ => zOK τ ∧ zSame (fun q => q = 254) σ τ ∧ ∀ r : Nat, r < 550 → τ.1 254 r = scY (bk σ 30) H r)) := ⟨_, rfl⟩
  rw [← hQ]
  refine zx_enter hfl (by decide) rfl 1 rfl ?_
  show zX l w mX7_sumYears (zMQ w 3 0 Q) 0 [zf 7 252, zf 1 30, zu] [] 0 σ
  have hP : 0 ≤ σ.1 31 0 ∧ σ.1 31 0 ≤ 8 := hW.1.1
  have hM : 0 ≤ σ.1 31 7 ∧ σ.1 31 7 ≤ 8 := hW.1.2.1
  have hK : 0 ≤ σ.1 42 0 ∧ σ.1 42 0 ≤ 40 := hW.1.2.2.2
  refine zx_aloadN dX7_sumYears_0 rfl rfl ?_
  refine zy_getR (q' := 254) fl_RX7_15 rfl dX7_sumYears_1 rfl ?_
  refine zx_iconst dX7_sumYears_4 ?_
  refine zy_csvR [zf 27 254, zi 0] (sJ7_fill_53178  hfl hz (by first | exact hz _ _ | assumption | exact zr_b _ | exact zcmp_r _ _ | (unfold zr at *; omega))) dX7_sumYears_5 cw_RX7_87 okJ7_fill_53178 rfl (Nat.le_of_ble_eq_true rfl) ⟨Nat.le_of_ble_eq_true rfl, Nat.le_of_ble_eq_true rfl, Nat.le_of_ble_eq_true rfl, Nat.le_of_ble_eq_true rfl⟩ (fun τ5 hr5 => ?_)
  have hz5 : zOK τ5 := hr5.1
  refine zx_iconst dX7_sumYears_8 ?_
  refine zy_istoreN [zf 7 252, zf 1 30, zi 0] dX7_sumYears_9 rfl (Nat.le_of_ble_eq_true rfl) (Nat.le_of_ble_eq_true rfl) rfl rfl ?_
  have L10 : ∀ (N : Nat) (τ : zS) (c : Nat), (zOK τ) → ((c : Int) ≤ σ.1 42 0) → (zSame (fun q => q = 254) σ τ) → (∀ j : Nat, j < 551 → τ.1 254 j = zs (fun d => zif (H d ∧ isY (bk σ 30) d) (dlt (rE (bk σ 30)) (rL (bk σ 30)) (bk σ 30 16) d j)) c) → (41 - c) < N → zX l w mX7_sumYears (zMQ w 3 0 Q) 10 [zf 7 252, zf 1 30, zi ((c : Nat) : Int)] [] 0 τ := by
    intro N
    induction N with
    | zero => intro τ c _ _ _ _ _; exact absurd (by assumption) (Nat.not_lt_zero _)
    | succ N ih10 =>
      intro τ c hz hc h1 h2 hN
      have c42 : τ.1 42 0 = σ.1 42 0 := h1.1 42 (by dsimp only; omega) 0
      refine zx_iloadN dX7_sumYears_10 rfl rfl ?_
      refine zx_aloadN dX7_sumYears_11 rfl rfl ?_
      refine zy_getR (q' := 42) fl_RX7_35 rfl dX7_sumYears_12 rfl ?_
      refine zy_getI fl_RX7_68 rfl dX7_sumYears_15 rfl ?_
      refine zx_icmp_ge (tgt := 96) (by first | exact hz _ _ | assumption | exact zr_b _ | exact zcmp_r _ _ | (unfold zr at *; omega)) (by first | exact hz _ _ | assumption | exact zr_b _ | exact zcmp_r _ _ | (unfold zr at *; omega)) dX7_sumYears_18 (by decide) (fun h18 => ?_) (fun h18 => ?_)
      · have ec : c = (bk σ 30 12 0).toNat := by show c = (σ.1 42 0).toNat; omega
        have hS : ∀ j : Nat, j < 551 → zs (fun i => τ.1 254 i) (j + 1) = zs (fun d => zif ((H d ∧ isY (bk σ 30) d) ∧ rE (bk σ 30) d ≤ j ∧ j < rL (bk σ 30) d) (bk σ 30 16 d)) (bk σ 30 12 0).toNat := fun j hj => by
          rw [zs_congr (fun i hi => h2 i (by omega)), ec]
          exact zs_diff _ _ _ _ _ _ (fun d hd _ => by have := rw_ok (WF_y hW (c := d) (by omega)); omega)
        have hbS : ∀ j : Nat, j < 551 → 0 ≤ zs (fun i => τ.1 254 i) (j + 1) ∧ zs (fun i => τ.1 254 i) (j + 1) ≤ 360 := fun j hj => by
          rw [hS j hj]; exact wt_b hW _
        refine zx_iconst dX7_sumYears_96 ?_
        refine zy_istoreN [zf 7 252, zf 1 30, zi 1] dX7_sumYears_97 rfl (Nat.le_of_ble_eq_true rfl) (Nat.le_of_ble_eq_true rfl) rfl rfl ?_
        have L98 : ∀ (N : Nat) (υ : zS) (r : Nat), (zOK υ) → (1 ≤ r ∧ r ≤ 551) → (zSame (fun q => q = 254) σ υ) → (∀ j : Nat, j < r → υ.1 254 j = zs (fun i => τ.1 254 i) (j + 1)) → (∀ j : Nat, r ≤ j → j < 551 → υ.1 254 j = τ.1 254 j) → (552 - r) < N → zX l w mX7_sumYears (zMQ w 3 0 Q) 98 [zf 7 252, zf 1 30, zi ((r : Nat) : Int)] [] 0 υ := by
          intro N
          induction N with
          | zero => intro υ r _ _ _ _ _ _; exact absurd (by assumption) (Nat.not_lt_zero _)
          | succ N ih98 =>
            intro υ r hz hr k1 k2 k3 hN
            have hrb := hbS (r - 1)
            have hrb2 := hbS r
            have e3 := k3 r (Nat.le_refl _)
            have e2 := k2 (r - 1) (by omega)
            rw [show r - 1 + 1 = r by omega] at e2 hrb
            have e4 : zs (fun i => τ.1 254 i) (r + 1) = zs (fun i => τ.1 254 i) r + τ.1 254 r := rfl
            refine zx_iloadN dX7_sumYears_98 rfl rfl ?_
            refine zx_aloadN dX7_sumYears_99 rfl rfl ?_
            refine zy_getR (q' := 254) fl_RX7_15 rfl dX7_sumYears_100 rfl ?_
            refine zx_alen (kd := 0) (n := 551) rfl (by decide) (by decide) (by decide) dX7_sumYears_103 ?_
            refine zx_icmp_ge (tgt := 130) (by first | exact hz _ _ | assumption | exact zr_b _ | exact zcmp_r _ _ | (unfold zr at *; omega)) (by first | exact hz _ _ | assumption | exact zr_b _ | exact zcmp_r _ _ | (unfold zr at *; omega)) dX7_sumYears_104 (by decide) (fun h104 => ?_) (fun h104 => ?_)
            · refine zx_vret rfl dX7_sumYears_130 ?_
              rw [hQ]
              refine ⟨rfl, ?_⟩
              refine ⟨hz, k1, fun r2 hr2 => ?_⟩
              rw [k2 r2 (by omega), hS r2 (by omega)]
              unfold scY
              refine zs_congr (fun d hd => zif_c ?_)
              have hY := WF_y hW (c := d) (by omega)
              have hrw := rw_ok hY
              unfold rE rL at *
              constructor <;> (rintro ⟨q1, q2⟩; exact ⟨q1, by omega⟩)
            · refine zx_aloadN dX7_sumYears_107 rfl rfl ?_
              refine zy_getR (q' := 254) fl_RX7_15 rfl dX7_sumYears_108 rfl ?_
              refine zx_iloadN dX7_sumYears_111 rfl rfl ?_
              refine zx_dup2 rfl rfl dX7_sumYears_112 ?_
              refine zy_iald (v := υ.1 254 r) rfl (by decide) (by decide) dX7_sumYears_113 (by omega) (by omega) rfl ?_
              refine zx_aloadN dX7_sumYears_114 rfl rfl ?_
              refine zy_getR (q' := 254) fl_RX7_15 rfl dX7_sumYears_115 rfl ?_
              refine zx_iloadN dX7_sumYears_118 rfl rfl ?_
              refine zx_iconst dX7_sumYears_119 ?_
              refine zx_isub dX7_sumYears_120 ?_
              refine zy_top (b := ((r - 1 : Nat) : Int)) (by omega) ?_
              refine zy_iald (v := υ.1 254 (r - 1)) rfl (by decide) (by decide) dX7_sumYears_121 (by omega) (by omega) rfl ?_
              refine zx_iadd dX7_sumYears_122 ?_
              refine zy_iast (i := r) rfl (by decide) (by decide) dX7_sumYears_123 (by omega) (by omega) rfl ?_
              refine zy_iinc (b := ((r + 1 : Nat) : Int)) [zf 7 252, zf 1 30, zi ((r + 1 : Nat) : Int)] dX7_sumYears_124 rfl (by omega) (Nat.le_of_ble_eq_true rfl) rfl rfl ?_
              refine zx_goto (tgt := 98) dX7_sumYears_127 (by decide) ?_
              exact ih98 (zput υ 254 r ((υ.1 254 r) + (υ.1 254 (r - 1)))) (r + 1) (zOK_put hz (by first | exact hz _ _ | assumption | exact zr_b _ | exact zcmp_r _ _ | (unfold zr at *; omega))) (by first | assumption | omega) ⟨fun q hq i => by have hq2 := hq; dsimp only at hq2; exact (zput_k _ _ _ _ _ (by omega)).trans (k1.1 q hq i), k1.2⟩ (fun j hj => by
                      rcases Nat.lt_succ_iff_lt_or_eq.mp hj with q | rfl
                      · exact (zput_i _ _ _ _ _ (by omega)).trans (k2 j q)
                      · refine (zput_s _ _ _ _).trans ?_
                        have e := k2 (j - 1) (by omega)
                        rw [show j - 1 + 1 = j by omega] at e
                        rw [zs_s]
                        have e3 := k3 j (Nat.le_refl _) (by omega)
                        omega) (fun j hj hj2 => (zput_i _ _ _ _ _ (by omega)).trans (k3 j (by omega) hj2)) (by omega)
        exact L98 _ τ 1 hz (by first | assumption | omega) h1 (fun j hj => by
                have e : j = 0 := by omega
                subst e
                rw [zs_s]; exact (Int.zero_add _).symm) (fun _ _ _ => rfl) (Nat.lt_succ_self _)
      · have hcK : (c : Int) < bk σ 30 12 0 := by show (c : Int) < σ.1 42 0; omega
        have hHc : τ.1 253 c = zb (H c) := (h1.1 253 (by dsimp only; omega) c).trans (hH c (by omega))
        have hq0 : zEq (bk σ 30) (bk τ 30) := zEq_same h1 (by intro o ho; show ¬ (30 + o = 254); omega)
        have hWτ : WF (bk τ 30) := WF_eq hq0 hW
        have eE := eYr_eq hq0 hW hcK
        have eL := lYr_eq hq0 hW hcK
        have hY := WF_y hW hcK
        have hrw := rw_ok hY
        have c44 := h1.1 44 (by dsimp only; omega) c
        have c46 := h1.1 46 (by dsimp only; omega) c
        have hw : 1 ≤ σ.1 46 c ∧ σ.1 46 c ≤ 9 := (hW.2.2.2.2.1 c hcK).2.2.1
        have hcτ : (c : Int) < τ.1 42 0 := by omega
        have hYe : 1450 ≤ eYr (bk τ 30) c ∧ eYr (bk τ 30) c ≤ 1999 := by omega
        have hYl : 1450 ≤ lYr (bk τ 30) c ∧ lYr (bk τ 30) c ≤ 2002 := by omega
        have hb1 : -360 ≤ τ.1 254 (rE (bk σ 30) c) ∧ τ.1 254 (rE (bk σ 30) c) ≤ 360 := by
          rw [h2 _ (by omega)]; exact dl_b hW (by omega)
        have hb2 : -360 ≤ τ.1 254 (rL (bk σ 30) c) ∧ τ.1 254 (rL (bk σ 30) c) ≤ 360 := by
          rw [h2 _ (by omega)]; exact dl_b hW (by omega)
        refine zx_aloadN dX7_sumYears_21 rfl rfl ?_
        refine zy_getR (q' := 253) fl_RX7_9 rfl dX7_sumYears_22 rfl ?_
        refine zx_iloadN dX7_sumYears_25 rfl rfl ?_
        refine zy_zald (v := τ.1 253 c) rfl (by decide) (by decide) dX7_sumYears_26 (by omega) (by omega) rfl ?_
        refine zy_top (b := zb (H c)) (hHc) ?_
        refine zx_if_eq (tgt := 90) (by first | exact hz _ _ | assumption | exact zr_b _ | exact zcmp_r _ _ | (unfold zr at *; omega)) dX7_sumYears_27 (by decide) (fun h27 => ?_) (fun h27 => ?_)
        · have h27 := zb_0.mp h27
          refine zy_iinc (b := ((c + 1 : Nat) : Int)) [zf 7 252, zf 1 30, zi ((c + 1 : Nat) : Int)] dX7_sumYears_90 rfl (by omega) (Nat.le_of_ble_eq_true rfl) rfl rfl ?_
          refine zx_goto (tgt := 10) dX7_sumYears_93 (by decide) ?_
          exact ih10 τ (c + 1) hz (by first | assumption | omega) (by first | exact h1 | exact ⟨fun q hq i => by have hq2 := hq; dsimp only at hq2; exact (zput_k _ _ _ _ _ (by omega)).trans ((zput_k _ _ _ _ _ (by omega)).trans (h1.1 q hq i)), h1.2⟩) (fun j hj => by
                  have hj2 := h2 j hj
                  rw [zs_s]
                  first
                  | (rw [zif_t ⟨h27, h35⟩, c46]; exact dl_put hrw.2.2 hj2)
                  | (rw [zif_f (fun q => absurd q.1 h27)]; omega)
                  | (rw [zif_f (fun q => absurd q.2 h35)]; omega)) (by omega)
        · have h27 := zb_n.mp h27
          refine zx_aloadN dX7_sumYears_30 rfl rfl ?_
          refine zx_iloadN dX7_sumYears_31 rfl rfl ?_
          refine zy_cv [zi ((c : Nat) : Int)] (sX1_dependsOnYear  hfl hz (by first | assumption | omega) (by first | assumption | omega | (show (c : Int) < τ.1 42 0; omega))) dX7_sumYears_32 (by decide) rfl cw_RX7_93 okX1_dependsOnYear rfl (Nat.le_of_ble_eq_true rfl) ⟨Nat.le_of_ble_eq_true rfl, Nat.le_of_ble_eq_true rfl, Nat.le_of_ble_eq_true rfl, Nat.le_of_ble_eq_true rfl⟩ ?_
          refine zy_top (b := zb (τ.1 44 c = 2 ∨ τ.1 44 c = 4)) rfl ?_
          refine zy_top (b := zb (isY (bk σ 30) c)) (by rw [c44]; rfl) ?_
          refine zx_if_eq (tgt := 90) (by first | exact hz _ _ | assumption | exact zr_b _ | exact zcmp_r _ _ | (unfold zr at *; omega)) dX7_sumYears_35 (by decide) (fun h35 => ?_) (fun h35 => ?_)
          · have h35 := zb_0.mp h35
            refine zy_iinc (b := ((c + 1 : Nat) : Int)) [zf 7 252, zf 1 30, zi ((c + 1 : Nat) : Int)] dX7_sumYears_90 rfl (by omega) (Nat.le_of_ble_eq_true rfl) rfl rfl ?_
            refine zx_goto (tgt := 10) dX7_sumYears_93 (by decide) ?_
            exact ih10 τ (c + 1) hz (by first | assumption | omega) (by first | exact h1 | exact ⟨fun q hq i => by have hq2 := hq; dsimp only at hq2; exact (zput_k _ _ _ _ _ (by omega)).trans ((zput_k _ _ _ _ _ (by omega)).trans (h1.1 q hq i)), h1.2⟩) (fun j hj => by
                    have hj2 := h2 j hj
                    rw [zs_s]
                    first
                    | (rw [zif_t ⟨h27, h35⟩, c46]; exact dl_put hrw.2.2 hj2)
                    | (rw [zif_f (fun q => absurd q.1 h27)]; omega)
                    | (rw [zif_f (fun q => absurd q.2 h35)]; omega)) (by omega)
          · have h35 := zb_n.mp h35
            refine zx_aloadN dX7_sumYears_38 rfl rfl ?_
            refine zy_getR (q' := 254) fl_RX7_15 rfl dX7_sumYears_39 rfl ?_
            refine zx_aloadN dX7_sumYears_42 rfl rfl ?_
            refine zx_iloadN dX7_sumYears_43 rfl rfl ?_
            refine zy_cv [zi ((c : Nat) : Int)] (sX1_earliestYear  hfl hz (by first | assumption | omega) (by first | assumption | omega | (show (c : Int) < τ.1 42 0; omega))) dX7_sumYears_44 (by decide) rfl cw_RX7_96 okX1_earliestYear rfl (Nat.le_of_ble_eq_true rfl) ⟨Nat.le_of_ble_eq_true rfl, Nat.le_of_ble_eq_true rfl, Nat.le_of_ble_eq_true rfl, Nat.le_of_ble_eq_true rfl⟩ ?_
            refine zy_cs [zi (eYr (bk τ 30) c)] (sX7_rowOf  hfl hz (by first | assumption | omega)) dX7_sumYears_47 cw_RX7_99 okX7_rowOf rfl (Nat.le_of_ble_eq_true rfl) ⟨Nat.le_of_ble_eq_true rfl, Nat.le_of_ble_eq_true rfl, Nat.le_of_ble_eq_true rfl, Nat.le_of_ble_eq_true rfl⟩ ?_
            refine zy_top (b := ((rE (bk σ 30) c : Nat) : Int)) (by rw [eE]; unfold rE; omega) ?_
            refine zx_dup2 rfl rfl dX7_sumYears_50 ?_
            refine zy_iald (v := τ.1 254 (rE (bk σ 30) c)) rfl (by decide) (by decide) dX7_sumYears_51 (by omega) (by omega) rfl ?_
            refine zx_aloadN dX7_sumYears_52 rfl rfl ?_
            refine zy_getR (q' := 42) fl_RX7_35 rfl dX7_sumYears_53 rfl ?_
            refine zy_getR (q' := 46) fl_RX7_102 rfl dX7_sumYears_56 rfl ?_
            refine zx_iloadN dX7_sumYears_59 rfl rfl ?_
            refine zy_iald (v := τ.1 46 c) rfl (by decide) (by decide) dX7_sumYears_60 (by omega) (by omega) rfl ?_
            refine zx_iadd dX7_sumYears_61 ?_
            refine zy_iast (i := rE (bk σ 30) c) rfl (by decide) (by decide) dX7_sumYears_62 (by omega) (by omega) rfl ?_
            refine zx_aloadN dX7_sumYears_63 rfl rfl ?_
            refine zy_getR (q' := 254) fl_RX7_15 rfl dX7_sumYears_64 rfl ?_
            refine zx_aloadN dX7_sumYears_67 rfl rfl ?_
            refine zx_iloadN dX7_sumYears_68 rfl rfl ?_
            have hpw : zSame (fun q => q = 254) σ (zput τ 254 (rE (bk σ 30) c) (τ.1 254 (rE (bk σ 30) c) + τ.1 46 c)) := ⟨fun q hq i => by have hq2 := hq; dsimp only at hq2; exact (zput_k _ _ _ _ _ (by omega)).trans (h1.1 q hq i), h1.2⟩
            have hq1 : zEq (bk σ 30) (bk (zput τ 254 (rE (bk σ 30) c) (τ.1 254 (rE (bk σ 30) c) + τ.1 46 c)) 30) := zEq_same hpw (by intro o ho; show ¬ (30 + o = 254); omega)
            have hWp := WF_eq hq1 hW
            have eLp := lYr_eq hq1 hW hcK
            have hcp : (c : Int) < (zput τ 254 (rE (bk σ 30) c) (τ.1 254 (rE (bk σ 30) c) + τ.1 46 c)).1 42 0 := by rw [zput_k _ _ _ _ _ (by omega)]; exact hcτ
            refine zy_cv [zi ((c : Nat) : Int)] (sX1_latestYear  hfl (zOK_put hz (by first | exact hz _ _ | assumption | exact zr_b _ | exact zcmp_r _ _ | (unfold zr at *; omega))) (by first | assumption | omega) (by first | assumption | omega | (show (c : Int) < (zput τ 254 (rE (bk σ 30) c) ((τ.1 254 (rE (bk σ 30) c)) + (τ.1 46 c))).1 42 0; omega))) dX7_sumYears_69 (by decide) rfl cw_RX7_105 okX1_latestYear rfl (Nat.le_of_ble_eq_true rfl) ⟨Nat.le_of_ble_eq_true rfl, Nat.le_of_ble_eq_true rfl, Nat.le_of_ble_eq_true rfl, Nat.le_of_ble_eq_true rfl⟩ ?_
            refine zy_top (b := lYr (bk σ 30) c) (eLp) ?_
            refine zx_iconst dX7_sumYears_72 ?_
            refine zx_iadd dX7_sumYears_73 ?_
            refine zy_cs [zi ((lYr (bk σ 30) c) + 1)] (sX7_rowOf  hfl (zOK_put hz (by first | exact hz _ _ | assumption | exact zr_b _ | exact zcmp_r _ _ | (unfold zr at *; omega))) (by first | assumption | omega)) dX7_sumYears_74 cw_RX7_99 okX7_rowOf rfl (Nat.le_of_ble_eq_true rfl) ⟨Nat.le_of_ble_eq_true rfl, Nat.le_of_ble_eq_true rfl, Nat.le_of_ble_eq_true rfl, Nat.le_of_ble_eq_true rfl⟩ ?_
            refine zy_top (b := ((rL (bk σ 30) c : Nat) : Int)) (by unfold rL; omega) ?_
            refine zx_dup2 rfl rfl dX7_sumYears_77 ?_
            refine zy_iald (v := τ.1 254 (rL (bk σ 30) c)) rfl (by decide) (by decide) dX7_sumYears_78 (by omega) (by omega) (zput_i _ _ _ _ _ (by omega)) ?_
            refine zx_aloadN dX7_sumYears_79 rfl rfl ?_
            refine zy_getR (q' := 42) fl_RX7_35 rfl dX7_sumYears_80 rfl ?_
            refine zy_getR (q' := 46) fl_RX7_102 rfl dX7_sumYears_83 rfl ?_
            refine zx_iloadN dX7_sumYears_86 rfl rfl ?_
            refine zy_iald (v := τ.1 46 c) rfl (by decide) (by decide) dX7_sumYears_87 (by omega) (by omega) (zput_k _ _ _ _ _ (by omega)) ?_
            refine zx_isub dX7_sumYears_88 ?_
            refine zy_iast (i := rL (bk σ 30) c) rfl (by decide) (by decide) dX7_sumYears_89 (by omega) (by omega) rfl ?_
            refine zy_iinc (b := ((c + 1 : Nat) : Int)) [zf 7 252, zf 1 30, zi ((c + 1 : Nat) : Int)] dX7_sumYears_90 rfl (by omega) (Nat.le_of_ble_eq_true rfl) rfl rfl ?_
            refine zx_goto (tgt := 10) dX7_sumYears_93 (by decide) ?_
            exact ih10 (zput (zput τ 254 (rE (bk σ 30) c) ((τ.1 254 (rE (bk σ 30) c)) + (τ.1 46 c))) 254 (rL (bk σ 30) c) ((τ.1 254 (rL (bk σ 30) c)) - (τ.1 46 c))) (c + 1) (zOK_put (zOK_put hz (by first | exact hz _ _ | assumption | exact zr_b _ | exact zcmp_r _ _ | (unfold zr at *; omega))) (by first | exact hz _ _ | assumption | exact zr_b _ | exact zcmp_r _ _ | (unfold zr at *; omega))) (by first | assumption | omega) (by first | exact h1 | exact ⟨fun q hq i => by have hq2 := hq; dsimp only at hq2; exact (zput_k _ _ _ _ _ (by omega)).trans ((zput_k _ _ _ _ _ (by omega)).trans (h1.1 q hq i)), h1.2⟩) (fun j hj => by
                    have hj2 := h2 j hj
                    rw [zs_s]
                    first
                    | (rw [zif_t ⟨h27, h35⟩, c46]; exact dl_put hrw.2.2 hj2)
                    | (rw [zif_f (fun q => absurd q.1 h27)]; omega)
                    | (rw [zif_f (fun q => absurd q.2 h35)]; omega)) (by omega)
  exact L10 _ τ5 0 hz5 (by first | assumption | omega) (hr5.2.1) (fun j hj => hr5.2.2 j hj) (Nat.lt_succ_self _)
set_option maxRecDepth 20000 in
set_option maxHeartbeats 2000000 in
theorem sX7_findTopYear {l : Launch} {w : zW} (hfl : l.stackTraces = false) {σ : zS} {p : Nat} (hz : zOK σ) (hW : WF (bk σ 30)) (hp : (p : Int) < σ.1 31 0) : Sp l w mX7_findTopYear 2 0 [zf 7 252, zf 0 31, zi ((p : Nat) : Int)] σ (zrtv (zput (zput (zput σ 255 p (1450 + ((yTop (σ.1 254) ((σ.1 34 p - 1450).toNat) ((σ.1 35 p - σ.1 34 p + 1).toNat) : Nat) : Int))) 256 p (σ.1 254 (yTop (σ.1 254) ((σ.1 34 p - 1450).toNat) ((σ.1 35 p - σ.1 34 p + 1).toNat)))) 257 p (yCnt (σ.1 254) ((σ.1 34 p - 1450).toNat) ((σ.1 35 p - σ.1 34 p + 1).toNat)))) := by
  obtain ⟨Q, hQ⟩ : ∃ Q : zQ, Q = (zrtv (zput (zput (zput σ 255 p (1450 + ((yTop (σ.1 254) ((σ.1 34 p - 1450).toNat) ((σ.1 35 p - σ.1 34 p + 1).toNat) : Nat) : Int))) 256 p (σ.1 254 (yTop (σ.1 254) ((σ.1 34 p - 1450).toNat) ((σ.1 35 p - σ.1 34 p + 1).toNat)))) 257 p (yCnt (σ.1 254) ((σ.1 34 p - 1450).toNat) ((σ.1 35 p - σ.1 34 p + 1).toNat)))) := ⟨_, rfl⟩
  rw [← hQ]
  refine zx_enter hfl (by decide) rfl 5 rfl ?_
  show zX l w mX7_findTopYear (zMQ w 2 0 Q) 0 [zf 7 252, zf 0 31, zi ((p : Nat) : Int), zu, zu, zu, zu, zu] [] 0 σ
  have hP : 0 ≤ σ.1 31 0 ∧ σ.1 31 0 ≤ 8 := hW.1.1
  have hM : 0 ≤ σ.1 31 7 ∧ σ.1 31 7 ≤ 8 := hW.1.2.1
  have hK : 0 ≤ σ.1 42 0 ∧ σ.1 42 0 ≤ 40 := hW.1.2.2.2
  have hy : 1450 ≤ σ.1 34 p ∧ σ.1 34 p ≤ σ.1 35 p ∧ σ.1 35 p ≤ 1999 := (hW.2.1 p hp).2
  have hcr : ∀ n : Nat, 0 ≤ yCnt (σ.1 254) ((σ.1 34 p - 1450).toNat) n ∧ yCnt (σ.1 254) ((σ.1 34 p - 1450).toNat) n ≤ n := yCnt_r _ _
  refine zx_aloadN dX7_findTopYear_0 rfl rfl ?_
  refine zy_getR (q' := 34) fl_RX7_117 rfl dX7_findTopYear_1 rfl ?_
  refine zx_iloadN dX7_findTopYear_4 rfl rfl ?_
  refine zy_iald (v := σ.1 34 p) rfl (by decide) (by decide) dX7_findTopYear_5 (by omega) (by omega) rfl ?_
  refine zy_cs [zi (σ.1 34 p)] (sX7_rowOf  hfl hz (by first | assumption | omega)) dX7_findTopYear_6 cw_RX7_99 okX7_rowOf rfl (Nat.le_of_ble_eq_true rfl) ⟨Nat.le_of_ble_eq_true rfl, Nat.le_of_ble_eq_true rfl, Nat.le_of_ble_eq_true rfl, Nat.le_of_ble_eq_true rfl⟩ ?_
  refine zy_top (b := ((((σ.1 34 p - 1450).toNat) : Nat) : Int)) (by omega) ?_
  refine zy_istoreN [zf 7 252, zf 0 31, zi ((p : Nat) : Int), zi ((((σ.1 34 p - 1450).toNat) : Nat) : Int), zu, zu, zu, zu] dX7_findTopYear_9 rfl (Nat.le_of_ble_eq_true rfl) (Nat.le_of_ble_eq_true rfl) rfl rfl ?_
  refine zx_aloadN dX7_findTopYear_10 rfl rfl ?_
  refine zy_getR (q' := 35) fl_RX7_120 rfl dX7_findTopYear_11 rfl ?_
  refine zx_iloadN dX7_findTopYear_14 rfl rfl ?_
  refine zy_iald (v := σ.1 35 p) rfl (by decide) (by decide) dX7_findTopYear_15 (by omega) (by omega) rfl ?_
  refine zy_cs [zi (σ.1 35 p)] (sX7_rowOf  hfl hz (by first | assumption | omega)) dX7_findTopYear_16 cw_RX7_99 okX7_rowOf rfl (Nat.le_of_ble_eq_true rfl) ⟨Nat.le_of_ble_eq_true rfl, Nat.le_of_ble_eq_true rfl, Nat.le_of_ble_eq_true rfl, Nat.le_of_ble_eq_true rfl⟩ ?_
  refine zy_top (b := (((σ.1 35 p - 1450).toNat : Nat) : Int)) (by omega) ?_
  refine zy_istore [zf 7 252, zf 0 31, zi ((p : Nat) : Int), zi ((((σ.1 34 p - 1450).toNat) : Nat) : Int), zi (((σ.1 35 p - 1450).toNat : Nat) : Int), zu, zu, zu] dX7_findTopYear_19 (Nat.le_of_ble_eq_true rfl) (Nat.le_of_ble_eq_true rfl) rfl rfl ?_
  refine zx_iloadN dX7_findTopYear_21 rfl rfl ?_
  refine zy_istore [zf 7 252, zf 0 31, zi ((p : Nat) : Int), zi ((((σ.1 34 p - 1450).toNat) : Nat) : Int), zi (((σ.1 35 p - 1450).toNat : Nat) : Int), zi ((((σ.1 34 p - 1450).toNat) : Nat) : Int), zu, zu] dX7_findTopYear_22 (Nat.le_of_ble_eq_true rfl) (Nat.le_of_ble_eq_true rfl) rfl rfl ?_
  refine zx_iconst dX7_findTopYear_24 ?_
  refine zy_istore [zf 7 252, zf 0 31, zi ((p : Nat) : Int), zi ((((σ.1 34 p - 1450).toNat) : Nat) : Int), zi (((σ.1 35 p - 1450).toNat : Nat) : Int), zi ((((σ.1 34 p - 1450).toNat) : Nat) : Int), zi 0, zu] dX7_findTopYear_25 (Nat.le_of_ble_eq_true rfl) (Nat.le_of_ble_eq_true rfl) rfl rfl ?_
  refine zx_iloadN dX7_findTopYear_27 rfl rfl ?_
  refine zy_istore [zf 7 252, zf 0 31, zi ((p : Nat) : Int), zi ((((σ.1 34 p - 1450).toNat) : Nat) : Int), zi (((σ.1 35 p - 1450).toNat : Nat) : Int), zi ((((σ.1 34 p - 1450).toNat) : Nat) : Int), zi 0, zi ((((σ.1 34 p - 1450).toNat) : Nat) : Int)] dX7_findTopYear_28 (Nat.le_of_ble_eq_true rfl) (Nat.le_of_ble_eq_true rfl) rfl rfl ?_
  have L30 : ∀ (N : Nat) (n : Nat) (r : Nat) (t : Nat) (cn : Int), (r = (σ.1 34 p - 1450).toNat + n) → ((r : Int) ≤ σ.1 35 p - 1450 + 1) → (t = yTop (σ.1 254) ((σ.1 34 p - 1450).toNat) n) → (cn = yCnt (σ.1 254) ((σ.1 34 p - 1450).toNat) n) → (552 - r) < N → zX l w mX7_findTopYear (zMQ w 2 0 Q) 30 [zf 7 252, zf 0 31, zi ((p : Nat) : Int), zi ((((σ.1 34 p - 1450).toNat) : Nat) : Int), zi (((σ.1 35 p - 1450).toNat : Nat) : Int), zi ((t : Nat) : Int), zi cn, zi ((r : Nat) : Int)] [] 0 σ := by
    intro N
    induction N with
    | zero => intro n r t cn _ _ _ _ _; exact absurd (by assumption) (Nat.not_lt_zero _)
    | succ N ih30 =>
      intro n r t cn hr hn ht hcn hN
      have htr := yTop_r (σ.1 254) ((σ.1 34 p - 1450).toNat) n
      rw [← ht] at htr
      have ht0 : n = 0 → t = (σ.1 34 p - 1450).toNat := by intro q; rw [ht, q]; rfl
      have hcr2 := hcr n
      refine zx_iload dX7_findTopYear_30 rfl ?_
      refine zx_iload dX7_findTopYear_32 rfl ?_
      refine zx_icmp_gt (tgt := 87) (by first | exact hz _ _ | assumption | exact zr_b _ | exact zcmp_r _ _ | (unfold zr at *; omega)) (by first | exact hz _ _ | assumption | exact zr_b _ | exact zcmp_r _ _ | (unfold zr at *; omega)) dX7_findTopYear_34 (by decide) (fun h34 => ?_) (fun h34 => ?_)
      · have en : n = (σ.1 35 p - σ.1 34 p + 1).toNat := by omega
        have ht2 := ht
        have hcn2 := hcn
        rw [en] at ht2 hcn2
        refine zx_aloadN dX7_findTopYear_87 rfl rfl ?_
        refine zy_getR (q' := 255) fl_RX7_19 rfl dX7_findTopYear_88 rfl ?_
        refine zx_iloadN dX7_findTopYear_91 rfl rfl ?_
        refine zx_sipush dX7_findTopYear_92 rfl ?_
        refine zx_iload dX7_findTopYear_95 rfl ?_
        refine zx_iadd dX7_findTopYear_97 ?_
        refine zy_iast (i := p) rfl (by decide) (by decide) dX7_findTopYear_98 (by omega) (by omega) rfl ?_
        refine zx_aloadN dX7_findTopYear_99 rfl rfl ?_
        refine zy_getR (q' := 256) fl_RX7_22 rfl dX7_findTopYear_100 rfl ?_
        refine zx_iloadN dX7_findTopYear_103 rfl rfl ?_
        refine zx_aloadN dX7_findTopYear_104 rfl rfl ?_
        refine zy_getR (q' := 254) fl_RX7_15 rfl dX7_findTopYear_105 rfl ?_
        refine zx_iload dX7_findTopYear_108 rfl ?_
        refine zy_iald (v := σ.1 254 t) rfl (by decide) (by decide) dX7_findTopYear_110 (by omega) (by omega) (zput_k _ _ _ _ _ (by omega)) ?_
        refine zy_iast (i := p) rfl (by decide) (by decide) dX7_findTopYear_111 (by omega) (by omega) rfl ?_
        refine zx_aloadN dX7_findTopYear_112 rfl rfl ?_
        refine zy_getR (q' := 257) fl_RX7_25 rfl dX7_findTopYear_113 rfl ?_
        refine zx_iloadN dX7_findTopYear_116 rfl rfl ?_
        refine zx_iload dX7_findTopYear_117 rfl ?_
        refine zy_iast (i := p) rfl (by decide) (by decide) dX7_findTopYear_119 (by omega) (by omega) rfl ?_
        refine zx_vret rfl dX7_findTopYear_120 ?_
        rw [hQ]
        exact ⟨rfl, by rw [ht2, hcn2]⟩
      · refine zx_aloadN dX7_findTopYear_37 rfl rfl ?_
        refine zy_getR (q' := 254) fl_RX7_15 rfl dX7_findTopYear_38 rfl ?_
        refine zx_iload dX7_findTopYear_41 rfl ?_
        refine zy_iald (v := σ.1 254 r) rfl (by decide) (by decide) dX7_findTopYear_43 (by omega) (by omega) rfl ?_
        refine zx_aloadN dX7_findTopYear_44 rfl rfl ?_
        refine zy_getR (q' := 254) fl_RX7_15 rfl dX7_findTopYear_45 rfl ?_
        refine zx_iload dX7_findTopYear_48 rfl ?_
        refine zy_iald (v := σ.1 254 t) rfl (by decide) (by decide) dX7_findTopYear_50 (by omega) (by omega) rfl ?_
        refine zx_icmp_le (tgt := 61) (by first | exact hz _ _ | assumption | exact zr_b _ | exact zcmp_r _ _ | (unfold zr at *; omega)) (by first | exact hz _ _ | assumption | exact zr_b _ | exact zcmp_r _ _ | (unfold zr at *; omega)) dX7_findTopYear_51 (by decide) (fun h51 => ?_) (fun h51 => ?_)
        · refine zx_aloadN dX7_findTopYear_61 rfl rfl ?_
          refine zy_getR (q' := 254) fl_RX7_15 rfl dX7_findTopYear_62 rfl ?_
          refine zx_iload dX7_findTopYear_65 rfl ?_
          refine zy_iald (v := σ.1 254 r) rfl (by decide) (by decide) dX7_findTopYear_67 (by omega) (by omega) rfl ?_
          refine zx_aloadN dX7_findTopYear_68 rfl rfl ?_
          refine zy_getR (q' := 254) fl_RX7_15 rfl dX7_findTopYear_69 rfl ?_
          refine zx_iload dX7_findTopYear_72 rfl ?_
          refine zy_iald (v := σ.1 254 t) rfl (by decide) (by decide) dX7_findTopYear_74 (by omega) (by omega) rfl ?_
          refine zx_icmp_ne (tgt := 81) (by first | exact hz _ _ | assumption | exact zr_b _ | exact zcmp_r _ _ | (unfold zr at *; omega)) (by first | exact hz _ _ | assumption | exact zr_b _ | exact zcmp_r _ _ | (unfold zr at *; omega)) dX7_findTopYear_75 (by decide) (fun h75 => ?_) (fun h75 => ?_)
          · refine zy_iinc (b := ((r + 1 : Nat) : Int)) [zf 7 252, zf 0 31, zi ((p : Nat) : Int), zi ((((σ.1 34 p - 1450).toNat) : Nat) : Int), zi (((σ.1 35 p - 1450).toNat : Nat) : Int), zi ((t : Nat) : Int), zi cn, zi ((r + 1 : Nat) : Int)] dX7_findTopYear_81 rfl (by omega) (Nat.le_of_ble_eq_true rfl) rfl rfl ?_
            refine zx_goto (tgt := 30) dX7_findTopYear_84 (by decide) ?_
            exact ih30 (n + 1) (r + 1) t cn (by omega) (by omega) (by rw [yTop_s, ← ht, ← hr]; first | rw [if_pos (by omega)] | rw [if_neg (by omega)]) (by rw [yCnt_s, ← ht, ← hr]; first | (exfalso; omega) | rw [if_pos (by omega)] | (rw [if_neg (by omega), if_pos (by omega)]; omega) | (rw [if_neg (by omega), if_neg (by omega)]; omega)) (by omega)
          · refine zy_iinc (b := cn + 1) [zf 7 252, zf 0 31, zi ((p : Nat) : Int), zi ((((σ.1 34 p - 1450).toNat) : Nat) : Int), zi (((σ.1 35 p - 1450).toNat : Nat) : Int), zi ((t : Nat) : Int), zi (cn + 1), zi ((r : Nat) : Int)] dX7_findTopYear_78 rfl (by omega) (Nat.le_of_ble_eq_true rfl) rfl rfl ?_
            refine zy_iinc (b := ((r + 1 : Nat) : Int)) [zf 7 252, zf 0 31, zi ((p : Nat) : Int), zi ((((σ.1 34 p - 1450).toNat) : Nat) : Int), zi (((σ.1 35 p - 1450).toNat : Nat) : Int), zi ((t : Nat) : Int), zi (cn + 1), zi ((r + 1 : Nat) : Int)] dX7_findTopYear_81 rfl (by omega) (Nat.le_of_ble_eq_true rfl) rfl rfl ?_
            refine zx_goto (tgt := 30) dX7_findTopYear_84 (by decide) ?_
            exact ih30 (n + 1) (r + 1) t (cn + 1) (by omega) (by omega) (by rw [yTop_s, ← ht, ← hr]; first | rw [if_pos (by omega)] | rw [if_neg (by omega)]) (by rw [yCnt_s, ← ht, ← hr]; first | (exfalso; omega) | rw [if_pos (by omega)] | (rw [if_neg (by omega), if_pos (by omega)]; omega) | (rw [if_neg (by omega), if_neg (by omega)]; omega)) (by omega)
        · refine zx_iload dX7_findTopYear_54 rfl ?_
          refine zy_istore [zf 7 252, zf 0 31, zi ((p : Nat) : Int), zi ((((σ.1 34 p - 1450).toNat) : Nat) : Int), zi (((σ.1 35 p - 1450).toNat : Nat) : Int), zi ((r : Nat) : Int), zi cn, zi ((r : Nat) : Int)] dX7_findTopYear_56 (Nat.le_of_ble_eq_true rfl) (Nat.le_of_ble_eq_true rfl) rfl rfl ?_
          refine zx_iconst dX7_findTopYear_58 ?_
          refine zy_istore [zf 7 252, zf 0 31, zi ((p : Nat) : Int), zi ((((σ.1 34 p - 1450).toNat) : Nat) : Int), zi (((σ.1 35 p - 1450).toNat : Nat) : Int), zi ((r : Nat) : Int), zi 0, zi ((r : Nat) : Int)] dX7_findTopYear_59 (Nat.le_of_ble_eq_true rfl) (Nat.le_of_ble_eq_true rfl) rfl rfl ?_
          refine zx_aloadN dX7_findTopYear_61 rfl rfl ?_
          refine zy_getR (q' := 254) fl_RX7_15 rfl dX7_findTopYear_62 rfl ?_
          refine zx_iload dX7_findTopYear_65 rfl ?_
          refine zy_iald (v := σ.1 254 r) rfl (by decide) (by decide) dX7_findTopYear_67 (by omega) (by omega) rfl ?_
          refine zx_aloadN dX7_findTopYear_68 rfl rfl ?_
          refine zy_getR (q' := 254) fl_RX7_15 rfl dX7_findTopYear_69 rfl ?_
          refine zx_iload dX7_findTopYear_72 rfl ?_
          refine zy_iald (v := σ.1 254 r) rfl (by decide) (by decide) dX7_findTopYear_74 (by omega) (by omega) rfl ?_
          refine zx_icmp_ne (tgt := 81) (by first | exact hz _ _ | assumption | exact zr_b _ | exact zcmp_r _ _ | (unfold zr at *; omega)) (by first | exact hz _ _ | assumption | exact zr_b _ | exact zcmp_r _ _ | (unfold zr at *; omega)) dX7_findTopYear_75 (by decide) (fun h75 => ?_) (fun h75 => ?_)
          · refine zy_iinc (b := ((r + 1 : Nat) : Int)) [zf 7 252, zf 0 31, zi ((p : Nat) : Int), zi ((((σ.1 34 p - 1450).toNat) : Nat) : Int), zi (((σ.1 35 p - 1450).toNat : Nat) : Int), zi ((r : Nat) : Int), zi 0, zi ((r + 1 : Nat) : Int)] dX7_findTopYear_81 rfl (by omega) (Nat.le_of_ble_eq_true rfl) rfl rfl ?_
            refine zx_goto (tgt := 30) dX7_findTopYear_84 (by decide) ?_
            exact ih30 (n + 1) (r + 1) r 0 (by omega) (by omega) (by rw [yTop_s, ← ht, ← hr]; first | rw [if_pos (by omega)] | rw [if_neg (by omega)]) (by rw [yCnt_s, ← ht, ← hr]; first | (exfalso; omega) | rw [if_pos (by omega)] | (rw [if_neg (by omega), if_pos (by omega)]; omega) | (rw [if_neg (by omega), if_neg (by omega)]; omega)) (by omega)
          · refine zy_iinc (b := 1) [zf 7 252, zf 0 31, zi ((p : Nat) : Int), zi ((((σ.1 34 p - 1450).toNat) : Nat) : Int), zi (((σ.1 35 p - 1450).toNat : Nat) : Int), zi ((r : Nat) : Int), zi 1, zi ((r : Nat) : Int)] dX7_findTopYear_78 rfl (by omega) (Nat.le_of_ble_eq_true rfl) rfl rfl ?_
            refine zy_iinc (b := ((r + 1 : Nat) : Int)) [zf 7 252, zf 0 31, zi ((p : Nat) : Int), zi ((((σ.1 34 p - 1450).toNat) : Nat) : Int), zi (((σ.1 35 p - 1450).toNat : Nat) : Int), zi ((r : Nat) : Int), zi 1, zi ((r + 1 : Nat) : Int)] dX7_findTopYear_81 rfl (by omega) (Nat.le_of_ble_eq_true rfl) rfl rfl ?_
            refine zx_goto (tgt := 30) dX7_findTopYear_84 (by decide) ?_
            exact ih30 (n + 1) (r + 1) r 1 (by omega) (by omega) (by rw [yTop_s, ← ht, ← hr]; first | rw [if_pos (by omega)] | rw [if_neg (by omega)]) (by rw [yCnt_s, ← ht, ← hr]; first | (exfalso; omega) | rw [if_pos (by omega)] | (rw [if_neg (by omega), if_pos (by omega)]; omega) | (rw [if_neg (by omega), if_neg (by omega)]; omega)) (by omega)
  exact L30 _ 0 ((σ.1 34 p - 1450).toNat) ((σ.1 34 p - 1450).toNat) 0 (by omega) (by omega) rfl rfl (Nat.lt_succ_self _)
set_option maxRecDepth 20000 in
set_option maxHeartbeats 2000000 in
theorem sX7_yearlessWeight {l : Launch} {w : zW} (hfl : l.stackTraces = false) {σ : zS} {p : Nat} {H : Nat → Prop} (hz : zOK σ) (hW : WF (bk σ 30)) (hH : ∀ c : Nat, (c : Int) < σ.1 42 0 → σ.1 253 c = zb (H c)) (hp : (p : Int) < σ.1 31 0) : Sp l w mX7_yearlessWeight 3 0 [zf 7 252, zf 1 30, zi ((p : Nat) : Int)] σ (zret (zi (scN (bk σ 30) H p)) σ) := by
  obtain ⟨Q, hQ⟩ : ∃ Q : zQ, Q = (zret (zi (scN (bk σ 30) H p)) σ) := ⟨_, rfl⟩
  rw [← hQ]
  refine zx_enter hfl (by decide) rfl 2 rfl ?_
  show zX l w mX7_yearlessWeight (zMQ w 3 0 Q) 0 [zf 7 252, zf 1 30, zi ((p : Nat) : Int), zu, zu] [] 0 σ
  have hP : 0 ≤ σ.1 31 0 ∧ σ.1 31 0 ≤ 8 := hW.1.1
  have hM : 0 ≤ σ.1 31 7 ∧ σ.1 31 7 ≤ 8 := hW.1.2.1
  have hK : 0 ≤ σ.1 42 0 ∧ σ.1 42 0 ≤ 40 := hW.1.2.2.2
  refine zx_iconst dX7_yearlessWeight_0 ?_
  refine zy_istoreN [zf 7 252, zf 1 30, zi ((p : Nat) : Int), zi 0, zu] dX7_yearlessWeight_1 rfl (Nat.le_of_ble_eq_true rfl) (Nat.le_of_ble_eq_true rfl) rfl rfl ?_
  refine zx_iconst dX7_yearlessWeight_2 ?_
  refine zy_istore [zf 7 252, zf 1 30, zi ((p : Nat) : Int), zi 0, zi 0] dX7_yearlessWeight_3 (Nat.le_of_ble_eq_true rfl) (Nat.le_of_ble_eq_true rfl) rfl rfl ?_
  have L5 : ∀ (N : Nat) (c : Nat) (acc : Int), ((c : Int) ≤ σ.1 42 0) → (acc = zs (fun c => zif ((H c ∧ ¬ isY (bk σ 30) c) ∧ pFit (bk σ 30) p c) (bk σ 30 16 c)) c) → (41 - c) < N → zX l w mX7_yearlessWeight (zMQ w 3 0 Q) 5 [zf 7 252, zf 1 30, zi ((p : Nat) : Int), zi acc, zi ((c : Nat) : Int)] [] 0 σ := by
    intro N
    induction N with
    | zero => intro c acc _ _ _; exact absurd (by assumption) (Nat.not_lt_zero _)
    | succ N ih5 =>
      intro c acc hc hacc hN
      refine zx_iload dX7_yearlessWeight_5 rfl ?_
      refine zx_aloadN dX7_yearlessWeight_7 rfl rfl ?_
      refine zy_getR (q' := 42) fl_RX7_35 rfl dX7_yearlessWeight_8 rfl ?_
      refine zy_getI fl_RX7_68 rfl dX7_yearlessWeight_11 rfl ?_
      refine zx_icmp_ge (tgt := 65) (by first | exact hz _ _ | assumption | exact zr_b _ | exact zcmp_r _ _ | (unfold zr at *; omega)) (by first | exact hz _ _ | assumption | exact zr_b _ | exact zcmp_r _ _ | (unfold zr at *; omega)) dX7_yearlessWeight_14 (by decide) (fun h14 => ?_) (fun h14 => ?_)
      · refine zx_iloadN dX7_yearlessWeight_65 rfl rfl ?_
        refine zx_iret rfl rfl dX7_yearlessWeight_66 ?_
        rw [hQ]
        refine ⟨congrArg (fun z : Int => (Sum.inl (some (zi z)) : Option zV ⊕ String)) ?_, by first | rfl | (exfalso; omega)⟩
        rw [hacc]; unfold scN; congr 1; show c = (σ.1 42 0).toNat; omega
      · have hHc := hH c (by omega)
        refine zx_aloadN dX7_yearlessWeight_17 rfl rfl ?_
        refine zy_getR (q' := 253) fl_RX7_9 rfl dX7_yearlessWeight_18 rfl ?_
        refine zx_iload dX7_yearlessWeight_21 rfl ?_
        refine zy_zald (v := σ.1 253 c) rfl (by decide) (by decide) dX7_yearlessWeight_23 (by omega) (by omega) rfl ?_
        refine zy_top (b := zb (H c)) (hHc) ?_
        refine zx_if_eq (tgt := 59) (by first | exact hz _ _ | assumption | exact zr_b _ | exact zcmp_r _ _ | (unfold zr at *; omega)) dX7_yearlessWeight_24 (by decide) (fun h24 => ?_) (fun h24 => ?_)
        · have h24 := zb_0.mp h24
          refine zy_iinc (b := ((c + 1 : Nat) : Int)) [zf 7 252, zf 1 30, zi ((p : Nat) : Int), zi acc, zi ((c + 1 : Nat) : Int)] dX7_yearlessWeight_59 rfl (by omega) (Nat.le_of_ble_eq_true rfl) rfl rfl ?_
          refine zx_goto (tgt := 5) dX7_yearlessWeight_62 (by decide) ?_
          exact ih5 (c + 1) acc (by first | assumption | omega) (by
               subst hacc
               first
               | exact zsw_t (P := fun c => (H c ∧ ¬ isY (bk σ 30) c) ∧ pFit (bk σ 30) p c) (v := bk σ 30 16) ⟨⟨h24, h33⟩, h43⟩
               | exact zsw_f (P := fun c => (H c ∧ ¬ isY (bk σ 30) c) ∧ pFit (bk σ 30) p c) (v := bk σ 30 16) (fun q => h24 q.1.1)
               | exact zsw_f (P := fun c => (H c ∧ ¬ isY (bk σ 30) c) ∧ pFit (bk σ 30) p c) (v := bk σ 30 16) (fun q => q.1.2 h33)
               | exact zsw_f (P := fun c => (H c ∧ ¬ isY (bk σ 30) c) ∧ pFit (bk σ 30) p c) (v := bk σ 30 16) (fun q => h43 q.2)) (by omega)
        · have h24 := zb_n.mp h24
          refine zx_aloadN dX7_yearlessWeight_27 rfl rfl ?_
          refine zx_iload dX7_yearlessWeight_28 rfl ?_
          refine zy_cv [zi ((c : Nat) : Int)] (sX1_dependsOnYear  hfl hz (by first | assumption | omega) (by first | assumption | omega | (show (c : Int) < σ.1 42 0; omega))) dX7_yearlessWeight_30 (by decide) rfl cw_RX7_93 okX1_dependsOnYear rfl (Nat.le_of_ble_eq_true rfl) ⟨Nat.le_of_ble_eq_true rfl, Nat.le_of_ble_eq_true rfl, Nat.le_of_ble_eq_true rfl, Nat.le_of_ble_eq_true rfl⟩ ?_
          refine zy_top (b := zb (σ.1 44 c = 2 ∨ σ.1 44 c = 4)) rfl ?_
          refine zy_top (b := zb (isY (bk σ 30) c)) (rfl) ?_
          refine zx_if_ne (tgt := 59) (by first | exact hz _ _ | assumption | exact zr_b _ | exact zcmp_r _ _ | (unfold zr at *; omega)) dX7_yearlessWeight_33 (by decide) (fun h33 => ?_) (fun h33 => ?_)
          · have h33 := zb_n.mp h33
            refine zy_iinc (b := ((c + 1 : Nat) : Int)) [zf 7 252, zf 1 30, zi ((p : Nat) : Int), zi acc, zi ((c + 1 : Nat) : Int)] dX7_yearlessWeight_59 rfl (by omega) (Nat.le_of_ble_eq_true rfl) rfl rfl ?_
            refine zx_goto (tgt := 5) dX7_yearlessWeight_62 (by decide) ?_
            exact ih5 (c + 1) acc (by first | assumption | omega) (by
                 subst hacc
                 first
                 | exact zsw_t (P := fun c => (H c ∧ ¬ isY (bk σ 30) c) ∧ pFit (bk σ 30) p c) (v := bk σ 30 16) ⟨⟨h24, h33⟩, h43⟩
                 | exact zsw_f (P := fun c => (H c ∧ ¬ isY (bk σ 30) c) ∧ pFit (bk σ 30) p c) (v := bk σ 30 16) (fun q => h24 q.1.1)
                 | exact zsw_f (P := fun c => (H c ∧ ¬ isY (bk σ 30) c) ∧ pFit (bk σ 30) p c) (v := bk σ 30 16) (fun q => q.1.2 h33)
                 | exact zsw_f (P := fun c => (H c ∧ ¬ isY (bk σ 30) c) ∧ pFit (bk σ 30) p c) (v := bk σ 30 16) (fun q => h43 q.2)) (by omega)
          · have h33 := zb_0.mp h33
            refine zx_aloadN dX7_yearlessWeight_36 rfl rfl ?_
            refine zx_iloadN dX7_yearlessWeight_37 rfl rfl ?_
            refine zx_iload dX7_yearlessWeight_38 rfl ?_
            refine zy_cv [zi ((p : Nat) : Int), zi ((c : Nat) : Int)] (sX1_printerFits  hfl hz (by first | assumption | omega) (by first | assumption | omega | (show (p : Int) < σ.1 31 0; omega)) (by first | assumption | omega | (show (c : Int) < σ.1 42 0; omega))) dX7_yearlessWeight_40 (by decide) rfl cw_RX7_123 okX1_printerFits rfl (Nat.le_of_ble_eq_true rfl) ⟨Nat.le_of_ble_eq_true rfl, Nat.le_of_ble_eq_true rfl, Nat.le_of_ble_eq_true rfl, Nat.le_of_ble_eq_true rfl⟩ ?_
            refine zx_if_eq (tgt := 59) (by first | exact hz _ _ | assumption | exact zr_b _ | exact zcmp_r _ _ | (unfold zr at *; omega)) dX7_yearlessWeight_43 (by decide) (fun h43 => ?_) (fun h43 => ?_)
            · have h43 := zb_0.mp h43
              refine zy_iinc (b := ((c + 1 : Nat) : Int)) [zf 7 252, zf 1 30, zi ((p : Nat) : Int), zi acc, zi ((c + 1 : Nat) : Int)] dX7_yearlessWeight_59 rfl (by omega) (Nat.le_of_ble_eq_true rfl) rfl rfl ?_
              refine zx_goto (tgt := 5) dX7_yearlessWeight_62 (by decide) ?_
              exact ih5 (c + 1) acc (by first | assumption | omega) (by
                   subst hacc
                   first
                   | exact zsw_t (P := fun c => (H c ∧ ¬ isY (bk σ 30) c) ∧ pFit (bk σ 30) p c) (v := bk σ 30 16) ⟨⟨h24, h33⟩, h43⟩
                   | exact zsw_f (P := fun c => (H c ∧ ¬ isY (bk σ 30) c) ∧ pFit (bk σ 30) p c) (v := bk σ 30 16) (fun q => h24 q.1.1)
                   | exact zsw_f (P := fun c => (H c ∧ ¬ isY (bk σ 30) c) ∧ pFit (bk σ 30) p c) (v := bk σ 30 16) (fun q => q.1.2 h33)
                   | exact zsw_f (P := fun c => (H c ∧ ¬ isY (bk σ 30) c) ∧ pFit (bk σ 30) p c) (v := bk σ 30 16) (fun q => h43 q.2)) (by omega)
            · have h43 := zb_n.mp h43
              refine zx_iloadN dX7_yearlessWeight_46 rfl rfl ?_
              refine zx_aloadN dX7_yearlessWeight_47 rfl rfl ?_
              refine zy_getR (q' := 42) fl_RX7_35 rfl dX7_yearlessWeight_48 rfl ?_
              refine zy_getR (q' := 46) fl_RX7_102 rfl dX7_yearlessWeight_51 rfl ?_
              refine zx_iload dX7_yearlessWeight_54 rfl ?_
              refine zy_iald (v := σ.1 46 c) rfl (by decide) (by decide) dX7_yearlessWeight_56 (by omega) (by omega) rfl ?_
              refine zx_iadd dX7_yearlessWeight_57 ?_
              refine zy_istoreN [zf 7 252, zf 1 30, zi ((p : Nat) : Int), zi (acc + (σ.1 46 c)), zi ((c : Nat) : Int)] dX7_yearlessWeight_58 rfl (Nat.le_of_ble_eq_true rfl) (Nat.le_of_ble_eq_true rfl) rfl rfl ?_
              refine zy_iinc (b := ((c + 1 : Nat) : Int)) [zf 7 252, zf 1 30, zi ((p : Nat) : Int), zi (acc + (σ.1 46 c)), zi ((c + 1 : Nat) : Int)] dX7_yearlessWeight_59 rfl (by omega) (Nat.le_of_ble_eq_true rfl) rfl rfl ?_
              refine zx_goto (tgt := 5) dX7_yearlessWeight_62 (by decide) ?_
              exact ih5 (c + 1) (acc + (σ.1 46 c)) (by first | assumption | omega) (by
                   subst hacc
                   first
                   | exact zsw_t (P := fun c => (H c ∧ ¬ isY (bk σ 30) c) ∧ pFit (bk σ 30) p c) (v := bk σ 30 16) ⟨⟨h24, h33⟩, h43⟩
                   | exact zsw_f (P := fun c => (H c ∧ ¬ isY (bk σ 30) c) ∧ pFit (bk σ 30) p c) (v := bk σ 30 16) (fun q => h24 q.1.1)
                   | exact zsw_f (P := fun c => (H c ∧ ¬ isY (bk σ 30) c) ∧ pFit (bk σ 30) p c) (v := bk σ 30 16) (fun q => q.1.2 h33)
                   | exact zsw_f (P := fun c => (H c ∧ ¬ isY (bk σ 30) c) ∧ pFit (bk σ 30) p c) (v := bk σ 30 16) (fun q => h43 q.2)) (by omega)
  exact L5 _ 0 0 (by first | assumption | omega) rfl (Nat.lt_succ_self _)
set_option maxRecDepth 20000 in
set_option maxHeartbeats 2000000 in
theorem sX7_printerAt {l : Launch} {w : zW} (hfl : l.stackTraces = false) {σ : zS} {x : Int} (hz : zOK σ) (hx : zr x) (hP : 0 ≤ σ.1 252 5 ∧ σ.1 252 5 ≤ 8) : Sp l w mX7_printerAt 0 0 [zf 7 252, zi x] σ (zret (zi (if 0 ≤ x ∧ x < σ.1 252 5 then σ.1 258 x.toNat else -1)) σ) := by
  obtain ⟨Q, hQ⟩ : ∃ Q : zQ, Q = (zret (zi (if 0 ≤ x ∧ x < σ.1 252 5 then σ.1 258 x.toNat else -1)) σ) := ⟨_, rfl⟩
  rw [← hQ]
  refine zx_enter hfl (by decide) rfl 0 rfl ?_
  show zX l w mX7_printerAt (zMQ w 0 0 Q) 0 [zf 7 252, zi x] [] 0 σ
  refine zx_iloadN dX7_printerAt_0 rfl rfl ?_
  refine zx_if_lt (tgt := 21) (by first | exact hz _ _ | assumption | exact zr_b _ | exact zcmp_r _ _ | (unfold zr at *; omega)) dX7_printerAt_1 (by decide) (fun h1 => ?_) (fun h1 => ?_)
  · refine zx_iconst dX7_printerAt_21 ?_
    refine zx_iret rfl rfl dX7_printerAt_22 ?_
    rw [hQ]
    refine ⟨congrArg (fun z : Int => (Sum.inl (some (zi z)) : Option zV ⊕ String)) ?_, by first | rfl | (exfalso; omega)⟩
    first | exact (if_pos (by omega)).symm | exact (if_neg (by omega)).symm
  · refine zx_iloadN dX7_printerAt_4 rfl rfl ?_
    refine zx_aloadN dX7_printerAt_5 rfl rfl ?_
    refine zy_getI fl_RX7_28 rfl dX7_printerAt_6 rfl ?_
    refine zx_icmp_ge (tgt := 21) (by first | exact hz _ _ | assumption | exact zr_b _ | exact zcmp_r _ _ | (unfold zr at *; omega)) (by first | exact hz _ _ | assumption | exact zr_b _ | exact zcmp_r _ _ | (unfold zr at *; omega)) dX7_printerAt_9 (by decide) (fun h9 => ?_) (fun h9 => ?_)
    · refine zx_iconst dX7_printerAt_21 ?_
      refine zx_iret rfl rfl dX7_printerAt_22 ?_
      rw [hQ]
      refine ⟨congrArg (fun z : Int => (Sum.inl (some (zi z)) : Option zV ⊕ String)) ?_, by first | rfl | (exfalso; omega)⟩
      first | exact (if_pos (by omega)).symm | exact (if_neg (by omega)).symm
    · refine zx_aloadN dX7_printerAt_12 rfl rfl ?_
      refine zy_getR (q' := 258) fl_RX7_32 rfl dX7_printerAt_13 rfl ?_
      refine zx_iloadN dX7_printerAt_16 rfl rfl ?_
      refine zy_iald (v := σ.1 258 x.toNat) rfl (by decide) (by decide) dX7_printerAt_17 (by omega) (by omega) rfl ?_
      refine zx_goto (tgt := 22) dX7_printerAt_18 (by decide) ?_
      refine zx_iret rfl rfl dX7_printerAt_22 ?_
      rw [hQ]
      refine ⟨congrArg (fun z : Int => (Sum.inl (some (zi z)) : Option zV ⊕ String)) ?_, by first | rfl | (exfalso; omega)⟩
      first | exact (if_pos (by omega)).symm | exact (if_neg (by omega)).symm
set_option maxRecDepth 20000 in
set_option maxHeartbeats 2000000 in
theorem sX7_scoreAt_0 {l : Launch} {w : zW} (hfl : l.stackTraces = false) {σ : zS} {x : Int} (hz : zOK σ) (hx : zr x) (hP : 0 ≤ σ.1 252 5 ∧ σ.1 252 5 ≤ 8) (hw : ¬ (0 ≤ x ∧ x < σ.1 252 5)) : Sp l w mX7_scoreAt 1 0 [zf 7 252, zi x] σ (zret (zi 0) σ) := by
  obtain ⟨Q, hQ⟩ : ∃ Q : zQ, Q = (zret (zi 0) σ) := ⟨_, rfl⟩
  rw [← hQ]
  refine zx_enter hfl (by decide) rfl 1 rfl ?_
  show zX l w mX7_scoreAt (zMQ w 1 0 Q) 0 [zf 7 252, zi x, zu] [] 0 σ
  refine zx_aloadN dX7_scoreAt_0 rfl rfl ?_
  refine zx_iloadN dX7_scoreAt_1 rfl rfl ?_
  refine zy_cv [zi x] (sX7_printerAt  hfl hz (by first | exact hz _ _ | assumption | exact zr_b _ | exact zcmp_r _ _ | (unfold zr at *; omega)) (by first | assumption | omega)) dX7_scoreAt_2 (by decide) rfl cw_RX7_130 okX7_printerAt rfl (Nat.le_of_ble_eq_true rfl) ⟨Nat.le_of_ble_eq_true rfl, Nat.le_of_ble_eq_true rfl, Nat.le_of_ble_eq_true rfl, Nat.le_of_ble_eq_true rfl⟩ ?_
  refine zy_top (b := -1) (if_neg hw) ?_
  refine zy_istoreN [zf 7 252, zi x, zi (-1)] dX7_scoreAt_5 rfl (Nat.le_of_ble_eq_true rfl) (Nat.le_of_ble_eq_true rfl) rfl rfl ?_
  refine zx_iloadN dX7_scoreAt_6 rfl rfl ?_
  refine zx_iconst dX7_scoreAt_7 ?_
  refine zx_bipush dX7_scoreAt_8 rfl ?_
  refine zy_cn [zi (-1), zi 0, zi 7] (sX9_isWithin  hfl hz (by first | exact hz _ _ | assumption | exact zr_b _ | exact zcmp_r _ _ | (unfold zr at *; omega)) (by first | exact hz _ _ | assumption | exact zr_b _ | exact zcmp_r _ _ | (unfold zr at *; omega)) (by first | exact hz _ _ | assumption | exact zr_b _ | exact zcmp_r _ _ | (unfold zr at *; omega))) dX7_scoreAt_10 cw_RX7_133 okX9_isWithin rfl (Nat.le_of_ble_eq_true rfl) ⟨Nat.le_of_ble_eq_true rfl, Nat.le_of_ble_eq_true rfl, Nat.le_of_ble_eq_true rfl, Nat.le_of_ble_eq_true rfl⟩ ?_
  refine zx_if_eq (tgt := 25) (by first | exact hz _ _ | assumption | exact zr_b _ | exact zcmp_r _ _ | (unfold zr at *; omega)) dX7_scoreAt_13 (by decide) (fun h13 => ?_) (fun h13 => ?_)
  · have h13 := zb_0.mp h13
    refine zx_iconst dX7_scoreAt_25 ?_
    refine zx_iret rfl rfl dX7_scoreAt_26 ?_
    rw [hQ]
    refine ⟨congrArg (fun z : Int => (Sum.inl (some (zi z)) : Option zV ⊕ String)) ?_, by first | rfl | (exfalso; omega)⟩
    first | rfl | omega | (split <;> first | rfl | omega)
  · have h13 := zb_n.mp h13
    refine zx_aloadN dX7_scoreAt_16 rfl rfl ?_
    refine zy_getR (q' := 256) fl_RX7_22 rfl dX7_scoreAt_17 rfl ?_
    refine zx_iloadN dX7_scoreAt_20 rfl rfl ?_
    refine zy_iald (v := σ.1 256 ((-1).toNat)) rfl (by decide) (by decide) dX7_scoreAt_21 (by omega) (by omega) rfl ?_
    refine zx_goto (tgt := 26) dX7_scoreAt_22 (by decide) ?_
    refine zx_iret rfl rfl dX7_scoreAt_26 ?_
    rw [hQ]
    refine ⟨congrArg (fun z : Int => (Sum.inl (some (zi z)) : Option zV ⊕ String)) ?_, by first | rfl | (exfalso; omega)⟩
    first | rfl | omega | (split <;> first | rfl | omega)
set_option maxRecDepth 20000 in
set_option maxHeartbeats 2000000 in
theorem sX7_scoreAt {l : Launch} {w : zW} (hfl : l.stackTraces = false) {σ : zS} {x : Int} (hz : zOK σ) (hx : zr x) (hP : 0 ≤ σ.1 252 5 ∧ σ.1 252 5 ≤ 8) (hw : 0 ≤ x ∧ x < σ.1 252 5) (hR : 0 ≤ σ.1 258 x.toNat ∧ σ.1 258 x.toNat < 8) : Sp l w mX7_scoreAt 1 0 [zf 7 252, zi x] σ (zret (zi (σ.1 256 (σ.1 258 x.toNat).toNat)) σ) := by
  obtain ⟨Q, hQ⟩ : ∃ Q : zQ, Q = (zret (zi (σ.1 256 (σ.1 258 x.toNat).toNat)) σ) := ⟨_, rfl⟩
  rw [← hQ]
  refine zx_enter hfl (by decide) rfl 1 rfl ?_
  show zX l w mX7_scoreAt (zMQ w 1 0 Q) 0 [zf 7 252, zi x, zu] [] 0 σ
  refine zx_aloadN dX7_scoreAt_0 rfl rfl ?_
  refine zx_iloadN dX7_scoreAt_1 rfl rfl ?_
  refine zy_cv [zi x] (sX7_printerAt  hfl hz (by first | exact hz _ _ | assumption | exact zr_b _ | exact zcmp_r _ _ | (unfold zr at *; omega)) (by first | assumption | omega)) dX7_scoreAt_2 (by decide) rfl cw_RX7_130 okX7_printerAt rfl (Nat.le_of_ble_eq_true rfl) ⟨Nat.le_of_ble_eq_true rfl, Nat.le_of_ble_eq_true rfl, Nat.le_of_ble_eq_true rfl, Nat.le_of_ble_eq_true rfl⟩ ?_
  refine zy_top (b := σ.1 258 x.toNat) (if_pos hw) ?_
  refine zy_istoreN [zf 7 252, zi x, zi (σ.1 258 x.toNat)] dX7_scoreAt_5 rfl (Nat.le_of_ble_eq_true rfl) (Nat.le_of_ble_eq_true rfl) rfl rfl ?_
  refine zx_iloadN dX7_scoreAt_6 rfl rfl ?_
  refine zx_iconst dX7_scoreAt_7 ?_
  refine zx_bipush dX7_scoreAt_8 rfl ?_
  refine zy_cn [zi (σ.1 258 x.toNat), zi 0, zi 7] (sX9_isWithin  hfl hz (by first | exact hz _ _ | assumption | exact zr_b _ | exact zcmp_r _ _ | (unfold zr at *; omega)) (by first | exact hz _ _ | assumption | exact zr_b _ | exact zcmp_r _ _ | (unfold zr at *; omega)) (by first | exact hz _ _ | assumption | exact zr_b _ | exact zcmp_r _ _ | (unfold zr at *; omega))) dX7_scoreAt_10 cw_RX7_133 okX9_isWithin rfl (Nat.le_of_ble_eq_true rfl) ⟨Nat.le_of_ble_eq_true rfl, Nat.le_of_ble_eq_true rfl, Nat.le_of_ble_eq_true rfl, Nat.le_of_ble_eq_true rfl⟩ ?_
  refine zx_if_eq (tgt := 25) (by first | exact hz _ _ | assumption | exact zr_b _ | exact zcmp_r _ _ | (unfold zr at *; omega)) dX7_scoreAt_13 (by decide) (fun h13 => ?_) (fun h13 => ?_)
  · have h13 := zb_0.mp h13
    refine zx_iconst dX7_scoreAt_25 ?_
    refine zx_iret rfl rfl dX7_scoreAt_26 ?_
    rw [hQ]
    refine ⟨congrArg (fun z : Int => (Sum.inl (some (zi z)) : Option zV ⊕ String)) ?_, by first | rfl | (exfalso; omega)⟩
    first | rfl | omega | (split <;> first | rfl | omega)
  · have h13 := zb_n.mp h13
    refine zx_aloadN dX7_scoreAt_16 rfl rfl ?_
    refine zy_getR (q' := 256) fl_RX7_22 rfl dX7_scoreAt_17 rfl ?_
    refine zx_iloadN dX7_scoreAt_20 rfl rfl ?_
    refine zy_iald (v := σ.1 256 ((σ.1 258 x.toNat).toNat)) rfl (by decide) (by decide) dX7_scoreAt_21 (by omega) (by omega) rfl ?_
    refine zx_goto (tgt := 26) dX7_scoreAt_22 (by decide) ?_
    refine zx_iret rfl rfl dX7_scoreAt_26 ?_
    rw [hQ]
    refine ⟨congrArg (fun z : Int => (Sum.inl (some (zi z)) : Option zV ⊕ String)) ?_, by first | rfl | (exfalso; omega)⟩
    first | rfl | omega | (split <;> first | rfl | omega)
set_option maxRecDepth 20000 in
set_option maxHeartbeats 2000000 in
theorem sX7_rank {l : Launch} {w : zW} (hfl : l.stackTraces = false) {σ : zS} {p : Nat} (hz : zOK σ) (hp : σ.1 252 5 = p ∧ p < 8) (hR : ∀ i : Nat, i < p → 0 ≤ σ.1 258 i ∧ σ.1 258 i < p) : Sp l w mX7_rank 2 0 [zf 7 252, zi ((p : Nat) : Int)] σ (zqv (none) (fun τ => zOK τ ∧ (∀ q, ¬ (q = 252 ∨ q = 258) → ∀ i, τ.1 q i = σ.1 q i) ∧ τ.2 = σ.2 ∧ τ.1 252 5 = p + 1 ∧ ∃ j : Nat, j ≤ p ∧ τ.1 258 j = p ∧ (∀ i, i < j → τ.1 258 i = σ.1 258 i) ∧ (∀ i, j ≤ i → i < p → τ.1 258 (i + 1) = σ.1 258 i ∧ σ.1 256 (σ.1 258 i).toNat < σ.1 256 p) ∧ (0 < j → σ.1 256 p ≤ σ.1 256 (σ.1 258 (j - 1)).toNat))) := by
  obtain ⟨Q, hQ⟩ : ∃ Q : zQ, Q = (zqv (none) (fun τ => zOK τ ∧ (∀ q, ¬ (q = 252 ∨ q = 258) → ∀ i, τ.1 q i = σ.1 q i) ∧ τ.2 = σ.2 ∧ τ.1 252 5 = p + 1 ∧ ∃ j : Nat, j ≤ p ∧ τ.1 258 j = p ∧ (∀ i, i < j → τ.1 258 i = σ.1 258 i) ∧ (∀ i, j ≤ i → i < p → τ.1 258 (i + 1) = σ.1 258 i ∧ σ.1 256 (σ.1 258 i).toNat < σ.1 256 p) ∧ (0 < j → σ.1 256 p ≤ σ.1 256 (σ.1 258 (j - 1)).toNat))) := ⟨_, rfl⟩
  rw [← hQ]
  refine zx_enter hfl (by decide) rfl 1 rfl ?_
  show zX l w mX7_rank (zMQ w 2 0 Q) 0 [zf 7 252, zi ((p : Nat) : Int), zu] [] 0 σ
  refine zx_aloadN dX7_rank_0 rfl rfl ?_
  refine zy_getI fl_RX7_28 rfl dX7_rank_1 rfl ?_
  refine zx_if_lt (tgt := 16) (by first | exact hz _ _ | assumption | exact zr_b _ | exact zcmp_r _ _ | (unfold zr at *; omega)) dX7_rank_4 (by decide) (fun h4 => ?_) (fun h4 => ?_)
  · exfalso; omega
  · refine zx_aloadN dX7_rank_7 rfl rfl ?_
    refine zy_getI fl_RX7_28 rfl dX7_rank_8 rfl ?_
    refine zx_bipush dX7_rank_11 rfl ?_
    refine zx_icmp_lt (tgt := 17) (by first | exact hz _ _ | assumption | exact zr_b _ | exact zcmp_r _ _ | (unfold zr at *; omega)) (by first | exact hz _ _ | assumption | exact zr_b _ | exact zcmp_r _ _ | (unfold zr at *; omega)) dX7_rank_13 (by decide) (fun h13 => ?_) (fun h13 => ?_)
    · refine zx_aloadN dX7_rank_17 rfl rfl ?_
      refine zy_getI fl_RX7_28 rfl dX7_rank_18 rfl ?_
      refine zy_top (b := ((p : Nat) : Int)) (by omega) ?_
      refine zy_istoreN [zf 7 252, zi ((p : Nat) : Int), zi ((p : Nat) : Int)] dX7_rank_21 rfl (Nat.le_of_ble_eq_true rfl) (Nat.le_of_ble_eq_true rfl) rfl rfl ?_
      refine zx_aloadN dX7_rank_22 rfl rfl ?_
      refine zx_dup rfl dX7_rank_23 ?_
      refine zy_getI fl_RX7_28 rfl dX7_rank_24 rfl ?_
      refine zx_iconst dX7_rank_27 ?_
      refine zx_iadd dX7_rank_28 ?_
      refine zx_putI fl_RX7_28 rfl (Or.inl fp_7_5) dX7_rank_29 ?_
      have L32 : ∀ (N : Nat) (τ : zS) (j : Nat), (zOK τ) → (∀ q, ¬ (q = 252 ∨ q = 258) → ∀ i, τ.1 q i = σ.1 q i) → (τ.2 = σ.2) → (τ.1 252 5 = p + 1) → (j ≤ p) → (∀ i, i < j → τ.1 258 i = σ.1 258 i) → (∀ i, j ≤ i → i < p → τ.1 258 (i + 1) = σ.1 258 i ∧ σ.1 256 (σ.1 258 i).toNat < σ.1 256 p) → j < N → zX l w mX7_rank (zMQ w 2 0 Q) 32 [zf 7 252, zi ((p : Nat) : Int), zi ((j : Nat) : Int)] [] 0 τ := by
        intro N
        induction N with
        | zero => intro τ j _ _ _ _ _ _ _ _; exact absurd (by assumption) (Nat.not_lt_zero _)
        | succ N ih32 =>
          intro τ j hz h1 h1b h2 h9 h10 h11 hN
          have hR1 := hR (j - 1)
          have e10 := h10 (j - 1)
          have hp2 := h1 256 (by omega) p
          have hP2 : 0 ≤ τ.1 252 5 ∧ τ.1 252 5 ≤ 8 := by omega
          refine zx_iloadN dX7_rank_32 rfl rfl ?_
          refine zx_if_le (tgt := 72) (by first | exact hz _ _ | assumption | exact zr_b _ | exact zcmp_r _ _ | (unfold zr at *; omega)) dX7_rank_33 (by decide) (fun h33 => ?_) (fun h33 => ?_)
          · refine zx_aloadN dX7_rank_72 rfl rfl ?_
            refine zy_getR (q' := 258) fl_RX7_32 rfl dX7_rank_73 rfl ?_
            refine zx_iloadN dX7_rank_76 rfl rfl ?_
            refine zx_iloadN dX7_rank_77 rfl rfl ?_
            refine zy_iast (i := j) rfl (by decide) (by decide) dX7_rank_78 (by omega) (by omega) rfl ?_
            refine zx_vret rfl dX7_rank_79 ?_
            rw [hQ]
            refine ⟨rfl, ?_⟩
            refine ⟨(zOK_put hz (by first | exact hz _ _ | assumption | exact zr_b _ | exact zcmp_r _ _ | (unfold zr at *; omega))), fun q hq i => (zput_k _ _ _ _ _ (by omega)).trans (h1 q hq i), h1b, (zput_k _ _ _ _ _ (by omega)).trans h2, j, h9, zput_s _ _ _ _, fun i hi => (zput_i _ _ _ _ _ (by omega)).trans (h10 i hi), fun i hi hi2 => ⟨(zput_i _ _ _ _ _ (by omega)).trans (h11 i hi hi2).1, (h11 i hi hi2).2⟩, fun hj0 => ?_⟩
            have q2 := h1 256 (by omega) (σ.1 258 (j - 1)).toNat
            have q3 := h1 256 (by omega) p
            have q4 := h10 (j - 1) (by omega)
            first
            | (exfalso; omega)
            | (rw [q4] at h49; omega)
          · refine zx_aloadN dX7_rank_36 rfl rfl ?_
            refine zx_iloadN dX7_rank_37 rfl rfl ?_
            refine zx_iconst dX7_rank_38 ?_
            refine zx_isub dX7_rank_39 ?_
            refine zy_top (b := ((j - 1 : Nat) : Int)) (by omega) ?_
            refine zy_cv [zi ((j - 1 : Nat) : Int)] (sX7_scoreAt  hfl hz (by first | exact hz _ _ | assumption | exact zr_b _ | exact zcmp_r _ _ | (unfold zr at *; omega)) (by first | assumption | omega) (by first | assumption | omega) (by rw [Int.toNat_natCast]; omega)) dX7_rank_40 (by decide) rfl cw_RX7_127 okX7_scoreAt rfl (Nat.le_of_ble_eq_true rfl) ⟨Nat.le_of_ble_eq_true rfl, Nat.le_of_ble_eq_true rfl, Nat.le_of_ble_eq_true rfl, Nat.le_of_ble_eq_true rfl⟩ ?_
            refine zy_top (b := τ.1 256 (τ.1 258 (j - 1)).toNat) rfl ?_
            refine zx_aloadN dX7_rank_43 rfl rfl ?_
            refine zy_getR (q' := 256) fl_RX7_22 rfl dX7_rank_44 rfl ?_
            refine zx_iloadN dX7_rank_47 rfl rfl ?_
            refine zy_iald (v := τ.1 256 p) rfl (by decide) (by decide) dX7_rank_48 (by omega) (by omega) rfl ?_
            refine zx_icmp_ge (tgt := 72) (by first | exact hz _ _ | assumption | exact zr_b _ | exact zcmp_r _ _ | (unfold zr at *; omega)) (by first | exact hz _ _ | assumption | exact zr_b _ | exact zcmp_r _ _ | (unfold zr at *; omega)) dX7_rank_49 (by decide) (fun h49 => ?_) (fun h49 => ?_)
            · refine zx_aloadN dX7_rank_72 rfl rfl ?_
              refine zy_getR (q' := 258) fl_RX7_32 rfl dX7_rank_73 rfl ?_
              refine zx_iloadN dX7_rank_76 rfl rfl ?_
              refine zx_iloadN dX7_rank_77 rfl rfl ?_
              refine zy_iast (i := j) rfl (by decide) (by decide) dX7_rank_78 (by omega) (by omega) rfl ?_
              refine zx_vret rfl dX7_rank_79 ?_
              rw [hQ]
              refine ⟨rfl, ?_⟩
              refine ⟨(zOK_put hz (by first | exact hz _ _ | assumption | exact zr_b _ | exact zcmp_r _ _ | (unfold zr at *; omega))), fun q hq i => (zput_k _ _ _ _ _ (by omega)).trans (h1 q hq i), h1b, (zput_k _ _ _ _ _ (by omega)).trans h2, j, h9, zput_s _ _ _ _, fun i hi => (zput_i _ _ _ _ _ (by omega)).trans (h10 i hi), fun i hi hi2 => ⟨(zput_i _ _ _ _ _ (by omega)).trans (h11 i hi hi2).1, (h11 i hi hi2).2⟩, fun hj0 => ?_⟩
              have q2 := h1 256 (by omega) (σ.1 258 (j - 1)).toNat
              have q3 := h1 256 (by omega) p
              have q4 := h10 (j - 1) (by omega)
              first
              | (exfalso; omega)
              | (rw [q4] at h49; omega)
            · refine zx_aloadN dX7_rank_52 rfl rfl ?_
              refine zy_getR (q' := 258) fl_RX7_32 rfl dX7_rank_53 rfl ?_
              refine zx_iloadN dX7_rank_56 rfl rfl ?_
              refine zx_aloadN dX7_rank_57 rfl rfl ?_
              refine zy_getR (q' := 258) fl_RX7_32 rfl dX7_rank_58 rfl ?_
              refine zx_iloadN dX7_rank_61 rfl rfl ?_
              refine zx_iconst dX7_rank_62 ?_
              refine zx_isub dX7_rank_63 ?_
              refine zy_top (b := ((j - 1 : Nat) : Int)) (by omega) ?_
              refine zy_iald (v := τ.1 258 (j - 1)) rfl (by decide) (by decide) dX7_rank_64 (by omega) (by omega) rfl ?_
              refine zy_iast (i := j) rfl (by decide) (by decide) dX7_rank_65 (by omega) (by omega) rfl ?_
              refine zy_iinc (b := ((j - 1 : Nat) : Int)) [zf 7 252, zi ((p : Nat) : Int), zi ((j - 1 : Nat) : Int)] dX7_rank_66 rfl (by omega) (Nat.le_of_ble_eq_true rfl) rfl rfl ?_
              refine zx_goto (tgt := 32) dX7_rank_69 (by decide) ?_
              exact ih32 (zput τ 258 j (τ.1 258 (j - 1))) (j - 1) (zOK_put hz (by first | exact hz _ _ | assumption | exact zr_b _ | exact zcmp_r _ _ | (unfold zr at *; omega))) (fun q hq i => (zput_k _ _ _ _ _ (by omega)).trans (h1 q hq i)) h1b ((zput_k _ _ _ _ _ (by omega)).trans h2) (by omega) (fun i hi => (zput_i _ _ _ _ _ (by omega)).trans (h10 i (by omega))) (fun i hi hi2 => by
                    by_cases e : i + 1 = j
                    · have e2 : i = j - 1 := by omega
                      subst e2
                      refine ⟨by rw [e, zput_s]; exact h10 _ (by omega), ?_⟩
                      have q2 := h1 256 (by omega) (σ.1 258 (j - 1)).toNat
                      have q3 := h1 256 (by omega) p
                      have q4 := h10 (j - 1) (by omega)
                      rw [q4] at h49
                      omega
                    · exact ⟨(zput_i _ _ _ _ _ (by omega)).trans (h11 i (by omega) hi2).1, (h11 i (by omega) hi2).2⟩) (by omega)
      exact L32 _ (zput σ 252 5 ((σ.1 252 5) + 1)) p (zOK_put hz (by first | exact hz _ _ | assumption | exact zr_b _ | exact zcmp_r _ _ | (unfold zr at *; omega))) (fun q hq i => zput_k _ _ _ _ _ (by omega)) rfl (by rw [zput_s]; omega) (by omega) (fun i hi => zput_k _ _ _ _ _ (by omega)) (fun i h1 h2 => absurd h2 (by omega)) (Nat.lt_succ_self _)
    · exfalso; omega

