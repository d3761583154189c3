abbrev mX4_sectionAt : zM := (yX4_sectionAt, cX4_sectionAt, 1, (some .int), [])
theorem okX4_sectionAt : zMok mX4_sectionAt 1 := ⟨by decide, by decide, by decide +kernel⟩
theorem dX4_sectionAt_0 : decode cX4_sectionAt 0 = .ok (.aload_n 0, 1) := by decide +kernel
theorem dX4_sectionAt_1 : decode cX4_sectionAt 1 = .ok (.ldc 66, 2) := by decide +kernel
theorem dX4_sectionAt_3 : decode cX4_sectionAt 3 = .ok (.invokevirtual 68, 3) := by decide +kernel
theorem cw_RX4_68 : zCwV RX4 68 mX6_isAt := zall [410, 411, 412, 32, 413] (by decide +kernel) (by decide +kernel)
theorem dX4_sectionAt_6 : decode cX4_sectionAt 6 = .ok (.ifCond .eq 5, 3) := by decide +kernel
theorem dX4_sectionAt_11 : decode cX4_sectionAt 11 = .ok (.aload_n 0, 1) := by decide +kernel
theorem dX4_sectionAt_12 : decode cX4_sectionAt 12 = .ok (.ldc 72, 2) := by decide +kernel
theorem dX4_sectionAt_14 : decode cX4_sectionAt 14 = .ok (.invokevirtual 68, 3) := by decide +kernel
theorem dX4_sectionAt_17 : decode cX4_sectionAt 17 = .ok (.ifCond .eq 5, 3) := by decide +kernel
theorem dX4_sectionAt_22 : decode cX4_sectionAt 22 = .ok (.aload_n 0, 1) := by decide +kernel
theorem dX4_sectionAt_23 : decode cX4_sectionAt 23 = .ok (.ldc 74, 2) := by decide +kernel
theorem dX4_sectionAt_25 : decode cX4_sectionAt 25 = .ok (.invokevirtual 68, 3) := by decide +kernel
theorem dX4_sectionAt_28 : decode cX4_sectionAt 28 = .ok (.ifCond .eq 5, 3) := by decide +kernel
theorem dX4_sectionAt_33 : decode cX4_sectionAt 33 = .ok (.aload_n 0, 1) := by decide +kernel
theorem dX4_sectionAt_34 : decode cX4_sectionAt 34 = .ok (.ldc 76, 2) := by decide +kernel
theorem dX4_sectionAt_36 : decode cX4_sectionAt 36 = .ok (.invokevirtual 68, 3) := by decide +kernel
theorem dX4_sectionAt_39 : decode cX4_sectionAt 39 = .ok (.ifCond .eq 5, 3) := by decide +kernel
theorem dX4_sectionAt_44 : decode cX4_sectionAt 44 = .ok (.aload_n 0, 1) := by decide +kernel
theorem dX4_sectionAt_45 : decode cX4_sectionAt 45 = .ok (.ldc 78, 2) := by decide +kernel
theorem dX4_sectionAt_47 : decode cX4_sectionAt 47 = .ok (.invokevirtual 68, 3) := by decide +kernel
theorem dX4_sectionAt_50 : decode cX4_sectionAt 50 = .ok (.ifCond .eq 5, 3) := by decide +kernel
theorem dX4_sectionAt_55 : decode cX4_sectionAt 55 = .ok (.aload_n 0, 1) := by decide +kernel
theorem dX4_sectionAt_56 : decode cX4_sectionAt 56 = .ok (.ldc 80, 2) := by decide +kernel
theorem dX4_sectionAt_58 : decode cX4_sectionAt 58 = .ok (.invokevirtual 68, 3) := by decide +kernel
theorem dX4_sectionAt_61 : decode cX4_sectionAt 61 = .ok (.ifCond .eq 7, 3) := by decide +kernel
theorem dX4_sectionAt_68 : decode cX4_sectionAt 68 = .ok (.iconst (-1), 1) := by decide +kernel
theorem dX4_sectionAt_69 : decode cX4_sectionAt 69 = .ok (.ireturn, 1) := by decide +kernel
theorem dX4_sectionAt_64 : decode cX4_sectionAt 64 = .ok (.iconst 5, 1) := by decide +kernel
theorem dX4_sectionAt_65 : decode cX4_sectionAt 65 = .ok (.goto 4, 3) := by decide +kernel
theorem dX4_sectionAt_53 : decode cX4_sectionAt 53 = .ok (.iconst 4, 1) := by decide +kernel
theorem dX4_sectionAt_54 : decode cX4_sectionAt 54 = .ok (.ireturn, 1) := by decide +kernel
theorem dX4_sectionAt_42 : decode cX4_sectionAt 42 = .ok (.iconst 3, 1) := by decide +kernel
theorem dX4_sectionAt_43 : decode cX4_sectionAt 43 = .ok (.ireturn, 1) := by decide +kernel
theorem dX4_sectionAt_31 : decode cX4_sectionAt 31 = .ok (.iconst 2, 1) := by decide +kernel
theorem dX4_sectionAt_32 : decode cX4_sectionAt 32 = .ok (.ireturn, 1) := by decide +kernel
theorem dX4_sectionAt_20 : decode cX4_sectionAt 20 = .ok (.iconst 1, 1) := by decide +kernel
theorem dX4_sectionAt_21 : decode cX4_sectionAt 21 = .ok (.ireturn, 1) := by decide +kernel
theorem dX4_sectionAt_9 : decode cX4_sectionAt 9 = .ok (.iconst 0, 1) := by decide +kernel
theorem dX4_sectionAt_10 : decode cX4_sectionAt 10 = .ok (.ireturn, 1) := by decide +kernel
abbrev mX4_isFull : zM := (yX4_isFull, cX4_isFull, 2, (some .boolean), [])
theorem okX4_isFull : zMok mX4_isFull 1 := ⟨by decide, by decide, by decide +kernel⟩
theorem dX4_isFull_0 : decode cX4_isFull 0 = .ok (.iload_n 1, 1) := by decide +kernel
theorem dX4_isFull_1 : decode cX4_isFull 1 = .ok (.tableswitch 113 0 5 #[39, 113, 113, 60, 81, 102], 39) := by decide +kernel
theorem dX4_isFull_40 : decode cX4_isFull 40 = .ok (.aload_n 0, 1) := by decide +kernel
theorem dX4_isFull_41 : decode cX4_isFull 41 = .ok (.getfield 12, 3) := by decide +kernel
theorem dX4_isFull_44 : decode cX4_isFull 44 = .ok (.getfield 34, 3) := by decide +kernel
theorem dX4_isFull_47 : decode cX4_isFull 47 = .ok (.getfield 38, 3) := by decide +kernel
theorem fl_RX4_38 : zFl RX4 38 0 0 := ⟨RX0, TX0, 13, rfl, by decide, zmem1 105 (by decide +kernel) rfl, rfl⟩
theorem dX4_isFull_50 : decode cX4_isFull 50 = .ok (.bipush 8, 2) := by decide +kernel
theorem dX4_isFull_52 : decode cX4_isFull 52 = .ok (.if_icmp .lt 7, 3) := by decide +kernel
theorem dX4_isFull_59 : decode cX4_isFull 59 = .ok (.iconst 0, 1) := by decide +kernel
theorem dX4_isFull_60 : decode cX4_isFull 60 = .ok (.ireturn, 1) := by decide +kernel
theorem dX4_isFull_55 : decode cX4_isFull 55 = .ok (.iconst 1, 1) := by decide +kernel
theorem dX4_isFull_56 : decode cX4_isFull 56 = .ok (.goto 4, 3) := by decide +kernel
theorem dX4_isFull_114 : decode cX4_isFull 114 = .ok (.iconst 0, 1) := by decide +kernel
theorem dX4_isFull_115 : decode cX4_isFull 115 = .ok (.ireturn, 1) := by decide +kernel
theorem dX4_isFull_61 : decode cX4_isFull 61 = .ok (.aload_n 0, 1) := by decide +kernel
theorem dX4_isFull_62 : decode cX4_isFull 62 = .ok (.getfield 12, 3) := by decide +kernel
theorem dX4_isFull_65 : decode cX4_isFull 65 = .ok (.getfield 34, 3) := by decide +kernel
theorem dX4_isFull_68 : decode cX4_isFull 68 = .ok (.getfield 82, 3) := by decide +kernel
theorem fl_RX4_82 : zFl RX4 82 0 7 := ⟨RX0, TX0, 13, rfl, by decide, zmem1 121 (by decide +kernel) rfl, rfl⟩
theorem dX4_isFull_71 : decode cX4_isFull 71 = .ok (.bipush 8, 2) := by decide +kernel
theorem dX4_isFull_73 : decode cX4_isFull 73 = .ok (.if_icmp .lt 7, 3) := by decide +kernel
theorem dX4_isFull_80 : decode cX4_isFull 80 = .ok (.iconst 0, 1) := by decide +kernel
theorem dX4_isFull_81 : decode cX4_isFull 81 = .ok (.ireturn, 1) := by decide +kernel
theorem dX4_isFull_76 : decode cX4_isFull 76 = .ok (.iconst 1, 1) := by decide +kernel
theorem dX4_isFull_77 : decode cX4_isFull 77 = .ok (.goto 4, 3) := by decide +kernel
theorem dX4_isFull_82 : decode cX4_isFull 82 = .ok (.aload_n 0, 1) := by decide +kernel
theorem dX4_isFull_83 : decode cX4_isFull 83 = .ok (.getfield 12, 3) := by decide +kernel
theorem dX4_isFull_86 : decode cX4_isFull 86 = .ok (.getfield 34, 3) := by decide +kernel
theorem dX4_isFull_89 : decode cX4_isFull 89 = .ok (.getfield 85, 3) := by decide +kernel
theorem fl_RX4_85 : zFl RX4 85 0 10 := ⟨RX0, TX0, 13, rfl, by decide, zmem1 125 (by decide +kernel) rfl, rfl⟩
theorem dX4_isFull_92 : decode cX4_isFull 92 = .ok (.bipush 12, 2) := by decide +kernel
theorem dX4_isFull_94 : decode cX4_isFull 94 = .ok (.if_icmp .lt 7, 3) := by decide +kernel
theorem dX4_isFull_101 : decode cX4_isFull 101 = .ok (.iconst 0, 1) := by decide +kernel
theorem dX4_isFull_102 : decode cX4_isFull 102 = .ok (.ireturn, 1) := by decide +kernel
theorem dX4_isFull_97 : decode cX4_isFull 97 = .ok (.iconst 1, 1) := by decide +kernel
theorem dX4_isFull_98 : decode cX4_isFull 98 = .ok (.goto 4, 3) := by decide +kernel
theorem dX4_isFull_103 : decode cX4_isFull 103 = .ok (.aload_n 0, 1) := by decide +kernel
theorem dX4_isFull_104 : decode cX4_isFull 104 = .ok (.getfield 12, 3) := by decide +kernel
theorem dX4_isFull_107 : decode cX4_isFull 107 = .ok (.getfield 88, 3) := by decide +kernel
theorem dX4_isFull_110 : decode cX4_isFull 110 = .ok (.invokevirtual 92, 3) := by decide +kernel
theorem cw_RX4_92 : zCwV RX4 92 mX2_isFull := zall [430, 431, 432, 36, 433] (by decide +kernel) (by decide +kernel)
theorem dX4_isFull_113 : decode cX4_isFull 113 = .ok (.ireturn, 1) := by decide +kernel
abbrev mX4_takeStatement : zM := (yX4_takeStatement, cX4_takeStatement, 3, none, [])
theorem okX4_takeStatement : zMok mX4_takeStatement 2 := ⟨by decide, by decide, by decide +kernel⟩
theorem dX4_takeStatement_0 : decode cX4_takeStatement 0 = .ok (.iload_n 2, 1) := by decide +kernel
theorem dX4_takeStatement_1 : decode cX4_takeStatement 1 = .ok (.lookupswitch 59 #[(0, 35), (3, 43), (5, 51)], 35) := by decide +kernel
theorem dX4_takeStatement_36 : decode cX4_takeStatement 36 = .ok (.aload_n 0, 1) := by decide +kernel
theorem dX4_takeStatement_37 : decode cX4_takeStatement 37 = .ok (.aload_n 1, 1) := by decide +kernel
theorem dX4_takeStatement_38 : decode cX4_takeStatement 38 = .ok (.invokevirtual 96, 3) := by decide +kernel
theorem cw_RX4_96 : zCwV RX4 96 mX4_takePrinterStatement := zall [439, 441, 3, 33, 442] (by decide +kernel) (by decide +kernel)
theorem dX4_takeStatement_41 : decode cX4_takeStatement 41 = .ok (.goto 25, 3) := by decide +kernel
theorem dX4_takeStatement_66 : decode cX4_takeStatement 66 = .ok (.return_, 1) := by decide +kernel
theorem dX4_takeStatement_60 : decode cX4_takeStatement 60 = .ok (.aload_n 0, 1) := by decide +kernel
theorem dX4_takeStatement_61 : decode cX4_takeStatement 61 = .ok (.aload_n 1, 1) := by decide +kernel
theorem dX4_takeStatement_62 : decode cX4_takeStatement 62 = .ok (.iload_n 2, 1) := by decide +kernel
theorem dX4_takeStatement_63 : decode cX4_takeStatement 63 = .ok (.invokevirtual 106, 3) := by decide +kernel
theorem cw_RX4_106 : zCwV RX4 106 mX4_takeStatementOfPrinter := zall [515, 517, 7, 33, 518] (by decide +kernel) (by decide +kernel)
theorem dX4_takeStatement_44 : decode cX4_takeStatement 44 = .ok (.aload_n 0, 1) := by decide +kernel
theorem dX4_takeStatement_45 : decode cX4_takeStatement 45 = .ok (.aload_n 1, 1) := by decide +kernel
theorem dX4_takeStatement_46 : decode cX4_takeStatement 46 = .ok (.invokevirtual 100, 3) := by decide +kernel
theorem cw_RX4_100 : zCwV RX4 100 mX4_takeWatermarkStatement := zall [469, 471, 4, 33, 472] (by decide +kernel) (by decide +kernel)
theorem dX4_takeStatement_49 : decode cX4_takeStatement 49 = .ok (.goto 17, 3) := by decide +kernel
theorem dX4_takeStatement_52 : decode cX4_takeStatement 52 = .ok (.aload_n 0, 1) := by decide +kernel
theorem dX4_takeStatement_53 : decode cX4_takeStatement 53 = .ok (.aload_n 1, 1) := by decide +kernel
theorem dX4_takeStatement_54 : decode cX4_takeStatement 54 = .ok (.invokevirtual 103, 3) := by decide +kernel
theorem cw_RX4_103 : zCwV RX4 103 mX4_takeClueStatement := zall [477, 479, 5, 33, 480] (by decide +kernel) (by decide +kernel)
theorem dX4_takeStatement_57 : decode cX4_takeStatement 57 = .ok (.goto 9, 3) := by decide +kernel
abbrev mX4_fillFrom : zM := (yX4_fillFrom, cX4_fillFrom, 6, (some .boolean), [])
theorem okX4_fillFrom : zMok mX4_fillFrom 1 := ⟨by decide, by decide, by decide +kernel⟩
theorem dX4_fillFrom_0 : decode cX4_fillFrom 0 = .ok (.aload_n 0, 1) := by decide +kernel
theorem dX4_fillFrom_1 : decode cX4_fillFrom 1 = .ok (.getfield 12, 3) := by decide +kernel
theorem dX4_fillFrom_4 : decode cX4_fillFrom 4 = .ok (.invokevirtual 18, 3) := by decide +kernel
theorem cw_RX4_18 : zCwV RX4 18 mX1_clear := zall [379, 380, 381, 34, 382] (by decide +kernel) (by decide +kernel)
theorem dX4_fillFrom_7 : decode cX4_fillFrom 7 = .ok (.aload_n 1, 1) := by decide +kernel
theorem dX4_fillFrom_8 : decode cX4_fillFrom 8 = .ok (.invokevirtual 21, 3) := by decide +kernel
theorem cw_RX4_21 : zCwV RX4 21 mX6_startParsing := zall [387, 388, 389, 32, 390] (by decide +kernel) (by decide +kernel)
theorem dX4_fillFrom_11 : decode cX4_fillFrom 11 = .ok (.iconst 0, 1) := by decide +kernel
theorem dX4_fillFrom_12 : decode cX4_fillFrom 12 = .ok (.istore_n 2, 1) := by decide +kernel
theorem dX4_fillFrom_13 : decode cX4_fillFrom 13 = .ok (.iconst 0, 1) := by decide +kernel
theorem dX4_fillFrom_14 : decode cX4_fillFrom 14 = .ok (.istore_n 3, 1) := by decide +kernel
theorem dX4_fillFrom_15 : decode cX4_fillFrom 15 = .ok (.iload_n 3, 1) := by decide +kernel
theorem dX4_fillFrom_16 : decode cX4_fillFrom 16 = .ok (.sipush 1400, 3) := by decide +kernel
theorem dX4_fillFrom_19 : decode cX4_fillFrom 19 = .ok (.if_icmp .ge 91, 3) := by decide +kernel
theorem dX4_fillFrom_110 : decode cX4_fillFrom 110 = .ok (.aload_n 0, 1) := by decide +kernel
theorem dX4_fillFrom_111 : decode cX4_fillFrom 111 = .ok (.getfield 12, 3) := by decide +kernel
theorem dX4_fillFrom_114 : decode cX4_fillFrom 114 = .ok (.getfield 34, 3) := by decide +kernel
theorem dX4_fillFrom_117 : decode cX4_fillFrom 117 = .ok (.getfield 38, 3) := by decide +kernel
theorem dX4_fillFrom_120 : decode cX4_fillFrom 120 = .ok (.ifCond .ne 8, 3) := by decide +kernel
theorem dX4_fillFrom_128 : decode cX4_fillFrom 128 = .ok (.aload_n 1, 1) := by decide +kernel
theorem dX4_fillFrom_129 : decode cX4_fillFrom 129 = .ok (.invokevirtual 63, 3) := by decide +kernel
theorem cw_RX4_63 : zCwV RX4 63 mX6_isSound := zall [540, 403, 404, 32, 405] (by decide +kernel) (by decide +kernel)
theorem dX4_fillFrom_132 : decode cX4_fillFrom 132 = .ok (.ireturn, 1) := by decide +kernel
theorem dX4_fillFrom_123 : decode cX4_fillFrom 123 = .ok (.aload_n 1, 1) := by decide +kernel
theorem dX4_fillFrom_124 : decode cX4_fillFrom 124 = .ok (.iconst 1, 1) := by decide +kernel
theorem dX4_fillFrom_125 : decode cX4_fillFrom 125 = .ok (.invokevirtual 48, 3) := by decide +kernel
theorem cw_RX4_48 : zCwV RX4 48 mX6_fail := zall [422, 423, 424, 32, 425] (by decide +kernel) (by decide +kernel)
theorem dX4_fillFrom_22 : decode cX4_fillFrom 22 = .ok (.aload_n 1, 1) := by decide +kernel
theorem dX4_fillFrom_23 : decode cX4_fillFrom 23 = .ok (.invokevirtual 26, 3) := by decide +kernel
theorem cw_RX4_26 : zCwV RX4 26 mX6_hasMore := zall [398, 399, 400, 32, 401] (by decide +kernel) (by decide +kernel)
theorem dX4_fillFrom_26 : decode cX4_fillFrom 26 = .ok (.ifCond .eq 84, 3) := by decide +kernel
theorem dX4_fillFrom_29 : decode cX4_fillFrom 29 = .ok (.aload_n 1, 1) := by decide +kernel
theorem dX4_fillFrom_30 : decode cX4_fillFrom 30 = .ok (.invokestatic 30, 3) := by decide +kernel
theorem cw_RX4_30 : zCwS RX4 30 mX4_sectionAt := zall [406, 407, 33, 408] (by decide +kernel) (by decide +kernel)
theorem dX4_fillFrom_33 : decode cX4_fillFrom 33 = .ok (.istore 4, 2) := by decide +kernel
theorem dX4_fillFrom_35 : decode cX4_fillFrom 35 = .ok (.aload_n 0, 1) := by decide +kernel
theorem dX4_fillFrom_36 : decode cX4_fillFrom 36 = .ok (.getfield 12, 3) := by decide +kernel
theorem dX4_fillFrom_39 : decode cX4_fillFrom 39 = .ok (.getfield 34, 3) := by decide +kernel
theorem dX4_fillFrom_42 : decode cX4_fillFrom 42 = .ok (.getfield 38, 3) := by decide +kernel
theorem dX4_fillFrom_45 : decode cX4_fillFrom 45 = .ok (.ifCond .ne 7, 3) := by decide +kernel
theorem dX4_fillFrom_52 : decode cX4_fillFrom 52 = .ok (.iconst 5, 1) := by decide +kernel
theorem dX4_fillFrom_53 : decode cX4_fillFrom 53 = .ok (.istore 5, 2) := by decide +kernel
theorem dX4_fillFrom_55 : decode cX4_fillFrom 55 = .ok (.iload 4, 2) := by decide +kernel
theorem dX4_fillFrom_57 : decode cX4_fillFrom 57 = .ok (.iload_n 2, 1) := by decide +kernel
theorem dX4_fillFrom_58 : decode cX4_fillFrom 58 = .ok (.iload 5, 2) := by decide +kernel
theorem dX4_fillFrom_60 : decode cX4_fillFrom 60 = .ok (.invokestatic 44, 3) := by decide +kernel
theorem cw_RX4_44 : zCwN RX4 44 mX9_isWithin := ⟨⟨_, List.mem_of_getElem? (i := 10) rfl⟩, zall [420, 31, 421] (by decide +kernel) (by decide +kernel)⟩
theorem dX4_fillFrom_63 : decode cX4_fillFrom 63 = .ok (.ifCond .ne 11, 3) := by decide +kernel
theorem dX4_fillFrom_74 : decode cX4_fillFrom 74 = .ok (.aload_n 0, 1) := by decide +kernel
theorem dX4_fillFrom_75 : decode cX4_fillFrom 75 = .ok (.iload 4, 2) := by decide +kernel
theorem dX4_fillFrom_77 : decode cX4_fillFrom 77 = .ok (.invokevirtual 52, 3) := by decide +kernel
theorem cw_RX4_52 : zCwV RX4 52 mX4_isFull := zall [426, 428, 1, 33, 429] (by decide +kernel) (by decide +kernel)
theorem dX4_fillFrom_80 : decode cX4_fillFrom 80 = .ok (.ifCond .eq 11, 3) := by decide +kernel
theorem dX4_fillFrom_91 : decode cX4_fillFrom 91 = .ok (.iload 4, 2) := by decide +kernel
theorem dX4_fillFrom_93 : decode cX4_fillFrom 93 = .ok (.istore_n 2, 1) := by decide +kernel
theorem dX4_fillFrom_94 : decode cX4_fillFrom 94 = .ok (.aload_n 1, 1) := by decide +kernel
theorem dX4_fillFrom_95 : decode cX4_fillFrom 95 = .ok (.invokevirtual 56, 3) := by decide +kernel
theorem cw_RX4_56 : zCwV RX4 56 mX6_takeToken := zall [434, 392, 393, 32, 394] (by decide +kernel) (by decide +kernel)
theorem dX4_fillFrom_98 : decode cX4_fillFrom 98 = .ok (.aload_n 0, 1) := by decide +kernel
theorem dX4_fillFrom_99 : decode cX4_fillFrom 99 = .ok (.aload_n 1, 1) := by decide +kernel
theorem dX4_fillFrom_100 : decode cX4_fillFrom 100 = .ok (.iload_n 2, 1) := by decide +kernel
theorem dX4_fillFrom_101 : decode cX4_fillFrom 101 = .ok (.invokevirtual 59, 3) := by decide +kernel
theorem cw_RX4_59 : zCwV RX4 59 mX4_takeStatement := zall [435, 437, 2, 33, 438] (by decide +kernel) (by decide +kernel)
theorem dX4_fillFrom_104 : decode cX4_fillFrom 104 = .ok (.iinc 3 1, 3) := by decide +kernel
theorem dX4_fillFrom_107 : decode cX4_fillFrom 107 = .ok (.goto (-92), 3) := by decide +kernel
theorem dX4_fillFrom_83 : decode cX4_fillFrom 83 = .ok (.aload_n 1, 1) := by decide +kernel
theorem dX4_fillFrom_84 : decode cX4_fillFrom 84 = .ok (.iconst 4, 1) := by decide +kernel
theorem dX4_fillFrom_85 : decode cX4_fillFrom 85 = .ok (.invokevirtual 48, 3) := by decide +kernel
theorem dX4_fillFrom_88 : decode cX4_fillFrom 88 = .ok (.goto 16, 3) := by decide +kernel
theorem dX4_fillFrom_66 : decode cX4_fillFrom 66 = .ok (.aload_n 1, 1) := by decide +kernel
theorem dX4_fillFrom_67 : decode cX4_fillFrom 67 = .ok (.iconst 1, 1) := by decide +kernel
theorem dX4_fillFrom_68 : decode cX4_fillFrom 68 = .ok (.invokevirtual 48, 3) := by decide +kernel
theorem dX4_fillFrom_71 : decode cX4_fillFrom 71 = .ok (.goto 33, 3) := by decide +kernel
theorem dX4_fillFrom_48 : decode cX4_fillFrom 48 = .ok (.iconst 0, 1) := by decide +kernel
theorem dX4_fillFrom_49 : decode cX4_fillFrom 49 = .ok (.goto 4, 3) := by decide +kernel

theorem WF_emp {D : zBk} (k0 : D 1 0 = 0) (k7 : D 1 7 = 0) (k10 : D 1 10 = 0) (k12 : D 12 0 = 0) : WF D := by
  refine ⟨?_, fun p hp => ?_, fun q hq => ?_, fun q hq => ?_, fun k hk => ?_, fun i hi => ?_, fun i j hij hj => ?_, fun k hk => ?_⟩
  · unfold WFn; rw [k0, k7, k10, k12]; decide
  all_goals (exfalso; omega)
theorem fz_p {f g : Nat → Int} {P x : Int} (h : ∀ i : Nat, f i = g i) : fz f P x = fz g P x := by rw [show f = g from funext h]
theorem sStS_p {t : Nat → Int} {n : Nat} {k : Int} {D D' : zBk} {S : zP} (h : ∀ o, o ≤ 19 → ∀ i, D' o i = D o i) : sStS t n k D' S = sStS t n k D S := by
  have e2 : D' 2 = D 2 := funext (h 2 (by omega))
  unfold sStS q5 q4 q3 q2 q1 o3 o2 o1 u5 u4 u3 hiK
  rw [e2, h 1 (by omega), h 1 (by omega)]
theorem sBk_p {t : Nat → Int} {n : Nat} {k : Int} {D D' : zBk} {S : zP} (h : ∀ o, o ≤ 19 → ∀ i, D' o i = D o i) : pEq (sBk t n k D S) (sBk t n k D' S) := fun o ho i => by
  have e2 : D' 2 = D 2 := funext (h 2 (by omega))
  have e10 : D' 1 0 = D 1 0 := h 1 (by omega) 0
  have e17 : D' 1 7 = D 1 7 := h 1 (by omega) 7
  have eq1 : q1 t n D' S = q1 t n D S := by unfold q1; rw [e2, e10]
  have eq2 : q2 t n D' S = q2 t n D S := by unfold q2; rw [eq1]
  have eq3 : q3 t n D' S = q3 t n D S := by unfold q3; rw [eq2]
  have eo : o1 t n D' S = o1 t n D S := by unfold o1; rw [e2, e10]
  have en : nmP t n D' S = nmP t n D S := by unfold nmP; rw [e2, e10]
  have eu : u3 t n D' S = u3 t n D S := by unfold u3 hiK; rw [e17]
  unfold sBk
  rw [sStS_p h]
  split
  · unfold sStB
    rw [eq1, eq2, eq3, eo, en, eu, h 6 (by omega), h 7 (by omega)]
    (repeat' split)
    · exact pEq_aP (fun o ho i => h o ho i) o ho i
    · exact pEq_ov (fun o ho i => h o ho i) o ho i
    · exact pEq_ov (fun o ho i => h o ho i) o ho i
    · exact pEq_aM (fun o ho i => h o ho i) o ho i
    · exact pEq_aE (fun o ho i => h o ho i) o ho i
    · exact pEq_ad (fun o ho i => h o ho i) o ho i
  · exact h o ho i
theorem cFin_l {t : Nat → Int} {n : Nat} {X : Nat → zTr} {k : Nat} {D : zBk} (h : D 1 0 = (X k).2.2 1 0) : cFin t n (fun i => if i = k then ((X k).1, (X k).2.1, D) else X i) k = cFin t n X k := by
  unfold cFin
  have e : (fun i => if i = k then ((X k).1, (X k).2.1, D) else X i) k = ((X k).1, (X k).2.1, D) := if_pos rfl
  rw [e, show (((X k).1, (X k).2.1, D) : zTr).2.2 1 0 = (X k).2.2 1 0 from h]
theorem cTr_l {t : Nat → Int} {n : Nat} {X : Nat → zTr} {k : Nat} {D : zBk} (h : cTr t n X k) (hD : pEq (X k).2.2 D) : cTr t n (fun i => if i = k then ((X k).1, (X k).2.1, D) else X i) k := by
  obtain ⟨c1, c2, c3, c4, c5, c6, c7, c8⟩ := h
  have e : ∀ i, i ≠ k → (fun i => if i = k then ((X k).1, (X k).2.1, D) else X i) i = X i := fun i hi => if_neg hi
  have ek : (fun i => if i = k then ((X k).1, (X k).2.1, D) else X i) k = ((X k).1, (X k).2.1, D) := if_pos rfl
  refine ⟨fun i hi => ?_, fun i hi => ?_, ?_⟩
  · rw [e i (by omega)]
    by_cases q : i + 1 = k
    · rw [q, ek]
      have s := c1 i hi
      rw [q] at s
      obtain ⟨s1, s2, s3⟩ := s
      refine ⟨s1, s2, ?_⟩
      rcases s3 with ⟨a, b, c, d⟩ | ⟨a, a2, b, c, d⟩ | ⟨a, a2, b, c, d⟩
      · exact Or.inl ⟨a, b, c, lEq_tr d (pEq_l hD)⟩
      · exact Or.inr (Or.inl ⟨a, a2, b, c, lEq_tr d (pEq_l hD)⟩)
      · exact Or.inr (Or.inr ⟨a, a2, b, c, lEq_tr d (pEq_l hD)⟩)
    · rw [e (i + 1) q]; exact c1 i hi
  · by_cases q : i = k
    · rw [q, ek]
      have s := c2 k (Nat.le_refl _)
      exact ⟨WF_eq (pEq_z hD) s.1, s.2⟩
    · rw [e i q]; exact c2 i hi
  · by_cases q : 0 = k
    · subst q
      rw [ek]
      exact ⟨c3, c4, (hD 1 (by omega) 0).trans c5, (hD 1 (by omega) 7).trans c6, (hD 1 (by omega) 10).trans c7, (hD 12 (by omega) 0).trans c8⟩
    · rw [e 0 q]; exact ⟨c3, c4, c5, c6, c7, c8⟩

set_option maxRecDepth 20000 in
set_option maxHeartbeats 2000000 in
theorem sX4_sectionAt {l : Launch} {w : zW} (hfl : l.stackTraces = false) {σ : zS} {t : Nat → Int} {n : Nat} {S : zP}  (hz : zOK σ) (hP : PC t n S σ) (h0 : S.2.1 = 0) : Sp l w mX4_sectionAt 5 0 [zf 6 1] σ (zret (zi (sct t n S.1)) σ) := by
  obtain ⟨Q, hQ⟩ : ∃ Q : zQ, Q = (zret (zi (sct t n S.1)) σ) := ⟨_, rfl⟩
  rw [← hQ]
  refine zx_enter hfl (by decide) rfl 0 rfl ?_
  show zX l w mX4_sectionAt (zMQ w 5 0 Q) 0 [zf 6 1] [] 0 σ
  refine zx_aloadN dX4_sectionAt_0 rfl rfl ?_
  refine zx_ldcS (List.mem_of_getElem? (i := 7) rfl) (by decide) dX4_sectionAt_1 ?_
  refine zy_cv [zf 100 7] (sX6_isAt (j := 7) hfl hz (by first | assumption | omega)) dX4_sectionAt_3 (by decide) rfl cw_RX4_68 okX6_isAt rfl (Nat.le_of_ble_eq_true rfl) ⟨Nat.le_of_ble_eq_true rfl, Nat.le_of_ble_eq_true rfl, Nat.le_of_ble_eq_true rfl, Nat.le_of_ble_eq_true rfl⟩ ?_
  refine zx_if_eq (tgt := 11) (by first | exact hz _ _ | assumption | exact zr_b _ | exact zcmp_r _ _ | (unfold zr at *; omega)) dX4_sectionAt_6 (by decide) (fun h6 => ?_) (fun h6 => ?_)
  · have h6 := zb_0.mp h6
    refine zx_aloadN dX4_sectionAt_11 rfl rfl ?_
    refine zx_ldcS (List.mem_of_getElem? (i := 8) rfl) (by decide) dX4_sectionAt_12 ?_
    refine zy_cv [zf 100 8] (sX6_isAt (j := 8) hfl hz (by first | assumption | omega)) dX4_sectionAt_14 (by decide) rfl cw_RX4_68 okX6_isAt rfl (Nat.le_of_ble_eq_true rfl) ⟨Nat.le_of_ble_eq_true rfl, Nat.le_of_ble_eq_true rfl, Nat.le_of_ble_eq_true rfl, Nat.le_of_ble_eq_true rfl⟩ ?_
    refine zx_if_eq (tgt := 22) (by first | exact hz _ _ | assumption | exact zr_b _ | exact zcmp_r _ _ | (unfold zr at *; omega)) dX4_sectionAt_17 (by decide) (fun h17 => ?_) (fun h17 => ?_)
    · have h17 := zb_0.mp h17
      refine zx_aloadN dX4_sectionAt_22 rfl rfl ?_
      refine zx_ldcS (List.mem_of_getElem? (i := 9) rfl) (by decide) dX4_sectionAt_23 ?_
      refine zy_cv [zf 100 9] (sX6_isAt (j := 9) hfl hz (by first | assumption | omega)) dX4_sectionAt_25 (by decide) rfl cw_RX4_68 okX6_isAt rfl (Nat.le_of_ble_eq_true rfl) ⟨Nat.le_of_ble_eq_true rfl, Nat.le_of_ble_eq_true rfl, Nat.le_of_ble_eq_true rfl, Nat.le_of_ble_eq_true rfl⟩ ?_
      refine zx_if_eq (tgt := 33) (by first | exact hz _ _ | assumption | exact zr_b _ | exact zcmp_r _ _ | (unfold zr at *; omega)) dX4_sectionAt_28 (by decide) (fun h28 => ?_) (fun h28 => ?_)
      · have h28 := zb_0.mp h28
        refine zx_aloadN dX4_sectionAt_33 rfl rfl ?_
        refine zx_ldcS (List.mem_of_getElem? (i := 10) rfl) (by decide) dX4_sectionAt_34 ?_
        refine zy_cv [zf 100 10] (sX6_isAt (j := 10) hfl hz (by first | assumption | omega)) dX4_sectionAt_36 (by decide) rfl cw_RX4_68 okX6_isAt rfl (Nat.le_of_ble_eq_true rfl) ⟨Nat.le_of_ble_eq_true rfl, Nat.le_of_ble_eq_true rfl, Nat.le_of_ble_eq_true rfl, Nat.le_of_ble_eq_true rfl⟩ ?_
        refine zx_if_eq (tgt := 44) (by first | exact hz _ _ | assumption | exact zr_b _ | exact zcmp_r _ _ | (unfold zr at *; omega)) dX4_sectionAt_39 (by decide) (fun h39 => ?_) (fun h39 => ?_)
        · have h39 := zb_0.mp h39
          refine zx_aloadN dX4_sectionAt_44 rfl rfl ?_
          refine zx_ldcS (List.mem_of_getElem? (i := 11) rfl) (by decide) dX4_sectionAt_45 ?_
          refine zy_cv [zf 100 11] (sX6_isAt (j := 11) hfl hz (by first | assumption | omega)) dX4_sectionAt_47 (by decide) rfl cw_RX4_68 okX6_isAt rfl (Nat.le_of_ble_eq_true rfl) ⟨Nat.le_of_ble_eq_true rfl, Nat.le_of_ble_eq_true rfl, Nat.le_of_ble_eq_true rfl, Nat.le_of_ble_eq_true rfl⟩ ?_
          refine zx_if_eq (tgt := 55) (by first | exact hz _ _ | assumption | exact zr_b _ | exact zcmp_r _ _ | (unfold zr at *; omega)) dX4_sectionAt_50 (by decide) (fun h50 => ?_) (fun h50 => ?_)
          · have h50 := zb_0.mp h50
            refine zx_aloadN dX4_sectionAt_55 rfl rfl ?_
            refine zx_ldcS (List.mem_of_getElem? (i := 12) rfl) (by decide) dX4_sectionAt_56 ?_
            refine zy_cv [zf 100 12] (sX6_isAt (j := 12) hfl hz (by first | assumption | omega)) dX4_sectionAt_58 (by decide) rfl cw_RX4_68 okX6_isAt rfl (Nat.le_of_ble_eq_true rfl) ⟨Nat.le_of_ble_eq_true rfl, Nat.le_of_ble_eq_true rfl, Nat.le_of_ble_eq_true rfl, Nat.le_of_ble_eq_true rfl⟩ ?_
            refine zx_if_eq (tgt := 68) (by first | exact hz _ _ | assumption | exact zr_b _ | exact zcmp_r _ _ | (unfold zr at *; omega)) dX4_sectionAt_61 (by decide) (fun h61 => ?_) (fun h61 => ?_)
            · have h61 := zb_0.mp h61
              refine zx_iconst dX4_sectionAt_68 ?_
              refine zx_iret rfl rfl dX4_sectionAt_69 ?_
              rw [hQ]
              refine ⟨congrArg (fun z : Int => (Sum.inl (some (zi z)) : Option zV ⊕ String)) ?_, by first | rfl | (exfalso; omega)⟩
              unfold sct
              first
              | (rw [if_pos h6.2])
              | (rw [if_neg (fun q => h6 ⟨h0, q⟩), if_pos h17.2])
              | (rw [if_neg (fun q => h6 ⟨h0, q⟩), if_neg (fun q => h17 ⟨h0, q⟩), if_pos h28.2])
              | (rw [if_neg (fun q => h6 ⟨h0, q⟩), if_neg (fun q => h17 ⟨h0, q⟩), if_neg (fun q => h28 ⟨h0, q⟩), if_pos h39.2])
              | (rw [if_neg (fun q => h6 ⟨h0, q⟩), if_neg (fun q => h17 ⟨h0, q⟩), if_neg (fun q => h28 ⟨h0, q⟩), if_neg (fun q => h39 ⟨h0, q⟩), if_pos h50.2])
              | (rw [if_neg (fun q => h6 ⟨h0, q⟩), if_neg (fun q => h17 ⟨h0, q⟩), if_neg (fun q => h28 ⟨h0, q⟩), if_neg (fun q => h39 ⟨h0, q⟩), if_neg (fun q => h50 ⟨h0, q⟩), if_pos h61.2])
              | (rw [if_neg (fun q => h6 ⟨h0, q⟩), if_neg (fun q => h17 ⟨h0, q⟩), if_neg (fun q => h28 ⟨h0, q⟩), if_neg (fun q => h39 ⟨h0, q⟩), if_neg (fun q => h50 ⟨h0, q⟩), if_neg (fun q => h61 ⟨h0, q⟩)])
            · have h61 := zb_n.mp h61
              refine zx_iconst dX4_sectionAt_64 ?_
              refine zx_goto (tgt := 69) dX4_sectionAt_65 (by decide) ?_
              refine zx_iret rfl rfl dX4_sectionAt_69 ?_
              rw [hQ]
              refine ⟨congrArg (fun z : Int => (Sum.inl (some (zi z)) : Option zV ⊕ String)) ?_, by first | rfl | (exfalso; omega)⟩
              unfold sct
              first
              | (rw [if_pos h6.2])
              | (rw [if_neg (fun q => h6 ⟨h0, q⟩), if_pos h17.2])
              | (rw [if_neg (fun q => h6 ⟨h0, q⟩), if_neg (fun q => h17 ⟨h0, q⟩), if_pos h28.2])
              | (rw [if_neg (fun q => h6 ⟨h0, q⟩), if_neg (fun q => h17 ⟨h0, q⟩), if_neg (fun q => h28 ⟨h0, q⟩), if_pos h39.2])
              | (rw [if_neg (fun q => h6 ⟨h0, q⟩), if_neg (fun q => h17 ⟨h0, q⟩), if_neg (fun q => h28 ⟨h0, q⟩), if_neg (fun q => h39 ⟨h0, q⟩), if_pos h50.2])
              | (rw [if_neg (fun q => h6 ⟨h0, q⟩), if_neg (fun q => h17 ⟨h0, q⟩), if_neg (fun q => h28 ⟨h0, q⟩), if_neg (fun q => h39 ⟨h0, q⟩), if_neg (fun q => h50 ⟨h0, q⟩), if_pos h61.2])
              | (rw [if_neg (fun q => h6 ⟨h0, q⟩), if_neg (fun q => h17 ⟨h0, q⟩), if_neg (fun q => h28 ⟨h0, q⟩), if_neg (fun q => h39 ⟨h0, q⟩), if_neg (fun q => h50 ⟨h0, q⟩), if_neg (fun q => h61 ⟨h0, q⟩)])
          · have h50 := zb_n.mp h50
            refine zx_iconst dX4_sectionAt_53 ?_
            refine zx_iret rfl rfl dX4_sectionAt_54 ?_
            rw [hQ]
            refine ⟨congrArg (fun z : Int => (Sum.inl (some (zi z)) : Option zV ⊕ String)) ?_, by first | rfl | (exfalso; omega)⟩
            unfold sct
            first
            | (rw [if_pos h6.2])
            | (rw [if_neg (fun q => h6 ⟨h0, q⟩), if_pos h17.2])
            | (rw [if_neg (fun q => h6 ⟨h0, q⟩), if_neg (fun q => h17 ⟨h0, q⟩), if_pos h28.2])
            | (rw [if_neg (fun q => h6 ⟨h0, q⟩), if_neg (fun q => h17 ⟨h0, q⟩), if_neg (fun q => h28 ⟨h0, q⟩), if_pos h39.2])
            | (rw [if_neg (fun q => h6 ⟨h0, q⟩), if_neg (fun q => h17 ⟨h0, q⟩), if_neg (fun q => h28 ⟨h0, q⟩), if_neg (fun q => h39 ⟨h0, q⟩), if_pos h50.2])
            | (rw [if_neg (fun q => h6 ⟨h0, q⟩), if_neg (fun q => h17 ⟨h0, q⟩), if_neg (fun q => h28 ⟨h0, q⟩), if_neg (fun q => h39 ⟨h0, q⟩), if_neg (fun q => h50 ⟨h0, q⟩), if_pos h61.2])
            | (rw [if_neg (fun q => h6 ⟨h0, q⟩), if_neg (fun q => h17 ⟨h0, q⟩), if_neg (fun q => h28 ⟨h0, q⟩), if_neg (fun q => h39 ⟨h0, q⟩), if_neg (fun q => h50 ⟨h0, q⟩), if_neg (fun q => h61 ⟨h0, q⟩)])
        · have h39 := zb_n.mp h39
          refine zx_iconst dX4_sectionAt_42 ?_
          refine zx_iret rfl rfl dX4_sectionAt_43 ?_
          rw [hQ]
          refine ⟨congrArg (fun z : Int => (Sum.inl (some (zi z)) : Option zV ⊕ String)) ?_, by first | rfl | (exfalso; omega)⟩
          unfold sct
          first
          | (rw [if_pos h6.2])
          | (rw [if_neg (fun q => h6 ⟨h0, q⟩), if_pos h17.2])
          | (rw [if_neg (fun q => h6 ⟨h0, q⟩), if_neg (fun q => h17 ⟨h0, q⟩), if_pos h28.2])
          | (rw [if_neg (fun q => h6 ⟨h0, q⟩), if_neg (fun q => h17 ⟨h0, q⟩), if_neg (fun q => h28 ⟨h0, q⟩), if_pos h39.2])
          | (rw [if_neg (fun q => h6 ⟨h0, q⟩), if_neg (fun q => h17 ⟨h0, q⟩), if_neg (fun q => h28 ⟨h0, q⟩), if_neg (fun q => h39 ⟨h0, q⟩), if_pos h50.2])
          | (rw [if_neg (fun q => h6 ⟨h0, q⟩), if_neg (fun q => h17 ⟨h0, q⟩), if_neg (fun q => h28 ⟨h0, q⟩), if_neg (fun q => h39 ⟨h0, q⟩), if_neg (fun q => h50 ⟨h0, q⟩), if_pos h61.2])
          | (rw [if_neg (fun q => h6 ⟨h0, q⟩), if_neg (fun q => h17 ⟨h0, q⟩), if_neg (fun q => h28 ⟨h0, q⟩), if_neg (fun q => h39 ⟨h0, q⟩), if_neg (fun q => h50 ⟨h0, q⟩), if_neg (fun q => h61 ⟨h0, q⟩)])
      · have h28 := zb_n.mp h28
        refine zx_iconst dX4_sectionAt_31 ?_
        refine zx_iret rfl rfl dX4_sectionAt_32 ?_
        rw [hQ]
        refine ⟨congrArg (fun z : Int => (Sum.inl (some (zi z)) : Option zV ⊕ String)) ?_, by first | rfl | (exfalso; omega)⟩
        unfold sct
        first
        | (rw [if_pos h6.2])
        | (rw [if_neg (fun q => h6 ⟨h0, q⟩), if_pos h17.2])
        | (rw [if_neg (fun q => h6 ⟨h0, q⟩), if_neg (fun q => h17 ⟨h0, q⟩), if_pos h28.2])
        | (rw [if_neg (fun q => h6 ⟨h0, q⟩), if_neg (fun q => h17 ⟨h0, q⟩), if_neg (fun q => h28 ⟨h0, q⟩), if_pos h39.2])
        | (rw [if_neg (fun q => h6 ⟨h0, q⟩), if_neg (fun q => h17 ⟨h0, q⟩), if_neg (fun q => h28 ⟨h0, q⟩), if_neg (fun q => h39 ⟨h0, q⟩), if_pos h50.2])
        | (rw [if_neg (fun q => h6 ⟨h0, q⟩), if_neg (fun q => h17 ⟨h0, q⟩), if_neg (fun q => h28 ⟨h0, q⟩), if_neg (fun q => h39 ⟨h0, q⟩), if_neg (fun q => h50 ⟨h0, q⟩), if_pos h61.2])
        | (rw [if_neg (fun q => h6 ⟨h0, q⟩), if_neg (fun q => h17 ⟨h0, q⟩), if_neg (fun q => h28 ⟨h0, q⟩), if_neg (fun q => h39 ⟨h0, q⟩), if_neg (fun q => h50 ⟨h0, q⟩), if_neg (fun q => h61 ⟨h0, q⟩)])
    · have h17 := zb_n.mp h17
      refine zx_iconst dX4_sectionAt_20 ?_
      refine zx_iret rfl rfl dX4_sectionAt_21 ?_
      rw [hQ]
      refine ⟨congrArg (fun z : Int => (Sum.inl (some (zi z)) : Option zV ⊕ String)) ?_, by first | rfl | (exfalso; omega)⟩
      unfold sct
      first
      | (rw [if_pos h6.2])
      | (rw [if_neg (fun q => h6 ⟨h0, q⟩), if_pos h17.2])
      | (rw [if_neg (fun q => h6 ⟨h0, q⟩), if_neg (fun q => h17 ⟨h0, q⟩), if_pos h28.2])
      | (rw [if_neg (fun q => h6 ⟨h0, q⟩), if_neg (fun q => h17 ⟨h0, q⟩), if_neg (fun q => h28 ⟨h0, q⟩), if_pos h39.2])
      | (rw [if_neg (fun q => h6 ⟨h0, q⟩), if_neg (fun q => h17 ⟨h0, q⟩), if_neg (fun q => h28 ⟨h0, q⟩), if_neg (fun q => h39 ⟨h0, q⟩), if_pos h50.2])
      | (rw [if_neg (fun q => h6 ⟨h0, q⟩), if_neg (fun q => h17 ⟨h0, q⟩), if_neg (fun q => h28 ⟨h0, q⟩), if_neg (fun q => h39 ⟨h0, q⟩), if_neg (fun q => h50 ⟨h0, q⟩), if_pos h61.2])
      | (rw [if_neg (fun q => h6 ⟨h0, q⟩), if_neg (fun q => h17 ⟨h0, q⟩), if_neg (fun q => h28 ⟨h0, q⟩), if_neg (fun q => h39 ⟨h0, q⟩), if_neg (fun q => h50 ⟨h0, q⟩), if_neg (fun q => h61 ⟨h0, q⟩)])
  · have h6 := zb_n.mp h6
    refine zx_iconst dX4_sectionAt_9 ?_
    refine zx_iret rfl rfl dX4_sectionAt_10 ?_
    rw [hQ]
    refine ⟨congrArg (fun z : Int => (Sum.inl (some (zi z)) : Option zV ⊕ String)) ?_, by first | rfl | (exfalso; omega)⟩
    unfold sct
    first
    | (rw [if_pos h6.2])
    | (rw [if_neg (fun q => h6 ⟨h0, q⟩), if_pos h17.2])
    | (rw [if_neg (fun q => h6 ⟨h0, q⟩), if_neg (fun q => h17 ⟨h0, q⟩), if_pos h28.2])
    | (rw [if_neg (fun q => h6 ⟨h0, q⟩), if_neg (fun q => h17 ⟨h0, q⟩), if_neg (fun q => h28 ⟨h0, q⟩), if_pos h39.2])
    | (rw [if_neg (fun q => h6 ⟨h0, q⟩), if_neg (fun q => h17 ⟨h0, q⟩), if_neg (fun q => h28 ⟨h0, q⟩), if_neg (fun q => h39 ⟨h0, q⟩), if_pos h50.2])
    | (rw [if_neg (fun q => h6 ⟨h0, q⟩), if_neg (fun q => h17 ⟨h0, q⟩), if_neg (fun q => h28 ⟨h0, q⟩), if_neg (fun q => h39 ⟨h0, q⟩), if_neg (fun q => h50 ⟨h0, q⟩), if_pos h61.2])
    | (rw [if_neg (fun q => h6 ⟨h0, q⟩), if_neg (fun q => h17 ⟨h0, q⟩), if_neg (fun q => h28 ⟨h0, q⟩), if_neg (fun q => h39 ⟨h0, q⟩), if_neg (fun q => h50 ⟨h0, q⟩), if_neg (fun q => h61 ⟨h0, q⟩)])
set_option maxRecDepth 20000 in
set_option maxHeartbeats 2000000 in
theorem sX4_isFull {l : Launch} {w : zW} (hfl : l.stackTraces = false) {σ : zS} {x : Int} (hz : zOK σ) (hW : WF (bk σ 4)) (hx : 0 ≤ x ∧ x ≤ 5) : Sp l w mX4_isFull 1 0 [zf 4 3, zi x] σ (zret (zi (zb (ful (bk σ 4) x))) σ) := by
  obtain ⟨Q, hQ⟩ : ∃ Q : zQ, Q = (zret (zi (zb (ful (bk σ 4) x))) σ) := ⟨_, rfl⟩
  rw [← hQ]
  refine zx_enter hfl (by decide) rfl 0 rfl ?_
  show zX l w mX4_isFull (zMQ w 1 0 Q) 0 [zf 4 3, zi x] [] 0 σ
  have hzx : zr x := by unfold zr; omega
  have hK4 : 0 ≤ σ.1 16 0 ∧ σ.1 16 0 ≤ 40 := hW.1.2.2.2
  have e1 : bk σ 4 1 0 = σ.1 5 0 := rfl
  have e2 : bk σ 4 1 7 = σ.1 5 7 := rfl
  have e3 : bk σ 4 1 10 = σ.1 5 10 := rfl
  have e4 : bk σ 4 12 0 = σ.1 16 0 := rfl
  refine zx_iloadN dX4_isFull_0 rfl rfl ?_
  rcases (by omega : x = 0 ∨ x = 1 ∨ x = 2 ∨ x = 3 ∨ x = 4 ∨ x = 5 ∨ (x < 0 ∨ 5 < x)) with h1 | h1 | h1 | h1 | h1 | h1 | h1
  · refine zx_tableIn (off := 39) (tgt := 40) (by first | exact hz _ _ | assumption | exact zr_b _ | exact zcmp_r _ _ | (unfold zr at *; omega)) dX4_isFull_1 (by omega) (by omega) (by rw [h1]; rfl) (by decide) ?_
    refine zx_aloadN dX4_isFull_40 rfl rfl ?_
    refine zy_getR (q' := 4) fl_RX4_12 rfl dX4_isFull_41 rfl ?_
    refine zy_getR (q' := 5) fl_RX4_34 rfl dX4_isFull_44 rfl ?_
    refine zy_getI fl_RX4_38 rfl dX4_isFull_47 rfl ?_
    refine zx_bipush dX4_isFull_50 rfl ?_
    refine zx_icmp_lt (tgt := 59) (by first | exact hz _ _ | assumption | exact zr_b _ | exact zcmp_r _ _ | (unfold zr at *; omega)) (by first | exact hz _ _ | assumption | exact zr_b _ | exact zcmp_r _ _ | (unfold zr at *; omega)) dX4_isFull_52 (by decide) (fun h52 => ?_) (fun h52 => ?_)
    · refine zx_iconst dX4_isFull_59 ?_
      refine zx_iret rfl rfl dX4_isFull_60 ?_
      rw [hQ]
      refine ⟨congrArg (fun z : Int => (Sum.inl (some (zi z)) : Option zV ⊕ String)) ?_, by first | rfl | (exfalso; omega)⟩
      unfold ful; rw [e1, e2, e3, e4]
      first | exact (zb_t (by omega)).symm | exact (zb_f (by omega)).symm | exact zb_c (by omega)
    · refine zx_iconst dX4_isFull_55 ?_
      refine zx_goto (tgt := 60) dX4_isFull_56 (by decide) ?_
      refine zx_iret rfl rfl dX4_isFull_60 ?_
      rw [hQ]
      refine ⟨congrArg (fun z : Int => (Sum.inl (some (zi z)) : Option zV ⊕ String)) ?_, by first | rfl | (exfalso; omega)⟩
      unfold ful; rw [e1, e2, e3, e4]
      first | exact (zb_t (by omega)).symm | exact (zb_f (by omega)).symm | exact zb_c (by omega)
  · refine zx_tableIn (off := 113) (tgt := 114) (by first | exact hz _ _ | assumption | exact zr_b _ | exact zcmp_r _ _ | (unfold zr at *; omega)) dX4_isFull_1 (by omega) (by omega) (by rw [h1]; rfl) (by decide) ?_
    refine zx_iconst dX4_isFull_114 ?_
    refine zx_iret rfl rfl dX4_isFull_115 ?_
    rw [hQ]
    refine ⟨congrArg (fun z : Int => (Sum.inl (some (zi z)) : Option zV ⊕ String)) ?_, by first | rfl | (exfalso; omega)⟩
    unfold ful; rw [e1, e2, e3, e4]
    first | exact (zb_t (by omega)).symm | exact (zb_f (by omega)).symm | exact zb_c (by omega)
  · refine zx_tableIn (off := 113) (tgt := 114) (by first | exact hz _ _ | assumption | exact zr_b _ | exact zcmp_r _ _ | (unfold zr at *; omega)) dX4_isFull_1 (by omega) (by omega) (by rw [h1]; rfl) (by decide) ?_
    refine zx_iconst dX4_isFull_114 ?_
    refine zx_iret rfl rfl dX4_isFull_115 ?_
    rw [hQ]
    refine ⟨congrArg (fun z : Int => (Sum.inl (some (zi z)) : Option zV ⊕ String)) ?_, by first | rfl | (exfalso; omega)⟩
    unfold ful; rw [e1, e2, e3, e4]
    first | exact (zb_t (by omega)).symm | exact (zb_f (by omega)).symm | exact zb_c (by omega)
  · refine zx_tableIn (off := 60) (tgt := 61) (by first | exact hz _ _ | assumption | exact zr_b _ | exact zcmp_r _ _ | (unfold zr at *; omega)) dX4_isFull_1 (by omega) (by omega) (by rw [h1]; rfl) (by decide) ?_
    refine zx_aloadN dX4_isFull_61 rfl rfl ?_
    refine zy_getR (q' := 4) fl_RX4_12 rfl dX4_isFull_62 rfl ?_
    refine zy_getR (q' := 5) fl_RX4_34 rfl dX4_isFull_65 rfl ?_
    refine zy_getI fl_RX4_82 rfl dX4_isFull_68 rfl ?_
    refine zx_bipush dX4_isFull_71 rfl ?_
    refine zx_icmp_lt (tgt := 80) (by first | exact hz _ _ | assumption | exact zr_b _ | exact zcmp_r _ _ | (unfold zr at *; omega)) (by first | exact hz _ _ | assumption | exact zr_b _ | exact zcmp_r _ _ | (unfold zr at *; omega)) dX4_isFull_73 (by decide) (fun h73 => ?_) (fun h73 => ?_)
    · refine zx_iconst dX4_isFull_80 ?_
      refine zx_iret rfl rfl dX4_isFull_81 ?_
      rw [hQ]
      refine ⟨congrArg (fun z : Int => (Sum.inl (some (zi z)) : Option zV ⊕ String)) ?_, by first | rfl | (exfalso; omega)⟩
      unfold ful; rw [e1, e2, e3, e4]
      first | exact (zb_t (by omega)).symm | exact (zb_f (by omega)).symm | exact zb_c (by omega)
    · refine zx_iconst dX4_isFull_76 ?_
      refine zx_goto (tgt := 81) dX4_isFull_77 (by decide) ?_
      refine zx_iret rfl rfl dX4_isFull_81 ?_
      rw [hQ]
      refine ⟨congrArg (fun z : Int => (Sum.inl (some (zi z)) : Option zV ⊕ String)) ?_, by first | rfl | (exfalso; omega)⟩
      unfold ful; rw [e1, e2, e3, e4]
      first | exact (zb_t (by omega)).symm | exact (zb_f (by omega)).symm | exact zb_c (by omega)
  · refine zx_tableIn (off := 81) (tgt := 82) (by first | exact hz _ _ | assumption | exact zr_b _ | exact zcmp_r _ _ | (unfold zr at *; omega)) dX4_isFull_1 (by omega) (by omega) (by rw [h1]; rfl) (by decide) ?_
    refine zx_aloadN dX4_isFull_82 rfl rfl ?_
    refine zy_getR (q' := 4) fl_RX4_12 rfl dX4_isFull_83 rfl ?_
    refine zy_getR (q' := 5) fl_RX4_34 rfl dX4_isFull_86 rfl ?_
    refine zy_getI fl_RX4_85 rfl dX4_isFull_89 rfl ?_
    refine zx_bipush dX4_isFull_92 rfl ?_
    refine zx_icmp_lt (tgt := 101) (by first | exact hz _ _ | assumption | exact zr_b _ | exact zcmp_r _ _ | (unfold zr at *; omega)) (by first | exact hz _ _ | assumption | exact zr_b _ | exact zcmp_r _ _ | (unfold zr at *; omega)) dX4_isFull_94 (by decide) (fun h94 => ?_) (fun h94 => ?_)
    · refine zx_iconst dX4_isFull_101 ?_
      refine zx_iret rfl rfl dX4_isFull_102 ?_
      rw [hQ]
      refine ⟨congrArg (fun z : Int => (Sum.inl (some (zi z)) : Option zV ⊕ String)) ?_, by first | rfl | (exfalso; omega)⟩
      unfold ful; rw [e1, e2, e3, e4]
      first | exact (zb_t (by omega)).symm | exact (zb_f (by omega)).symm | exact zb_c (by omega)
    · refine zx_iconst dX4_isFull_97 ?_
      refine zx_goto (tgt := 102) dX4_isFull_98 (by decide) ?_
      refine zx_iret rfl rfl dX4_isFull_102 ?_
      rw [hQ]
      refine ⟨congrArg (fun z : Int => (Sum.inl (some (zi z)) : Option zV ⊕ String)) ?_, by first | rfl | (exfalso; omega)⟩
      unfold ful; rw [e1, e2, e3, e4]
      first | exact (zb_t (by omega)).symm | exact (zb_f (by omega)).symm | exact zb_c (by omega)
  · refine zx_tableIn (off := 102) (tgt := 103) (by first | exact hz _ _ | assumption | exact zr_b _ | exact zcmp_r _ _ | (unfold zr at *; omega)) dX4_isFull_1 (by omega) (by omega) (by rw [h1]; rfl) (by decide) ?_
    refine zx_aloadN dX4_isFull_103 rfl rfl ?_
    refine zy_getR (q' := 4) fl_RX4_12 rfl dX4_isFull_104 rfl ?_
    refine zy_getR (q' := 16) fl_RX4_88 rfl dX4_isFull_107 rfl ?_
    refine zy_cv [] (sX2_isFull  hfl hz ) dX4_isFull_110 (by decide) rfl cw_RX4_92 okX2_isFull rfl (Nat.le_of_ble_eq_true rfl) ⟨Nat.le_of_ble_eq_true rfl, Nat.le_of_ble_eq_true rfl, Nat.le_of_ble_eq_true rfl, Nat.le_of_ble_eq_true rfl⟩ ?_
    refine zx_iret rfl (zb_nar _) dX4_isFull_113 ?_
    rw [hQ]
    refine ⟨congrArg (fun z : Int => (Sum.inl (some (zi z)) : Option zV ⊕ String)) ?_, by first | rfl | (exfalso; omega)⟩
    unfold ful; rw [e1, e2, e3, e4]
    first | exact (zb_t (by omega)).symm | exact (zb_f (by omega)).symm | exact zb_c (by omega)
  · refine zx_tableOut (tgt := 114) (by first | exact hz _ _ | assumption | exact zr_b _ | exact zcmp_r _ _ | (unfold zr at *; omega)) dX4_isFull_1 (by omega) (by decide) ?_
    refine zx_iconst dX4_isFull_114 ?_
    refine zx_iret rfl rfl dX4_isFull_115 ?_
    rw [hQ]
    refine ⟨congrArg (fun z : Int => (Sum.inl (some (zi z)) : Option zV ⊕ String)) ?_, by first | rfl | (exfalso; omega)⟩
    unfold ful; rw [e1, e2, e3, e4]
    first | exact (zb_t (by omega)).symm | exact (zb_f (by omega)).symm | exact zb_c (by omega)
set_option maxRecDepth 20000 in
set_option maxHeartbeats 2000000 in
theorem sX4_takeStatement_0 {l : Launch} {w : zW} (hfl : l.stackTraces = false) {σ : zS} {t : Nat → Int} {n : Nat} {S : zP} {x : Int} (hz : zOK σ) (hW : WF (bk σ 4)) (hb : bbK σ 4) (hP : PC t n S σ) (hs : x = 0) (hf : ¬ ful (bk σ 4) x) : Sp l w mX4_takeStatement 7 0 [zf 4 3, zf 6 1, zi x] σ (zqv (none) (fun τ => zOK τ ∧ zSame (fun q => q = 1 ∨ (4 ≤ q ∧ q ≤ 23)) σ τ ∧ PC t n (sStS t n x (bk σ 4) S) τ ∧ WF (bk τ 4) ∧ bbK τ 4 ∧ lEq (sBk t n x (bk σ 4) S) (bk τ 4))) := by
  obtain ⟨Q, hQ⟩ : ∃ Q : zQ, Q = (zqv (none) (fun τ => zOK τ ∧ zSame (fun q => q = 1 ∨ (4 ≤ q ∧ q ≤ 23)) σ τ ∧ PC t n (sStS t n x (bk σ 4) S) τ ∧ WF (bk τ 4) ∧ bbK τ 4 ∧ lEq (sBk t n x (bk σ 4) S) (bk τ 4))) := ⟨_, rfl⟩
  rw [← hQ]
  refine zx_enter hfl (by decide) rfl 0 rfl ?_
  show zX l w mX4_takeStatement (zMQ w 7 0 Q) 0 [zf 4 3, zf 6 1, zi x] [] 0 σ
  have e1 : sStS t n x (bk σ 4) S = q5 t n (bk σ 4) S := by rw [hs]; unfold sStS; rw [if_pos rfl]
  have e2 : sStB t n x (bk σ 4) S = sStB t n 0 (bk σ 4) S := by rw [hs]
  refine zx_iloadN dX4_takeStatement_0 rfl rfl ?_
  refine zy_top (b := 0) (hs) ?_
  refine zx_lookup (off := 35) (tgt := 36) (by unfold zr; omega) dX4_takeStatement_1 rfl rfl (by decide) ?_
  refine zx_aloadN dX4_takeStatement_36 rfl rfl ?_
  refine zx_aloadN dX4_takeStatement_37 rfl rfl ?_
  refine zy_cvvR [zf 6 1] (sX4_takePrinterStatement (S := S) hfl hz (by first | assumption | omega) (by first | assumption | omega) (by first | assumption | omega) (by have q := hf; unfold ful at q; rw [hs] at q; show bk σ 4 1 0 < 8; omega)) dX4_takeStatement_38 (by decide) rfl cw_RX4_96 okX4_takePrinterStatement rfl (Nat.le_of_ble_eq_true rfl) ⟨Nat.le_of_ble_eq_true rfl, Nat.le_of_ble_eq_true rfl, Nat.le_of_ble_eq_true rfl, Nat.le_of_ble_eq_true rfl⟩ (fun τ38 hr38 => ?_)
  have hz38 : zOK τ38 := hr38.1
  refine zx_goto (tgt := 66) dX4_takeStatement_41 (by decide) ?_
  refine zx_vret rfl dX4_takeStatement_66 ?_
  rw [hQ]
  refine ⟨rfl, ?_⟩
  obtain ⟨a1, a2, a3, a4, a5, a6⟩ := hr38
  refine ⟨hz38, a2, by rw [e1]; exact a3, a4, a5, ?_⟩
  unfold sBk; rw [e1, e2]; exact a6
set_option maxRecDepth 20000 in
set_option maxHeartbeats 2000000 in
theorem sX4_takeStatement_1 {l : Launch} {w : zW} (hfl : l.stackTraces = false) {σ : zS} {t : Nat → Int} {n : Nat} {S : zP} {x : Int} (hz : zOK σ) (hW : WF (bk σ 4)) (hb : bbK σ 4) (hP : PC t n S σ) (hs : x = 1) (hf : ¬ ful (bk σ 4) x) : Sp l w mX4_takeStatement 7 0 [zf 4 3, zf 6 1, zi x] σ (zqv (none) (fun τ => zOK τ ∧ zSame (fun q => q = 1 ∨ (4 ≤ q ∧ q ≤ 23)) σ τ ∧ PC t n (sStS t n x (bk σ 4) S) τ ∧ WF (bk τ 4) ∧ bbK τ 4 ∧ lEq (sBk t n x (bk σ 4) S) (bk τ 4))) := by
  obtain ⟨Q, hQ⟩ : ∃ Q : zQ, Q = (zqv (none) (fun τ => zOK τ ∧ zSame (fun q => q = 1 ∨ (4 ≤ q ∧ q ≤ 23)) σ τ ∧ PC t n (sStS t n x (bk σ 4) S) τ ∧ WF (bk τ 4) ∧ bbK τ 4 ∧ lEq (sBk t n x (bk σ 4) S) (bk τ 4))) := ⟨_, rfl⟩
  rw [← hQ]
  refine zx_enter hfl (by decide) rfl 0 rfl ?_
  show zX l w mX4_takeStatement (zMQ w 7 0 Q) 0 [zf 4 3, zf 6 1, zi x] [] 0 σ
  have e1 : sStS t n x (bk σ 4) S = o3 t n (bk σ 4) 0 31 S := by rw [hs]; unfold sStS; rw [if_neg (by decide), if_pos rfl]
  have e2 : sStB t n x (bk σ 4) S = sStB t n 1 (bk σ 4) S := by rw [hs]
  refine zx_iloadN dX4_takeStatement_0 rfl rfl ?_
  refine zy_top (b := 1) (hs) ?_
  refine zx_lookup (off := 59) (tgt := 60) (by unfold zr; omega) dX4_takeStatement_1 rfl rfl (by decide) ?_
  refine zx_aloadN dX4_takeStatement_60 rfl rfl ?_
  refine zx_aloadN dX4_takeStatement_61 rfl rfl ?_
  refine zx_iloadN dX4_takeStatement_62 rfl rfl ?_
  refine zy_cvvR [zf 6 1, zi x] (sX4_takeStatementOfPrinter_1 (S := S) hfl hz (by first | assumption | omega) (by first | assumption | omega) (by first | assumption | omega) (by first | assumption | omega)) dX4_takeStatement_63 (by decide) rfl cw_RX4_106 okX4_takeStatementOfPrinter rfl (Nat.le_of_ble_eq_true rfl) ⟨Nat.le_of_ble_eq_true rfl, Nat.le_of_ble_eq_true rfl, Nat.le_of_ble_eq_true rfl, Nat.le_of_ble_eq_true rfl⟩ (fun τ63 hr63 => ?_)
  have hz63 : zOK τ63 := hr63.1
  refine zx_vret rfl dX4_takeStatement_66 ?_
  rw [hQ]
  refine ⟨rfl, ?_⟩
  obtain ⟨a1, a2, a3, a4, a5, a6⟩ := hr63
  refine ⟨hz63, a2, by rw [e1]; exact a3, a4, a5, ?_⟩
  unfold sBk; rw [e1, e2]; exact a6
set_option maxRecDepth 20000 in
set_option maxHeartbeats 2000000 in
theorem sX4_takeStatement_2 {l : Launch} {w : zW} (hfl : l.stackTraces = false) {σ : zS} {t : Nat → Int} {n : Nat} {S : zP} {x : Int} (hz : zOK σ) (hW : WF (bk σ 4)) (hb : bbK σ 4) (hP : PC t n S σ) (hs : x = 2) (hf : ¬ ful (bk σ 4) x) : Sp l w mX4_takeStatement 7 0 [zf 4 3, zf 6 1, zi x] σ (zqv (none) (fun τ => zOK τ ∧ zSame (fun q => q = 1 ∨ (4 ≤ q ∧ q ≤ 23)) σ τ ∧ PC t n (sStS t n x (bk σ 4) S) τ ∧ WF (bk τ 4) ∧ bbK τ 4 ∧ lEq (sBk t n x (bk σ 4) S) (bk τ 4))) := by
  obtain ⟨Q, hQ⟩ : ∃ Q : zQ, Q = (zqv (none) (fun τ => zOK τ ∧ zSame (fun q => q = 1 ∨ (4 ≤ q ∧ q ≤ 23)) σ τ ∧ PC t n (sStS t n x (bk σ 4) S) τ ∧ WF (bk τ 4) ∧ bbK τ 4 ∧ lEq (sBk t n x (bk σ 4) S) (bk τ 4))) := ⟨_, rfl⟩
  rw [← hQ]
  refine zx_enter hfl (by decide) rfl 0 rfl ?_
  show zX l w mX4_takeStatement (zMQ w 7 0 Q) 0 [zf 4 3, zf 6 1, zi x] [] 0 σ
  have e1 : sStS t n x (bk σ 4) S = o3 t n (bk σ 4) 0 15 S := by rw [hs]; unfold sStS; rw [if_neg (by decide), if_neg (by decide), if_pos rfl]
  have e2 : sStB t n x (bk σ 4) S = sStB t n 2 (bk σ 4) S := by rw [hs]
  refine zx_iloadN dX4_takeStatement_0 rfl rfl ?_
  refine zy_top (b := 2) (hs) ?_
  refine zx_lookup (off := 59) (tgt := 60) (by unfold zr; omega) dX4_takeStatement_1 rfl rfl (by decide) ?_
  refine zx_aloadN dX4_takeStatement_60 rfl rfl ?_
  refine zx_aloadN dX4_takeStatement_61 rfl rfl ?_
  refine zx_iloadN dX4_takeStatement_62 rfl rfl ?_
  refine zy_cvvR [zf 6 1, zi x] (sX4_takeStatementOfPrinter_2 (S := S) hfl hz (by first | assumption | omega) (by first | assumption | omega) (by first | assumption | omega) (by first | assumption | omega)) dX4_takeStatement_63 (by decide) rfl cw_RX4_106 okX4_takeStatementOfPrinter rfl (Nat.le_of_ble_eq_true rfl) ⟨Nat.le_of_ble_eq_true rfl, Nat.le_of_ble_eq_true rfl, Nat.le_of_ble_eq_true rfl, Nat.le_of_ble_eq_true rfl⟩ (fun τ63 hr63 => ?_)
  have hz63 : zOK τ63 := hr63.1
  refine zx_vret rfl dX4_takeStatement_66 ?_
  rw [hQ]
  refine ⟨rfl, ?_⟩
  obtain ⟨a1, a2, a3, a4, a5, a6⟩ := hr63
  refine ⟨hz63, a2, by rw [e1]; exact a3, a4, a5, ?_⟩
  unfold sBk; rw [e1, e2]; exact a6
set_option maxRecDepth 20000 in
set_option maxHeartbeats 2000000 in
theorem sX4_takeStatement_3 {l : Launch} {w : zW} (hfl : l.stackTraces = false) {σ : zS} {t : Nat → Int} {n : Nat} {S : zP} {x : Int} (hz : zOK σ) (hW : WF (bk σ 4)) (hb : bbK σ 4) (hP : PC t n S σ) (hs : x = 3) (hf : ¬ ful (bk σ 4) x) : Sp l w mX4_takeStatement 7 0 [zf 4 3, zf 6 1, zi x] σ (zqv (none) (fun τ => zOK τ ∧ zSame (fun q => q = 1 ∨ (4 ≤ q ∧ q ≤ 23)) σ τ ∧ PC t n (sStS t n x (bk σ 4) S) τ ∧ WF (bk τ 4) ∧ bbK τ 4 ∧ lEq (sBk t n x (bk σ 4) S) (bk τ 4))) := by
  obtain ⟨Q, hQ⟩ : ∃ Q : zQ, Q = (zqv (none) (fun τ => zOK τ ∧ zSame (fun q => q = 1 ∨ (4 ≤ q ∧ q ≤ 23)) σ τ ∧ PC t n (sStS t n x (bk σ 4) S) τ ∧ WF (bk τ 4) ∧ bbK τ 4 ∧ lEq (sBk t n x (bk σ 4) S) (bk τ 4))) := ⟨_, rfl⟩
  rw [← hQ]
  refine zx_enter hfl (by decide) rfl 0 rfl ?_
  show zX l w mX4_takeStatement (zMQ w 7 0 Q) 0 [zf 4 3, zf 6 1, zi x] [] 0 σ
  have e1 : sStS t n x (bk σ 4) S = w3 t n S := by rw [hs]; unfold sStS; rw [if_neg (by decide), if_neg (by decide), if_neg (by decide), if_pos rfl]
  have e2 : sStB t n x (bk σ 4) S = sStB t n 3 (bk σ 4) S := by rw [hs]
  refine zx_iloadN dX4_takeStatement_0 rfl rfl ?_
  refine zy_top (b := 3) (hs) ?_
  refine zx_lookup (off := 43) (tgt := 44) (by unfold zr; omega) dX4_takeStatement_1 rfl rfl (by decide) ?_
  refine zx_aloadN dX4_takeStatement_44 rfl rfl ?_
  refine zx_aloadN dX4_takeStatement_45 rfl rfl ?_
  refine zy_cvvR [zf 6 1] (sX4_takeWatermarkStatement (S := S) hfl hz (by first | assumption | omega) (by first | assumption | omega) (by first | assumption | omega) (by have q := hf; unfold ful at q; rw [hs] at q; show bk σ 4 1 7 < 8; omega)) dX4_takeStatement_46 (by decide) rfl cw_RX4_100 okX4_takeWatermarkStatement rfl (Nat.le_of_ble_eq_true rfl) ⟨Nat.le_of_ble_eq_true rfl, Nat.le_of_ble_eq_true rfl, Nat.le_of_ble_eq_true rfl, Nat.le_of_ble_eq_true rfl⟩ (fun τ46 hr46 => ?_)
  have hz46 : zOK τ46 := hr46.1
  refine zx_goto (tgt := 66) dX4_takeStatement_49 (by decide) ?_
  refine zx_vret rfl dX4_takeStatement_66 ?_
  rw [hQ]
  refine ⟨rfl, ?_⟩
  obtain ⟨a1, a2, a3, a4, a5, a6⟩ := hr46
  refine ⟨hz46, a2, by rw [e1]; exact a3, a4, a5, ?_⟩
  unfold sBk; rw [e1, e2]; exact a6
set_option maxRecDepth 20000 in
set_option maxHeartbeats 2000000 in
theorem sX4_takeStatement_4 {l : Launch} {w : zW} (hfl : l.stackTraces = false) {σ : zS} {t : Nat → Int} {n : Nat} {S : zP} {x : Int} (hz : zOK σ) (hW : WF (bk σ 4)) (hb : bbK σ 4) (hP : PC t n S σ) (hs : x = 4) (hf : ¬ ful (bk σ 4) x) : Sp l w mX4_takeStatement 7 0 [zf 4 3, zf 6 1, zi x] σ (zqv (none) (fun τ => zOK τ ∧ zSame (fun q => q = 1 ∨ (4 ≤ q ∧ q ≤ 23)) σ τ ∧ PC t n (sStS t n x (bk σ 4) S) τ ∧ WF (bk τ 4) ∧ bbK τ 4 ∧ lEq (sBk t n x (bk σ 4) S) (bk τ 4))) := by
  obtain ⟨Q, hQ⟩ : ∃ Q : zQ, Q = (zqv (none) (fun τ => zOK τ ∧ zSame (fun q => q = 1 ∨ (4 ≤ q ∧ q ≤ 23)) σ τ ∧ PC t n (sStS t n x (bk σ 4) S) τ ∧ WF (bk τ 4) ∧ bbK τ 4 ∧ lEq (sBk t n x (bk σ 4) S) (bk τ 4))) := ⟨_, rfl⟩
  rw [← hQ]
  refine zx_enter hfl (by decide) rfl 0 rfl ?_
  show zX l w mX4_takeStatement (zMQ w 7 0 Q) 0 [zf 4 3, zf 6 1, zi x] [] 0 σ
  have e1 : sStS t n x (bk σ 4) S = o3 t n (bk σ 4) 1450 1999 S := by rw [hs]; unfold sStS; rw [if_neg (by decide), if_neg (by decide), if_neg (by decide), if_neg (by decide), if_pos rfl]
  have e2 : sStB t n x (bk σ 4) S = sStB t n 4 (bk σ 4) S := by rw [hs]
  refine zx_iloadN dX4_takeStatement_0 rfl rfl ?_
  refine zy_top (b := 4) (hs) ?_
  refine zx_lookup (off := 59) (tgt := 60) (by unfold zr; omega) dX4_takeStatement_1 rfl rfl (by decide) ?_
  refine zx_aloadN dX4_takeStatement_60 rfl rfl ?_
  refine zx_aloadN dX4_takeStatement_61 rfl rfl ?_
  refine zx_iloadN dX4_takeStatement_62 rfl rfl ?_
  refine zy_cvvR [zf 6 1, zi x] (sX4_takeStatementOfPrinter_4 (S := S) hfl hz (by first | assumption | omega) (by first | assumption | omega) (by first | assumption | omega) (by first | assumption | omega) (by have q := hf; unfold ful at q; rw [hs] at q; show bk σ 4 1 10 < 12; omega)) dX4_takeStatement_63 (by decide) rfl cw_RX4_106 okX4_takeStatementOfPrinter rfl (Nat.le_of_ble_eq_true rfl) ⟨Nat.le_of_ble_eq_true rfl, Nat.le_of_ble_eq_true rfl, Nat.le_of_ble_eq_true rfl, Nat.le_of_ble_eq_true rfl⟩ (fun τ63 hr63 => ?_)
  have hz63 : zOK τ63 := hr63.1
  refine zx_vret rfl dX4_takeStatement_66 ?_
  rw [hQ]
  refine ⟨rfl, ?_⟩
  obtain ⟨a1, a2, a3, a4, a5, a6⟩ := hr63
  refine ⟨hz63, a2, by rw [e1]; exact a3, a4, a5, ?_⟩
  unfold sBk; rw [e1, e2]; exact a6
set_option maxRecDepth 20000 in
set_option maxHeartbeats 2000000 in
theorem sX4_takeStatement_5 {l : Launch} {w : zW} (hfl : l.stackTraces = false) {σ : zS} {t : Nat → Int} {n : Nat} {S : zP} {x : Int} (hz : zOK σ) (hW : WF (bk σ 4)) (hb : bbK σ 4) (hP : PC t n S σ) (hs : x = 5) (hf : ¬ ful (bk σ 4) x) : Sp l w mX4_takeStatement 7 0 [zf 4 3, zf 6 1, zi x] σ (zqv (none) (fun τ => zOK τ ∧ zSame (fun q => q = 1 ∨ (4 ≤ q ∧ q ≤ 23)) σ τ ∧ PC t n (sStS t n x (bk σ 4) S) τ ∧ WF (bk τ 4) ∧ bbK τ 4 ∧ lEq (sBk t n x (bk σ 4) S) (bk τ 4))) := by
  obtain ⟨Q, hQ⟩ : ∃ Q : zQ, Q = (zqv (none) (fun τ => zOK τ ∧ zSame (fun q => q = 1 ∨ (4 ≤ q ∧ q ≤ 23)) σ τ ∧ PC t n (sStS t n x (bk σ 4) S) τ ∧ WF (bk τ 4) ∧ bbK τ 4 ∧ lEq (sBk t n x (bk σ 4) S) (bk τ 4))) := ⟨_, rfl⟩
  rw [← hQ]
  refine zx_enter hfl (by decide) rfl 0 rfl ?_
  show zX l w mX4_takeStatement (zMQ w 7 0 Q) 0 [zf 4 3, zf 6 1, zi x] [] 0 σ
  have e1 : sStS t n x (bk σ 4) S = u5 t n (bk σ 4) S := by rw [hs]; unfold sStS; rw [if_neg (by decide), if_neg (by decide), if_neg (by decide), if_neg (by decide), if_neg (by decide)]
  have e2 : sStB t n x (bk σ 4) S = sStB t n 5 (bk σ 4) S := by rw [hs]
  refine zx_iloadN dX4_takeStatement_0 rfl rfl ?_
  refine zy_top (b := 5) (hs) ?_
  refine zx_lookup (off := 51) (tgt := 52) (by unfold zr; omega) dX4_takeStatement_1 rfl rfl (by decide) ?_
  refine zx_aloadN dX4_takeStatement_52 rfl rfl ?_
  refine zx_aloadN dX4_takeStatement_53 rfl rfl ?_
  refine zy_cvvR [zf 6 1] (sX4_takeClueStatement (S := S) hfl hz (by first | assumption | omega) (by first | assumption | omega) (by first | assumption | omega) (by have q := hf; unfold ful at q; rw [hs] at q; show bk σ 4 12 0 < 40; omega)) dX4_takeStatement_54 (by decide) rfl cw_RX4_103 okX4_takeClueStatement rfl (Nat.le_of_ble_eq_true rfl) ⟨Nat.le_of_ble_eq_true rfl, Nat.le_of_ble_eq_true rfl, Nat.le_of_ble_eq_true rfl, Nat.le_of_ble_eq_true rfl⟩ (fun τ54 hr54 => ?_)
  have hz54 : zOK τ54 := hr54.1
  refine zx_goto (tgt := 66) dX4_takeStatement_57 (by decide) ?_
  refine zx_vret rfl dX4_takeStatement_66 ?_
  rw [hQ]
  refine ⟨rfl, ?_⟩
  obtain ⟨a1, a2, a3, a4, a5, a6⟩ := hr54
  refine ⟨hz54, a2, by rw [e1]; exact a3, a4, a5, ?_⟩
  unfold sBk; rw [e1, e2]; exact a6
set_option maxRecDepth 20000 in
set_option maxHeartbeats 2000000 in
theorem sX4_fillFrom {l : Launch} {w : zW} (hfl : l.stackTraces = false) {σ : zS} {t : Nat → Int} {n : Nat}  (hz : zOK σ) (hb : bbK σ 4) (hT : ∀ i : Nat, σ.1 2 i = t i) (hn : σ.1 1 1 = (n : Int) ∧ n ≤ 1400) : Sp l w mX4_fillFrom 8 0 [zf 4 3, zf 6 1] σ (fun o τ => ∃ (X : Nat → zTr) (m : Nat), o = .inl (some (zi (zb ((cFin t n X m).2.1 = 0)))) ∧ zOK τ ∧ zSame (fun q => q = 1 ∨ (4 ≤ q ∧ q ≤ 23)) σ τ ∧ PC t n (cFin t n X m) τ ∧ cTr t n X m ∧ ¬ ((X m).2.1.2.1 = 0 ∧ ¬ xK t n (X m).2.1.1 = 0) ∧ (X m).2.2 = bk τ 4 ∧ bbK τ 4) := by
  obtain ⟨Q, hQ⟩ : ∃ Q : zQ, Q = (fun o τ => ∃ (X : Nat → zTr) (m : Nat), o = .inl (some (zi (zb ((cFin t n X m).2.1 = 0)))) ∧ zOK τ ∧ zSame (fun q => q = 1 ∨ (4 ≤ q ∧ q ≤ 23)) σ τ ∧ PC t n (cFin t n X m) τ ∧ cTr t n X m ∧ ¬ ((X m).2.1.2.1 = 0 ∧ ¬ xK t n (X m).2.1.1 = 0) ∧ (X m).2.2 = bk τ 4 ∧ bbK τ 4) := ⟨_, rfl⟩
  rw [← hQ]
  refine zx_enter hfl (by decide) rfl 4 rfl ?_
  show zX l w mX4_fillFrom (zMQ w 8 0 Q) 0 [zf 4 3, zf 6 1, zu, zu, zu, zu] [] 0 σ
  refine zx_aloadN dX4_fillFrom_0 rfl rfl ?_
  refine zy_getR (q' := 4) fl_RX4_12 rfl dX4_fillFrom_1 rfl ?_
  refine zy_cvv [] (sX1_clear  hfl hz ) dX4_fillFrom_4 (by decide) rfl cw_RX4_18 okX1_clear rfl (Nat.le_of_ble_eq_true rfl) ⟨Nat.le_of_ble_eq_true rfl, Nat.le_of_ble_eq_true rfl, Nat.le_of_ble_eq_true rfl, Nat.le_of_ble_eq_true rfl⟩ ?_
  refine zx_aloadN dX4_fillFrom_7 rfl rfl ?_
  refine zy_cvvR [] (sX6_startParsing  hfl (by refine zOK_put (zOK_put (zOK_put (zOK_put hz ?_) ?_) ?_) ?_ <;> (unfold zr; omega)) (fun i => (zput_k _ _ _ _ _ (by decide)).trans ((zput_k _ _ _ _ _ (by decide)).trans ((zput_k _ _ _ _ _ (by decide)).trans ((zput_k _ _ _ _ _ (by decide)).trans (hT i))))) (⟨(zput_k _ _ _ _ _ (by decide)).trans ((zput_k _ _ _ _ _ (by decide)).trans ((zput_k _ _ _ _ _ (by decide)).trans ((zput_k _ _ _ _ _ (by decide)).trans hn.1))), hn.2⟩)) dX4_fillFrom_8 (by decide) rfl cw_RX4_21 okX6_startParsing rfl (Nat.le_of_ble_eq_true rfl) ⟨Nat.le_of_ble_eq_true rfl, Nat.le_of_ble_eq_true rfl, Nat.le_of_ble_eq_true rfl, Nat.le_of_ble_eq_true rfl⟩ (fun τ8 hr8 => ?_)
  have hz8 : zOK τ8 := hr8.1
  have hi1 : zSame (fun q => q = 1 ∨ (4 ≤ q ∧ q ≤ 23)) σ τ8 := ⟨fun q hq i => (hr8.2.1.1 q (by dsimp only at hq ⊢; omega) i).trans (by simp only [zput_e]; (repeat' split) <;> first | rfl | (dsimp only at hq; omega)), hr8.2.1.2⟩
  have hcc : ∀ o, o ≤ 19 → ∀ i, τ8.1 (4 + o) i = (zput (zput (zput (zput σ (4 + 1) 0 0) (4 + 1) 7 0) (4 + 1) 10 0) (4 + 12) 0 0).1 (4 + o) i := fun o ho i => hr8.2.1.1 (4 + o) (by dsimp only; omega) i
  have k0 : bk τ8 4 1 0 = 0 := (hcc 1 (by omega) 0).trans (by simp [zput_e])
  have k7 : bk τ8 4 1 7 = 0 := (hcc 1 (by omega) 7).trans (by simp [zput_e])
  have k10 : bk τ8 4 1 10 = 0 := (hcc 1 (by omega) 10).trans (by simp [zput_e])
  have k12 : bk τ8 4 12 0 = 0 := (hcc 12 (by omega) 0).trans (by simp [zput_e])
  have hi3 : PC t n ((fun _ : Nat => ((0, (0, 0, -1), bk τ8 4) : zTr)) 0).2.1 τ8 := hr8.2.2
  have hi4 : bbK τ8 4 := bb_pt2 (fun i => (hcc 17 (by omega) i).trans (by simp only [zput_e]; (repeat' split) <;> first | rfl | omega)) (fun i => (hcc 18 (by omega) i).trans (by simp only [zput_e]; (repeat' split) <;> first | rfl | omega)) hb
  have hi2 : cTr t n (fun _ : Nat => ((0, (0, 0, -1), bk τ8 4) : zTr)) 0 ∧ ((fun _ : Nat => ((0, (0, 0, -1), bk τ8 4) : zTr)) 0).1 = 0 ∧ ((fun _ : Nat => ((0, (0, 0, -1), bk τ8 4) : zTr)) 0).2.2 = bk τ8 4 := ⟨⟨fun i hi => absurd hi (Nat.not_lt_zero i), fun i hi => ⟨WF_emp k0 k7 k10 k12, Nat.zero_le _, fun _ => rfl⟩, rfl, rfl, k0, k7, k10, k12⟩, rfl, rfl⟩
  refine zx_iconst dX4_fillFrom_11 ?_
  refine zy_istoreN [zf 4 3, zf 6 1, zi 0, zu, zu, zu] dX4_fillFrom_12 rfl (Nat.le_of_ble_eq_true rfl) (Nat.le_of_ble_eq_true rfl) rfl rfl ?_
  refine zx_iconst dX4_fillFrom_13 ?_
  refine zy_istoreN [zf 4 3, zf 6 1, zi 0, zi 0, zu, zu] dX4_fillFrom_14 rfl (Nat.le_of_ble_eq_true rfl) (Nat.le_of_ble_eq_true rfl) rfl rfl ?_
  have L15 : ∀ (N : Nat) (τ : zS) (X : Nat → zTr) (sec : Int) (k : Nat), (zOK τ) → (zSame (fun q => q = 1 ∨ (4 ≤ q ∧ q ≤ 23)) σ τ) → (cTr t n X k ∧ (X k).1 = sec ∧ (X k).2.2 = bk τ 4) → (PC t n (X k).2.1 τ) → (bbK τ 4) → (0 ≤ sec ∧ sec ≤ 5) → (k ≤ 1400) → (1401 - k) < N → zX l w mX4_fillFrom (zMQ w 8 0 Q) 15 [zf 4 3, zf 6 1, zi sec, zi ((k : Nat) : Int), zu, zu] [] 0 τ := by
    intro N
    induction N with
    | zero => intro τ X sec k _ _ _ _ _ _ _ _; exact absurd (by assumption) (Nat.not_lt_zero _)
    | succ N ih15 =>
      intro τ X sec k hz h1 h2 h3 h4 h5s hk hN
      have hWk : WF (bk τ 4) := h2.2.2 ▸ (h2.1.2.1 k (Nat.le_refl _)).1
      have hQk := h3.2.2.1
      have hP4 : 0 ≤ τ.1 5 0 ∧ τ.1 5 0 ≤ 8 := hWk.1.1
      have hzs : zr sec := by unfold zr; omega
      refine zx_iloadN dX4_fillFrom_15 rfl rfl ?_
      refine zx_sipush dX4_fillFrom_16 rfl ?_
      refine zx_icmp_ge (tgt := 110) (by first | exact hz _ _ | assumption | exact zr_b _ | exact zcmp_r _ _ | (unfold zr at *; omega)) (by first | exact hz _ _ | assumption | exact zr_b _ | exact zcmp_r _ _ | (unfold zr at *; omega)) dX4_fillFrom_19 (by decide) (fun h19 => ?_) (fun h19 => ?_)
      · have hend : ¬ ((X k).2.1.2.1 = 0 ∧ ¬ xK t n (X k).2.1.1 = 0) := by
          rintro ⟨z1, z2⟩
          have hpos := cTr_pos h2.1 k (Nat.le_refl _) z1
          obtain ⟨z3, -⟩ := xK_n z2
          have z4 := xS_le (t := t) hQk
          have z5 := h3.2.2.2.1.1
          have z6 := (h3.2.2.2.2.1 z1).2.1
          have z7 := hn.2
          first
          | (exfalso; omega)
          | exact h26 ⟨z5.trans z1, fun q => z2 (z6.symm.trans q)⟩
        have ef0 : (X k).2.2 1 0 = τ.1 5 0 := by rw [h2.2.2]; rfl
        refine zx_aloadN dX4_fillFrom_110 rfl rfl ?_
        refine zy_getR (q' := 4) fl_RX4_12 rfl dX4_fillFrom_111 rfl ?_
        refine zy_getR (q' := 5) fl_RX4_34 rfl dX4_fillFrom_114 rfl ?_
        refine zy_getI fl_RX4_38 rfl dX4_fillFrom_117 rfl ?_
        refine zx_if_ne (tgt := 128) (by first | exact hz _ _ | assumption | exact zr_b _ | exact zcmp_r _ _ | (unfold zr at *; omega)) dX4_fillFrom_120 (by decide) (fun h120 => ?_) (fun h120 => ?_)
        · refine zx_aloadN dX4_fillFrom_128 rfl rfl ?_
          refine zy_cv [] (sX6_isSound  hfl hz ) dX4_fillFrom_129 (by decide) rfl cw_RX4_63 okX6_isSound rfl (Nat.le_of_ble_eq_true rfl) ⟨Nat.le_of_ble_eq_true rfl, Nat.le_of_ble_eq_true rfl, Nat.le_of_ble_eq_true rfl, Nat.le_of_ble_eq_true rfl⟩ ?_
          refine zx_iret rfl (zb_nar _) dX4_fillFrom_132 ?_
          rw [hQ]
          have hfe : cFin t n X k = (X k).2.1 := by unfold cFin; rw [if_neg (by omega)]
          refine ⟨X, k, ?_, hz, h1, by rw [hfe]; exact h3, h2.1, hend, h2.2.2, h4⟩
          rw [hfe]
          exact congrArg (fun z : Int => (Sum.inl (some (zi z)) : Option zV ⊕ String)) (zb_c (by rw [h3.2.2.2.1.1]))
        · refine zx_aloadN dX4_fillFrom_123 rfl rfl ?_
          refine zx_iconst dX4_fillFrom_124 ?_
          refine zy_cvvR [zi 1] (sX6_fail (S := (X k).2.1) hfl hz (by omega) h3) dX4_fillFrom_125 (by decide) rfl cw_RX4_48 okX6_fail rfl (Nat.le_of_ble_eq_true rfl) ⟨Nat.le_of_ble_eq_true rfl, Nat.le_of_ble_eq_true rfl, Nat.le_of_ble_eq_true rfl, Nat.le_of_ble_eq_true rfl⟩ (fun τ125 hr125 => ?_)
          have hz125 : zOK τ125 := hr125.1
          have hfe : cFin t n X k = pF t n (X k).2.1 1 := by unfold cFin; rw [if_pos (by omega)]
          have npe : pEq (bk τ 4) (bk τ125 4) := bk_same hr125.2.1
          refine zx_aloadN dX4_fillFrom_128 rfl rfl ?_
          refine zy_cv [] (sX6_isSound  hfl hz125 ) dX4_fillFrom_129 (by decide) rfl cw_RX4_63 okX6_isSound rfl (Nat.le_of_ble_eq_true rfl) ⟨Nat.le_of_ble_eq_true rfl, Nat.le_of_ble_eq_true rfl, Nat.le_of_ble_eq_true rfl, Nat.le_of_ble_eq_true rfl⟩ ?_
          refine zx_iret rfl (zb_nar _) dX4_fillFrom_132 ?_
          rw [hQ]
          refine ⟨fun i => if i = k then ((X k).1, (X k).2.1, bk τ125 4) else X i, k, ?_, hz125, zSame_tr h1 hr125.2.1 (fun q hq => by first | omega | (dsimp only at hq ⊢; omega)), ?_, ?_, ?_, ?_, bb_pt (fun o ho i => npe o ho i) h4⟩
          · have e := cFin_l (t := t) (n := n) (X := X) (k := k) (D := bk τ125 4) ((npe 1 (by omega) 0).trans ef0.symm)
            rw [e, hfe]
            exact congrArg (fun z : Int => (Sum.inl (some (zi z)) : Option zV ⊕ String)) (zb_c (by rw [hr125.2.2.2.2.2.1.1]))
          · rw [cFin_l (t := t) (n := n) (X := X) (k := k) (D := bk τ125 4) ((npe 1 (by omega) 0).trans ef0.symm), hfe]; exact hr125.2.2
          · exact cTr_l h2.1 (by rw [h2.2.2]; exact npe)
          · have e : (fun i => if i = k then ((X k).1, (X k).2.1, bk τ125 4) else X i) k = ((X k).1, (X k).2.1, bk τ125 4) := if_pos rfl
            rw [e]; exact hend
          · have e : (fun i => if i = k then ((X k).1, (X k).2.1, bk τ125 4) else X i) k = ((X k).1, (X k).2.1, bk τ125 4) := if_pos rfl
            rw [e]
      · refine zx_aloadN dX4_fillFrom_22 rfl rfl ?_
        refine zy_cv [] (sX6_hasMore  hfl hz ) dX4_fillFrom_23 (by decide) rfl cw_RX4_26 okX6_hasMore rfl (Nat.le_of_ble_eq_true rfl) ⟨Nat.le_of_ble_eq_true rfl, Nat.le_of_ble_eq_true rfl, Nat.le_of_ble_eq_true rfl, Nat.le_of_ble_eq_true rfl⟩ ?_
        refine zx_if_eq (tgt := 110) (by first | exact hz _ _ | assumption | exact zr_b _ | exact zcmp_r _ _ | (unfold zr at *; omega)) dX4_fillFrom_26 (by decide) (fun h26 => ?_) (fun h26 => ?_)
        · have h26 := zb_0.mp h26
          have hend : ¬ ((X k).2.1.2.1 = 0 ∧ ¬ xK t n (X k).2.1.1 = 0) := by
            rintro ⟨z1, z2⟩
            have hpos := cTr_pos h2.1 k (Nat.le_refl _) z1
            obtain ⟨z3, -⟩ := xK_n z2
            have z4 := xS_le (t := t) hQk
            have z5 := h3.2.2.2.1.1
            have z6 := (h3.2.2.2.2.1 z1).2.1
            have z7 := hn.2
            first
            | (exfalso; omega)
            | exact h26 ⟨z5.trans z1, fun q => z2 (z6.symm.trans q)⟩
          have ef0 : (X k).2.2 1 0 = τ.1 5 0 := by rw [h2.2.2]; rfl
          refine zx_aloadN dX4_fillFrom_110 rfl rfl ?_
          refine zy_getR (q' := 4) fl_RX4_12 rfl dX4_fillFrom_111 rfl ?_
          refine zy_getR (q' := 5) fl_RX4_34 rfl dX4_fillFrom_114 rfl ?_
          refine zy_getI fl_RX4_38 rfl dX4_fillFrom_117 rfl ?_
          refine zx_if_ne (tgt := 128) (by first | exact hz _ _ | assumption | exact zr_b _ | exact zcmp_r _ _ | (unfold zr at *; omega)) dX4_fillFrom_120 (by decide) (fun h120 => ?_) (fun h120 => ?_)
          · refine zx_aloadN dX4_fillFrom_128 rfl rfl ?_
            refine zy_cv [] (sX6_isSound  hfl hz ) dX4_fillFrom_129 (by decide) rfl cw_RX4_63 okX6_isSound rfl (Nat.le_of_ble_eq_true rfl) ⟨Nat.le_of_ble_eq_true rfl, Nat.le_of_ble_eq_true rfl, Nat.le_of_ble_eq_true rfl, Nat.le_of_ble_eq_true rfl⟩ ?_
            refine zx_iret rfl (zb_nar _) dX4_fillFrom_132 ?_
            rw [hQ]
            have hfe : cFin t n X k = (X k).2.1 := by unfold cFin; rw [if_neg (by omega)]
            refine ⟨X, k, ?_, hz, h1, by rw [hfe]; exact h3, h2.1, hend, h2.2.2, h4⟩
            rw [hfe]
            exact congrArg (fun z : Int => (Sum.inl (some (zi z)) : Option zV ⊕ String)) (zb_c (by rw [h3.2.2.2.1.1]))
          · refine zx_aloadN dX4_fillFrom_123 rfl rfl ?_
            refine zx_iconst dX4_fillFrom_124 ?_
            refine zy_cvvR [zi 1] (sX6_fail (S := (X k).2.1) hfl hz (by omega) h3) dX4_fillFrom_125 (by decide) rfl cw_RX4_48 okX6_fail rfl (Nat.le_of_ble_eq_true rfl) ⟨Nat.le_of_ble_eq_true rfl, Nat.le_of_ble_eq_true rfl, Nat.le_of_ble_eq_true rfl, Nat.le_of_ble_eq_true rfl⟩ (fun τ125 hr125 => ?_)
            have hz125 : zOK τ125 := hr125.1
            have hfe : cFin t n X k = pF t n (X k).2.1 1 := by unfold cFin; rw [if_pos (by omega)]
            have npe : pEq (bk τ 4) (bk τ125 4) := bk_same hr125.2.1
            refine zx_aloadN dX4_fillFrom_128 rfl rfl ?_
            refine zy_cv [] (sX6_isSound  hfl hz125 ) dX4_fillFrom_129 (by decide) rfl cw_RX4_63 okX6_isSound rfl (Nat.le_of_ble_eq_true rfl) ⟨Nat.le_of_ble_eq_true rfl, Nat.le_of_ble_eq_true rfl, Nat.le_of_ble_eq_true rfl, Nat.le_of_ble_eq_true rfl⟩ ?_
            refine zx_iret rfl (zb_nar _) dX4_fillFrom_132 ?_
            rw [hQ]
            refine ⟨fun i => if i = k then ((X k).1, (X k).2.1, bk τ125 4) else X i, k, ?_, hz125, zSame_tr h1 hr125.2.1 (fun q hq => by first | omega | (dsimp only at hq ⊢; omega)), ?_, ?_, ?_, ?_, bb_pt (fun o ho i => npe o ho i) h4⟩
            · have e := cFin_l (t := t) (n := n) (X := X) (k := k) (D := bk τ125 4) ((npe 1 (by omega) 0).trans ef0.symm)
              rw [e, hfe]
              exact congrArg (fun z : Int => (Sum.inl (some (zi z)) : Option zV ⊕ String)) (zb_c (by rw [hr125.2.2.2.2.2.1.1]))
            · rw [cFin_l (t := t) (n := n) (X := X) (k := k) (D := bk τ125 4) ((npe 1 (by omega) 0).trans ef0.symm), hfe]; exact hr125.2.2
            · exact cTr_l h2.1 (by rw [h2.2.2]; exact npe)
            · have e : (fun i => if i = k then ((X k).1, (X k).2.1, bk τ125 4) else X i) k = ((X k).1, (X k).2.1, bk τ125 4) := if_pos rfl
              rw [e]; exact hend
            · have e : (fun i => if i = k then ((X k).1, (X k).2.1, bk τ125 4) else X i) k = ((X k).1, (X k).2.1, bk τ125 4) := if_pos rfl
              rw [e]
        · have h26 := zb_n.mp h26
          have hs0 : (X k).2.1.2.1 = 0 := h3.2.2.2.1.1.symm.trans h26.1
          have hsk : ¬ xK t n (X k).2.1.1 = 0 := fun q => h26.2 ((h3.2.2.2.2.1 hs0).2.1.trans q)
          have hsc := sct_r t n (X k).2.1.1
          have hwt : wth t n (X k) ↔ (sec ≤ (sct t n (X k).2.1.1) ∧ (sct t n (X k).2.1.1) ≤ (if τ.1 5 0 = 0 then 0 else 5)) := by unfold wth lst; rw [h2.2.1, h2.2.2]; exact Iff.rfl
          have hful : ful (X k).2.2 (sct t n (X k).2.1.1) ↔ ful (bk τ 4) (sct t n (X k).2.1.1) := by rw [h2.2.2]
          refine zx_aloadN dX4_fillFrom_29 rfl rfl ?_
          refine zy_cs [zf 6 1] (sX4_sectionAt (S := (X k).2.1) hfl hz h3 hs0) dX4_fillFrom_30 cw_RX4_30 okX4_sectionAt rfl (Nat.le_of_ble_eq_true rfl) ⟨Nat.le_of_ble_eq_true rfl, Nat.le_of_ble_eq_true rfl, Nat.le_of_ble_eq_true rfl, Nat.le_of_ble_eq_true rfl⟩ ?_
          refine zy_istore [zf 4 3, zf 6 1, zi sec, zi ((k : Nat) : Int), zi (sct t n (X k).2.1.1), zu] dX4_fillFrom_33 (Nat.le_of_ble_eq_true rfl) (Nat.le_of_ble_eq_true rfl) rfl rfl ?_
          refine zx_aloadN dX4_fillFrom_35 rfl rfl ?_
          refine zy_getR (q' := 4) fl_RX4_12 rfl dX4_fillFrom_36 rfl ?_
          refine zy_getR (q' := 5) fl_RX4_34 rfl dX4_fillFrom_39 rfl ?_
          refine zy_getI fl_RX4_38 rfl dX4_fillFrom_42 rfl ?_
          refine zx_if_ne (tgt := 52) (by first | exact hz _ _ | assumption | exact zr_b _ | exact zcmp_r _ _ | (unfold zr at *; omega)) dX4_fillFrom_45 (by decide) (fun h45 => ?_) (fun h45 => ?_)
          · refine zx_iconst dX4_fillFrom_52 ?_
            refine zy_top (b := if τ.1 5 0 = 0 then 0 else 5) (by first | exact (if_pos (by assumption)).symm | exact (if_neg (by assumption)).symm) ?_
            have hzl : zr (if τ.1 5 0 = 0 then 0 else 5) := by split <;> (unfold zr; omega)
            refine zy_istore [zf 4 3, zf 6 1, zi sec, zi ((k : Nat) : Int), zi (sct t n (X k).2.1.1), zi (if τ.1 5 0 = 0 then 0 else 5)] dX4_fillFrom_53 (Nat.le_of_ble_eq_true rfl) (Nat.le_of_ble_eq_true rfl) rfl rfl ?_
            refine zx_iload dX4_fillFrom_55 rfl ?_
            refine zx_iloadN dX4_fillFrom_57 rfl rfl ?_
            refine zx_iload dX4_fillFrom_58 rfl ?_
            refine zy_cn [zi (sct t n (X k).2.1.1), zi sec, zi (if τ.1 5 0 = 0 then 0 else 5)] (sX9_isWithin  hfl hz (by first | exact hz _ _ | assumption | exact zr_b _ | exact zcmp_r _ _ | (unfold zr at *; omega)) (by first | exact hz _ _ | assumption | exact zr_b _ | exact zcmp_r _ _ | (unfold zr at *; omega)) (by first | exact hz _ _ | assumption | exact zr_b _ | exact zcmp_r _ _ | (unfold zr at *; omega))) dX4_fillFrom_60 cw_RX4_44 okX9_isWithin rfl (Nat.le_of_ble_eq_true rfl) ⟨Nat.le_of_ble_eq_true rfl, Nat.le_of_ble_eq_true rfl, Nat.le_of_ble_eq_true rfl, Nat.le_of_ble_eq_true rfl⟩ ?_
            refine zx_if_ne (tgt := 74) (by first | exact hz _ _ | assumption | exact zr_b _ | exact zcmp_r _ _ | (unfold zr at *; omega)) dX4_fillFrom_63 (by decide) (fun h63 => ?_) (fun h63 => ?_)
            · have h63 := zb_n.mp h63
              refine zx_aloadN dX4_fillFrom_74 rfl rfl ?_
              refine zx_iload dX4_fillFrom_75 rfl ?_
              refine zy_cv [zi (sct t n (X k).2.1.1)] (sX4_isFull  hfl hz hWk (by omega)) dX4_fillFrom_77 (by decide) rfl cw_RX4_52 okX4_isFull rfl (Nat.le_of_ble_eq_true rfl) ⟨Nat.le_of_ble_eq_true rfl, Nat.le_of_ble_eq_true rfl, Nat.le_of_ble_eq_true rfl, Nat.le_of_ble_eq_true rfl⟩ ?_
              refine zx_if_eq (tgt := 91) (by first | exact hz _ _ | assumption | exact zr_b _ | exact zcmp_r _ _ | (unfold zr at *; omega)) dX4_fillFrom_80 (by decide) (fun h80 => ?_) (fun h80 => ?_)
              · have h80 := zb_0.mp h80
                refine zx_iload dX4_fillFrom_91 rfl ?_
                refine zy_istoreN [zf 4 3, zf 6 1, zi (sct t n (X k).2.1.1), zi ((k : Nat) : Int), zi (sct t n (X k).2.1.1), zi (if τ.1 5 0 = 0 then 0 else 5)] dX4_fillFrom_93 rfl (Nat.le_of_ble_eq_true rfl) (Nat.le_of_ble_eq_true rfl) rfl rfl ?_
                refine zx_aloadN dX4_fillFrom_94 rfl rfl ?_
                refine zy_cvvR [] (sX6_takeToken (S := (X k).2.1) hfl hz h3 hs0) dX4_fillFrom_95 (by decide) rfl cw_RX4_56 okX6_takeToken rfl (Nat.le_of_ble_eq_true rfl) ⟨Nat.le_of_ble_eq_true rfl, Nat.le_of_ble_eq_true rfl, Nat.le_of_ble_eq_true rfl, Nat.le_of_ble_eq_true rfl⟩ (fun τ95 hr95 => ?_)
                have hz95 : zOK τ95 := hr95.1
                have npe : pEq (bk τ 4) (bk τ95 4) := bk_same hr95.2.1
                have hWn := WF_eq (pEq_z npe) hWk
                have hb95 : bbK τ95 4 := bb_pt (fun o ho i => npe o ho i) h4
                have hfe : ful (bk τ95 4) (sct t n (X k).2.1.1) ↔ ful (bk τ 4) (sct t n (X k).2.1.1) := by unfold ful; rw [npe 1 (by omega), npe 1 (by omega), npe 1 (by omega), npe 12 (by omega)]
                refine zx_aloadN dX4_fillFrom_98 rfl rfl ?_
                refine zx_aloadN dX4_fillFrom_99 rfl rfl ?_
                refine zx_iloadN dX4_fillFrom_100 rfl rfl ?_
                by_cases hb101 : (sct t n (X k).2.1.1) = 0
                · refine zy_cvvR [zf 6 1, zi (sct t n (X k).2.1.1)] (sX4_takeStatement_0 (S := (pN t n (X k).2.1)) hfl hz95 hWn hb95 hr95.2.2 (by omega) (fun q => h80 (hfe.mp q))) dX4_fillFrom_101 (by decide) rfl cw_RX4_59 okX4_takeStatement rfl (Nat.le_of_ble_eq_true rfl) ⟨Nat.le_of_ble_eq_true rfl, Nat.le_of_ble_eq_true rfl, Nat.le_of_ble_eq_true rfl, Nat.le_of_ble_eq_true rfl⟩ (fun τ101 hr101 => ?_)
                  have hz101 : zOK τ101 := hr101.1
                  have ebk : ∀ o, o ≤ 19 → ∀ i, bk τ95 4 o i = (X k).2.2 o i := fun o ho i => by rw [h2.2.2]; exact npe o ho i
                  have n1 : zSame (fun q => q = 1 ∨ (4 ≤ q ∧ q ≤ 23)) σ τ101 := zSame_tr (zSame_tr h1 hr95.2.1 (fun q hq => by first | omega | (dsimp only at hq ⊢; omega))) hr101.2.1 (fun q hq => by first | omega | (dsimp only at hq ⊢; omega))
                  have eS := sStS_p (t := t) (n := n) (k := (sct t n (X k).2.1.1)) (S := pN t n (X k).2.1) ebk
                  have eB := sBk_p (t := t) (n := n) (k := (sct t n (X k).2.1.1)) (S := pN t n (X k).2.1) ebk
                  have npc : PC t n (sStS t n (sct t n (X k).2.1.1) (X k).2.2 (pN t n (X k).2.1)) τ101 := by rw [← eS]; exact hr101.2.2.1
                  have nbb : bbK τ101 4 := hr101.2.2.2.2.1
                  have nwf := (⟨hr101.2.2.2.1, npc.2.2.1, fun q => (npc.2.2.2.2.1 q).1⟩ : WF (bk τ101 4) ∧ (sStS t n (sct t n (X k).2.1.1) (X k).2.2 (pN t n (X k).2.1)).1 ≤ n ∧ ((sStS t n (sct t n (X k).2.1.1) (X k).2.2 (pN t n (X k).2.1)).2.1 = 0 → (sStS t n (sct t n (X k).2.1.1) (X k).2.2 (pN t n (X k).2.1)).2.2 = -1))
                  have nst : stp t n (X k) ((sct t n (X k).2.1.1), sStS t n (sct t n (X k).2.1.1) (X k).2.2 (pN t n (X k).2.1), bk τ101 4) := ⟨hs0, hsk, Or.inr (Or.inr ⟨hwt.mpr h63, fun q => h80 (hful.mp q), rfl, rfl, lEq_tr (pEq_l eB) hr101.2.2.2.2.2⟩)⟩
                  refine zy_iinc (b := ((k + 1 : Nat) : Int)) [zf 4 3, zf 6 1, zi (sct t n (X k).2.1.1), zi ((k + 1 : Nat) : Int), zi (sct t n (X k).2.1.1), zi (if τ.1 5 0 = 0 then 0 else 5)] dX4_fillFrom_104 rfl (by omega) (Nat.le_of_ble_eq_true rfl) rfl rfl ?_
                  refine zx_goto (tgt := 15) dX4_fillFrom_107 (by decide) ?_
                  refine zy_drop 4 [zf 4 3, zf 6 1, zi (sct t n (X k).2.1.1), zi ((k + 1 : Nat) : Int), zu, zi (if τ.1 5 0 = 0 then 0 else 5)] rfl ?_
                  refine zy_drop 5 [zf 4 3, zf 6 1, zi (sct t n (X k).2.1.1), zi ((k + 1 : Nat) : Int), zu, zu] rfl ?_
                  exact ih15 τ101 (xUp X k ((sct t n (X k).2.1.1), sStS t n (sct t n (X k).2.1.1) (X k).2.2 (pN t n (X k).2.1), bk τ101 4)) (sct t n (X k).2.1.1) (k + 1) hz101 (by first | exact n1) (by rw [xUp_n]; exact ⟨cTr_up h2.1 nst nwf, rfl, rfl⟩) (by rw [xUp_n]; exact npc) nbb (by omega) (by first | assumption | omega) (by omega)
                · by_cases hb101b : (sct t n (X k).2.1.1) = 1
                  · refine zy_cvvR [zf 6 1, zi (sct t n (X k).2.1.1)] (sX4_takeStatement_1 (S := (pN t n (X k).2.1)) hfl hz95 hWn hb95 hr95.2.2 (by omega) (fun q => h80 (hfe.mp q))) dX4_fillFrom_101 (by decide) rfl cw_RX4_59 okX4_takeStatement rfl (Nat.le_of_ble_eq_true rfl) ⟨Nat.le_of_ble_eq_true rfl, Nat.le_of_ble_eq_true rfl, Nat.le_of_ble_eq_true rfl, Nat.le_of_ble_eq_true rfl⟩ (fun τ101 hr101 => ?_)
                    have hz101 : zOK τ101 := hr101.1
                    have ebk : ∀ o, o ≤ 19 → ∀ i, bk τ95 4 o i = (X k).2.2 o i := fun o ho i => by rw [h2.2.2]; exact npe o ho i
                    have n1 : zSame (fun q => q = 1 ∨ (4 ≤ q ∧ q ≤ 23)) σ τ101 := zSame_tr (zSame_tr h1 hr95.2.1 (fun q hq => by first | omega | (dsimp only at hq ⊢; omega))) hr101.2.1 (fun q hq => by first | omega | (dsimp only at hq ⊢; omega))
                    have eS := sStS_p (t := t) (n := n) (k := (sct t n (X k).2.1.1)) (S := pN t n (X k).2.1) ebk
                    have eB := sBk_p (t := t) (n := n) (k := (sct t n (X k).2.1.1)) (S := pN t n (X k).2.1) ebk
                    have npc : PC t n (sStS t n (sct t n (X k).2.1.1) (X k).2.2 (pN t n (X k).2.1)) τ101 := by rw [← eS]; exact hr101.2.2.1
                    have nbb : bbK τ101 4 := hr101.2.2.2.2.1
                    have nwf := (⟨hr101.2.2.2.1, npc.2.2.1, fun q => (npc.2.2.2.2.1 q).1⟩ : WF (bk τ101 4) ∧ (sStS t n (sct t n (X k).2.1.1) (X k).2.2 (pN t n (X k).2.1)).1 ≤ n ∧ ((sStS t n (sct t n (X k).2.1.1) (X k).2.2 (pN t n (X k).2.1)).2.1 = 0 → (sStS t n (sct t n (X k).2.1.1) (X k).2.2 (pN t n (X k).2.1)).2.2 = -1))
                    have nst : stp t n (X k) ((sct t n (X k).2.1.1), sStS t n (sct t n (X k).2.1.1) (X k).2.2 (pN t n (X k).2.1), bk τ101 4) := ⟨hs0, hsk, Or.inr (Or.inr ⟨hwt.mpr h63, fun q => h80 (hful.mp q), rfl, rfl, lEq_tr (pEq_l eB) hr101.2.2.2.2.2⟩)⟩
                    refine zy_iinc (b := ((k + 1 : Nat) : Int)) [zf 4 3, zf 6 1, zi (sct t n (X k).2.1.1), zi ((k + 1 : Nat) : Int), zi (sct t n (X k).2.1.1), zi (if τ.1 5 0 = 0 then 0 else 5)] dX4_fillFrom_104 rfl (by omega) (Nat.le_of_ble_eq_true rfl) rfl rfl ?_
                    refine zx_goto (tgt := 15) dX4_fillFrom_107 (by decide) ?_
                    refine zy_drop 4 [zf 4 3, zf 6 1, zi (sct t n (X k).2.1.1), zi ((k + 1 : Nat) : Int), zu, zi (if τ.1 5 0 = 0 then 0 else 5)] rfl ?_
                    refine zy_drop 5 [zf 4 3, zf 6 1, zi (sct t n (X k).2.1.1), zi ((k + 1 : Nat) : Int), zu, zu] rfl ?_
                    exact ih15 τ101 (xUp X k ((sct t n (X k).2.1.1), sStS t n (sct t n (X k).2.1.1) (X k).2.2 (pN t n (X k).2.1), bk τ101 4)) (sct t n (X k).2.1.1) (k + 1) hz101 (by first | exact n1) (by rw [xUp_n]; exact ⟨cTr_up h2.1 nst nwf, rfl, rfl⟩) (by rw [xUp_n]; exact npc) nbb (by omega) (by first | assumption | omega) (by omega)
                  · by_cases hb101bb : (sct t n (X k).2.1.1) = 2
                    · refine zy_cvvR [zf 6 1, zi (sct t n (X k).2.1.1)] (sX4_takeStatement_2 (S := (pN t n (X k).2.1)) hfl hz95 hWn hb95 hr95.2.2 (by omega) (fun q => h80 (hfe.mp q))) dX4_fillFrom_101 (by decide) rfl cw_RX4_59 okX4_takeStatement rfl (Nat.le_of_ble_eq_true rfl) ⟨Nat.le_of_ble_eq_true rfl, Nat.le_of_ble_eq_true rfl, Nat.le_of_ble_eq_true rfl, Nat.le_of_ble_eq_true rfl⟩ (fun τ101 hr101 => ?_)
                      have hz101 : zOK τ101 := hr101.1
                      have ebk : ∀ o, o ≤ 19 → ∀ i, bk τ95 4 o i = (X k).2.2 o i := fun o ho i => by rw [h2.2.2]; exact npe o ho i
                      have n1 : zSame (fun q => q = 1 ∨ (4 ≤ q ∧ q ≤ 23)) σ τ101 := zSame_tr (zSame_tr h1 hr95.2.1 (fun q hq => by first | omega | (dsimp only at hq ⊢; omega))) hr101.2.1 (fun q hq => by first | omega | (dsimp only at hq ⊢; omega))
                      have eS := sStS_p (t := t) (n := n) (k := (sct t n (X k).2.1.1)) (S := pN t n (X k).2.1) ebk
                      have eB := sBk_p (t := t) (n := n) (k := (sct t n (X k).2.1.1)) (S := pN t n (X k).2.1) ebk
                      have npc : PC t n (sStS t n (sct t n (X k).2.1.1) (X k).2.2 (pN t n (X k).2.1)) τ101 := by rw [← eS]; exact hr101.2.2.1
                      have nbb : bbK τ101 4 := hr101.2.2.2.2.1
                      have nwf := (⟨hr101.2.2.2.1, npc.2.2.1, fun q => (npc.2.2.2.2.1 q).1⟩ : WF (bk τ101 4) ∧ (sStS t n (sct t n (X k).2.1.1) (X k).2.2 (pN t n (X k).2.1)).1 ≤ n ∧ ((sStS t n (sct t n (X k).2.1.1) (X k).2.2 (pN t n (X k).2.1)).2.1 = 0 → (sStS t n (sct t n (X k).2.1.1) (X k).2.2 (pN t n (X k).2.1)).2.2 = -1))
                      have nst : stp t n (X k) ((sct t n (X k).2.1.1), sStS t n (sct t n (X k).2.1.1) (X k).2.2 (pN t n (X k).2.1), bk τ101 4) := ⟨hs0, hsk, Or.inr (Or.inr ⟨hwt.mpr h63, fun q => h80 (hful.mp q), rfl, rfl, lEq_tr (pEq_l eB) hr101.2.2.2.2.2⟩)⟩
                      refine zy_iinc (b := ((k + 1 : Nat) : Int)) [zf 4 3, zf 6 1, zi (sct t n (X k).2.1.1), zi ((k + 1 : Nat) : Int), zi (sct t n (X k).2.1.1), zi (if τ.1 5 0 = 0 then 0 else 5)] dX4_fillFrom_104 rfl (by omega) (Nat.le_of_ble_eq_true rfl) rfl rfl ?_
                      refine zx_goto (tgt := 15) dX4_fillFrom_107 (by decide) ?_
                      refine zy_drop 4 [zf 4 3, zf 6 1, zi (sct t n (X k).2.1.1), zi ((k + 1 : Nat) : Int), zu, zi (if τ.1 5 0 = 0 then 0 else 5)] rfl ?_
                      refine zy_drop 5 [zf 4 3, zf 6 1, zi (sct t n (X k).2.1.1), zi ((k + 1 : Nat) : Int), zu, zu] rfl ?_
                      exact ih15 τ101 (xUp X k ((sct t n (X k).2.1.1), sStS t n (sct t n (X k).2.1.1) (X k).2.2 (pN t n (X k).2.1), bk τ101 4)) (sct t n (X k).2.1.1) (k + 1) hz101 (by first | exact n1) (by rw [xUp_n]; exact ⟨cTr_up h2.1 nst nwf, rfl, rfl⟩) (by rw [xUp_n]; exact npc) nbb (by omega) (by first | assumption | omega) (by omega)
                    · by_cases hb101bbb : (sct t n (X k).2.1.1) = 3
                      · refine zy_cvvR [zf 6 1, zi (sct t n (X k).2.1.1)] (sX4_takeStatement_3 (S := (pN t n (X k).2.1)) hfl hz95 hWn hb95 hr95.2.2 (by omega) (fun q => h80 (hfe.mp q))) dX4_fillFrom_101 (by decide) rfl cw_RX4_59 okX4_takeStatement rfl (Nat.le_of_ble_eq_true rfl) ⟨Nat.le_of_ble_eq_true rfl, Nat.le_of_ble_eq_true rfl, Nat.le_of_ble_eq_true rfl, Nat.le_of_ble_eq_true rfl⟩ (fun τ101 hr101 => ?_)
                        have hz101 : zOK τ101 := hr101.1
                        have ebk : ∀ o, o ≤ 19 → ∀ i, bk τ95 4 o i = (X k).2.2 o i := fun o ho i => by rw [h2.2.2]; exact npe o ho i
                        have n1 : zSame (fun q => q = 1 ∨ (4 ≤ q ∧ q ≤ 23)) σ τ101 := zSame_tr (zSame_tr h1 hr95.2.1 (fun q hq => by first | omega | (dsimp only at hq ⊢; omega))) hr101.2.1 (fun q hq => by first | omega | (dsimp only at hq ⊢; omega))
                        have eS := sStS_p (t := t) (n := n) (k := (sct t n (X k).2.1.1)) (S := pN t n (X k).2.1) ebk
                        have eB := sBk_p (t := t) (n := n) (k := (sct t n (X k).2.1.1)) (S := pN t n (X k).2.1) ebk
                        have npc : PC t n (sStS t n (sct t n (X k).2.1.1) (X k).2.2 (pN t n (X k).2.1)) τ101 := by rw [← eS]; exact hr101.2.2.1
                        have nbb : bbK τ101 4 := hr101.2.2.2.2.1
                        have nwf := (⟨hr101.2.2.2.1, npc.2.2.1, fun q => (npc.2.2.2.2.1 q).1⟩ : WF (bk τ101 4) ∧ (sStS t n (sct t n (X k).2.1.1) (X k).2.2 (pN t n (X k).2.1)).1 ≤ n ∧ ((sStS t n (sct t n (X k).2.1.1) (X k).2.2 (pN t n (X k).2.1)).2.1 = 0 → (sStS t n (sct t n (X k).2.1.1) (X k).2.2 (pN t n (X k).2.1)).2.2 = -1))
                        have nst : stp t n (X k) ((sct t n (X k).2.1.1), sStS t n (sct t n (X k).2.1.1) (X k).2.2 (pN t n (X k).2.1), bk τ101 4) := ⟨hs0, hsk, Or.inr (Or.inr ⟨hwt.mpr h63, fun q => h80 (hful.mp q), rfl, rfl, lEq_tr (pEq_l eB) hr101.2.2.2.2.2⟩)⟩
                        refine zy_iinc (b := ((k + 1 : Nat) : Int)) [zf 4 3, zf 6 1, zi (sct t n (X k).2.1.1), zi ((k + 1 : Nat) : Int), zi (sct t n (X k).2.1.1), zi (if τ.1 5 0 = 0 then 0 else 5)] dX4_fillFrom_104 rfl (by omega) (Nat.le_of_ble_eq_true rfl) rfl rfl ?_
                        refine zx_goto (tgt := 15) dX4_fillFrom_107 (by decide) ?_
                        refine zy_drop 4 [zf 4 3, zf 6 1, zi (sct t n (X k).2.1.1), zi ((k + 1 : Nat) : Int), zu, zi (if τ.1 5 0 = 0 then 0 else 5)] rfl ?_
                        refine zy_drop 5 [zf 4 3, zf 6 1, zi (sct t n (X k).2.1.1), zi ((k + 1 : Nat) : Int), zu, zu] rfl ?_
                        exact ih15 τ101 (xUp X k ((sct t n (X k).2.1.1), sStS t n (sct t n (X k).2.1.1) (X k).2.2 (pN t n (X k).2.1), bk τ101 4)) (sct t n (X k).2.1.1) (k + 1) hz101 (by first | exact n1) (by rw [xUp_n]; exact ⟨cTr_up h2.1 nst nwf, rfl, rfl⟩) (by rw [xUp_n]; exact npc) nbb (by omega) (by first | assumption | omega) (by omega)
                      · by_cases hb101bbbb : (sct t n (X k).2.1.1) = 4
                        · refine zy_cvvR [zf 6 1, zi (sct t n (X k).2.1.1)] (sX4_takeStatement_4 (S := (pN t n (X k).2.1)) hfl hz95 hWn hb95 hr95.2.2 (by omega) (fun q => h80 (hfe.mp q))) dX4_fillFrom_101 (by decide) rfl cw_RX4_59 okX4_takeStatement rfl (Nat.le_of_ble_eq_true rfl) ⟨Nat.le_of_ble_eq_true rfl, Nat.le_of_ble_eq_true rfl, Nat.le_of_ble_eq_true rfl, Nat.le_of_ble_eq_true rfl⟩ (fun τ101 hr101 => ?_)
                          have hz101 : zOK τ101 := hr101.1
                          have ebk : ∀ o, o ≤ 19 → ∀ i, bk τ95 4 o i = (X k).2.2 o i := fun o ho i => by rw [h2.2.2]; exact npe o ho i
                          have n1 : zSame (fun q => q = 1 ∨ (4 ≤ q ∧ q ≤ 23)) σ τ101 := zSame_tr (zSame_tr h1 hr95.2.1 (fun q hq => by first | omega | (dsimp only at hq ⊢; omega))) hr101.2.1 (fun q hq => by first | omega | (dsimp only at hq ⊢; omega))
                          have eS := sStS_p (t := t) (n := n) (k := (sct t n (X k).2.1.1)) (S := pN t n (X k).2.1) ebk
                          have eB := sBk_p (t := t) (n := n) (k := (sct t n (X k).2.1.1)) (S := pN t n (X k).2.1) ebk
                          have npc : PC t n (sStS t n (sct t n (X k).2.1.1) (X k).2.2 (pN t n (X k).2.1)) τ101 := by rw [← eS]; exact hr101.2.2.1
                          have nbb : bbK τ101 4 := hr101.2.2.2.2.1
                          have nwf := (⟨hr101.2.2.2.1, npc.2.2.1, fun q => (npc.2.2.2.2.1 q).1⟩ : WF (bk τ101 4) ∧ (sStS t n (sct t n (X k).2.1.1) (X k).2.2 (pN t n (X k).2.1)).1 ≤ n ∧ ((sStS t n (sct t n (X k).2.1.1) (X k).2.2 (pN t n (X k).2.1)).2.1 = 0 → (sStS t n (sct t n (X k).2.1.1) (X k).2.2 (pN t n (X k).2.1)).2.2 = -1))
                          have nst : stp t n (X k) ((sct t n (X k).2.1.1), sStS t n (sct t n (X k).2.1.1) (X k).2.2 (pN t n (X k).2.1), bk τ101 4) := ⟨hs0, hsk, Or.inr (Or.inr ⟨hwt.mpr h63, fun q => h80 (hful.mp q), rfl, rfl, lEq_tr (pEq_l eB) hr101.2.2.2.2.2⟩)⟩
                          refine zy_iinc (b := ((k + 1 : Nat) : Int)) [zf 4 3, zf 6 1, zi (sct t n (X k).2.1.1), zi ((k + 1 : Nat) : Int), zi (sct t n (X k).2.1.1), zi (if τ.1 5 0 = 0 then 0 else 5)] dX4_fillFrom_104 rfl (by omega) (Nat.le_of_ble_eq_true rfl) rfl rfl ?_
                          refine zx_goto (tgt := 15) dX4_fillFrom_107 (by decide) ?_
                          refine zy_drop 4 [zf 4 3, zf 6 1, zi (sct t n (X k).2.1.1), zi ((k + 1 : Nat) : Int), zu, zi (if τ.1 5 0 = 0 then 0 else 5)] rfl ?_
                          refine zy_drop 5 [zf 4 3, zf 6 1, zi (sct t n (X k).2.1.1), zi ((k + 1 : Nat) : Int), zu, zu] rfl ?_
                          exact ih15 τ101 (xUp X k ((sct t n (X k).2.1.1), sStS t n (sct t n (X k).2.1.1) (X k).2.2 (pN t n (X k).2.1), bk τ101 4)) (sct t n (X k).2.1.1) (k + 1) hz101 (by first | exact n1) (by rw [xUp_n]; exact ⟨cTr_up h2.1 nst nwf, rfl, rfl⟩) (by rw [xUp_n]; exact npc) nbb (by omega) (by first | assumption | omega) (by omega)
                        · refine zy_cvvR [zf 6 1, zi (sct t n (X k).2.1.1)] (sX4_takeStatement_5 (S := (pN t n (X k).2.1)) hfl hz95 hWn hb95 hr95.2.2 (by omega) (fun q => h80 (hfe.mp q))) dX4_fillFrom_101 (by decide) rfl cw_RX4_59 okX4_takeStatement rfl (Nat.le_of_ble_eq_true rfl) ⟨Nat.le_of_ble_eq_true rfl, Nat.le_of_ble_eq_true rfl, Nat.le_of_ble_eq_true rfl, Nat.le_of_ble_eq_true rfl⟩ (fun τ101 hr101 => ?_)
                          have hz101 : zOK τ101 := hr101.1
                          have ebk : ∀ o, o ≤ 19 → ∀ i, bk τ95 4 o i = (X k).2.2 o i := fun o ho i => by rw [h2.2.2]; exact npe o ho i
                          have n1 : zSame (fun q => q = 1 ∨ (4 ≤ q ∧ q ≤ 23)) σ τ101 := zSame_tr (zSame_tr h1 hr95.2.1 (fun q hq => by first | omega | (dsimp only at hq ⊢; omega))) hr101.2.1 (fun q hq => by first | omega | (dsimp only at hq ⊢; omega))
                          have eS := sStS_p (t := t) (n := n) (k := (sct t n (X k).2.1.1)) (S := pN t n (X k).2.1) ebk
                          have eB := sBk_p (t := t) (n := n) (k := (sct t n (X k).2.1.1)) (S := pN t n (X k).2.1) ebk
                          have npc : PC t n (sStS t n (sct t n (X k).2.1.1) (X k).2.2 (pN t n (X k).2.1)) τ101 := by rw [← eS]; exact hr101.2.2.1
                          have nbb : bbK τ101 4 := hr101.2.2.2.2.1
                          have nwf := (⟨hr101.2.2.2.1, npc.2.2.1, fun q => (npc.2.2.2.2.1 q).1⟩ : WF (bk τ101 4) ∧ (sStS t n (sct t n (X k).2.1.1) (X k).2.2 (pN t n (X k).2.1)).1 ≤ n ∧ ((sStS t n (sct t n (X k).2.1.1) (X k).2.2 (pN t n (X k).2.1)).2.1 = 0 → (sStS t n (sct t n (X k).2.1.1) (X k).2.2 (pN t n (X k).2.1)).2.2 = -1))
                          have nst : stp t n (X k) ((sct t n (X k).2.1.1), sStS t n (sct t n (X k).2.1.1) (X k).2.2 (pN t n (X k).2.1), bk τ101 4) := ⟨hs0, hsk, Or.inr (Or.inr ⟨hwt.mpr h63, fun q => h80 (hful.mp q), rfl, rfl, lEq_tr (pEq_l eB) hr101.2.2.2.2.2⟩)⟩
                          refine zy_iinc (b := ((k + 1 : Nat) : Int)) [zf 4 3, zf 6 1, zi (sct t n (X k).2.1.1), zi ((k + 1 : Nat) : Int), zi (sct t n (X k).2.1.1), zi (if τ.1 5 0 = 0 then 0 else 5)] dX4_fillFrom_104 rfl (by omega) (Nat.le_of_ble_eq_true rfl) rfl rfl ?_
                          refine zx_goto (tgt := 15) dX4_fillFrom_107 (by decide) ?_
                          refine zy_drop 4 [zf 4 3, zf 6 1, zi (sct t n (X k).2.1.1), zi ((k + 1 : Nat) : Int), zu, zi (if τ.1 5 0 = 0 then 0 else 5)] rfl ?_
                          refine zy_drop 5 [zf 4 3, zf 6 1, zi (sct t n (X k).2.1.1), zi ((k + 1 : Nat) : Int), zu, zu] rfl ?_
                          exact ih15 τ101 (xUp X k ((sct t n (X k).2.1.1), sStS t n (sct t n (X k).2.1.1) (X k).2.2 (pN t n (X k).2.1), bk τ101 4)) (sct t n (X k).2.1.1) (k + 1) hz101 (by first | exact n1) (by rw [xUp_n]; exact ⟨cTr_up h2.1 nst nwf, rfl, rfl⟩) (by rw [xUp_n]; exact npc) nbb (by omega) (by first | assumption | omega) (by omega)
              · have h80 := zb_n.mp h80
                refine zx_aloadN dX4_fillFrom_83 rfl rfl ?_
                refine zx_iconst dX4_fillFrom_84 ?_
                refine zy_cvvR [zi 4] (sX6_fail (S := (X k).2.1) hfl hz (by omega) h3) dX4_fillFrom_85 (by decide) rfl cw_RX4_48 okX6_fail rfl (Nat.le_of_ble_eq_true rfl) ⟨Nat.le_of_ble_eq_true rfl, Nat.le_of_ble_eq_true rfl, Nat.le_of_ble_eq_true rfl, Nat.le_of_ble_eq_true rfl⟩ (fun τ85 hr85 => ?_)
                have hz85 : zOK τ85 := hr85.1
                have npe : pEq (bk τ 4) (bk τ85 4) := bk_same hr85.2.1
                have n1 : zSame (fun q => q = 1 ∨ (4 ≤ q ∧ q ≤ 23)) σ τ85 := zSame_tr h1 hr85.2.1 (fun q hq => by first | omega | (dsimp only at hq ⊢; omega))
                have npc : PC t n (pF t n (X k).2.1 4) τ85 := hr85.2.2
                have nbb : bbK τ85 4 := bb_pt (fun o ho i => npe o ho i) h4
                have nwf := (⟨WF_eq (pEq_z npe) hWk, npc.2.2.1, fun q => (npc.2.2.2.2.1 q).1⟩ : WF (bk τ85 4) ∧ (pF t n (X k).2.1 4).1 ≤ n ∧ ((pF t n (X k).2.1 4).2.1 = 0 → (pF t n (X k).2.1 4).2.2 = -1))
                have nst : stp t n (X k) (sec, pF t n (X k).2.1 4, bk τ85 4) := ⟨hs0, hsk, Or.inr (Or.inl ⟨hwt.mpr h63, hful.mpr h80, h2.2.1.symm, rfl, by rw [h2.2.2]; exact pEq_l npe⟩)⟩
                refine zx_goto (tgt := 104) dX4_fillFrom_88 (by decide) ?_
                refine zy_iinc (b := ((k + 1 : Nat) : Int)) [zf 4 3, zf 6 1, zi sec, zi ((k + 1 : Nat) : Int), zi (sct t n (X k).2.1.1), zi (if τ.1 5 0 = 0 then 0 else 5)] dX4_fillFrom_104 rfl (by omega) (Nat.le_of_ble_eq_true rfl) rfl rfl ?_
                refine zx_goto (tgt := 15) dX4_fillFrom_107 (by decide) ?_
                refine zy_drop 4 [zf 4 3, zf 6 1, zi sec, zi ((k + 1 : Nat) : Int), zu, zi (if τ.1 5 0 = 0 then 0 else 5)] rfl ?_
                refine zy_drop 5 [zf 4 3, zf 6 1, zi sec, zi ((k + 1 : Nat) : Int), zu, zu] rfl ?_
                exact ih15 τ85 (xUp X k (sec, pF t n (X k).2.1 4, bk τ85 4)) sec (k + 1) hz85 (by first | exact n1) (by rw [xUp_n]; exact ⟨cTr_up h2.1 nst nwf, rfl, rfl⟩) (by rw [xUp_n]; exact npc) nbb (by omega) (by first | assumption | omega) (by omega)
            · have h63 := zb_0.mp h63
              refine zx_aloadN dX4_fillFrom_66 rfl rfl ?_
              refine zx_iconst dX4_fillFrom_67 ?_
              refine zy_cvvR [zi 1] (sX6_fail (S := (X k).2.1) hfl hz (by omega) h3) dX4_fillFrom_68 (by decide) rfl cw_RX4_48 okX6_fail rfl (Nat.le_of_ble_eq_true rfl) ⟨Nat.le_of_ble_eq_true rfl, Nat.le_of_ble_eq_true rfl, Nat.le_of_ble_eq_true rfl, Nat.le_of_ble_eq_true rfl⟩ (fun τ68 hr68 => ?_)
              have hz68 : zOK τ68 := hr68.1
              have npe : pEq (bk τ 4) (bk τ68 4) := bk_same hr68.2.1
              have n1 : zSame (fun q => q = 1 ∨ (4 ≤ q ∧ q ≤ 23)) σ τ68 := zSame_tr h1 hr68.2.1 (fun q hq => by first | omega | (dsimp only at hq ⊢; omega))
              have npc : PC t n (pF t n (X k).2.1 1) τ68 := hr68.2.2
              have nbb : bbK τ68 4 := bb_pt (fun o ho i => npe o ho i) h4
              have nwf := (⟨WF_eq (pEq_z npe) hWk, npc.2.2.1, fun q => (npc.2.2.2.2.1 q).1⟩ : WF (bk τ68 4) ∧ (pF t n (X k).2.1 1).1 ≤ n ∧ ((pF t n (X k).2.1 1).2.1 = 0 → (pF t n (X k).2.1 1).2.2 = -1))
              have nst : stp t n (X k) (sec, pF t n (X k).2.1 1, bk τ68 4) := ⟨hs0, hsk, Or.inl ⟨fun q => h63 (hwt.mp q), h2.2.1.symm, rfl, by rw [h2.2.2]; exact pEq_l npe⟩⟩
              refine zx_goto (tgt := 104) dX4_fillFrom_71 (by decide) ?_
              refine zy_iinc (b := ((k + 1 : Nat) : Int)) [zf 4 3, zf 6 1, zi sec, zi ((k + 1 : Nat) : Int), zi (sct t n (X k).2.1.1), zi (if τ.1 5 0 = 0 then 0 else 5)] dX4_fillFrom_104 rfl (by omega) (Nat.le_of_ble_eq_true rfl) rfl rfl ?_
              refine zx_goto (tgt := 15) dX4_fillFrom_107 (by decide) ?_
              refine zy_drop 4 [zf 4 3, zf 6 1, zi sec, zi ((k + 1 : Nat) : Int), zu, zi (if τ.1 5 0 = 0 then 0 else 5)] rfl ?_
              refine zy_drop 5 [zf 4 3, zf 6 1, zi sec, zi ((k + 1 : Nat) : Int), zu, zu] rfl ?_
              exact ih15 τ68 (xUp X k (sec, pF t n (X k).2.1 1, bk τ68 4)) sec (k + 1) hz68 (by first | exact n1) (by rw [xUp_n]; exact ⟨cTr_up h2.1 nst nwf, rfl, rfl⟩) (by rw [xUp_n]; exact npc) nbb (by omega) (by first | assumption | omega) (by omega)
          · refine zx_iconst dX4_fillFrom_48 ?_
            refine zx_goto (tgt := 53) dX4_fillFrom_49 (by decide) ?_
            refine zy_top (b := if τ.1 5 0 = 0 then 0 else 5) (by first | exact (if_pos (by assumption)).symm | exact (if_neg (by assumption)).symm) ?_
            have hzl : zr (if τ.1 5 0 = 0 then 0 else 5) := by split <;> (unfold zr; omega)
            refine zy_istore [zf 4 3, zf 6 1, zi sec, zi ((k : Nat) : Int), zi (sct t n (X k).2.1.1), zi (if τ.1 5 0 = 0 then 0 else 5)] dX4_fillFrom_53 (Nat.le_of_ble_eq_true rfl) (Nat.le_of_ble_eq_true rfl) rfl rfl ?_
            refine zx_iload dX4_fillFrom_55 rfl ?_
            refine zx_iloadN dX4_fillFrom_57 rfl rfl ?_
            refine zx_iload dX4_fillFrom_58 rfl ?_
            refine zy_cn [zi (sct t n (X k).2.1.1), zi sec, zi (if τ.1 5 0 = 0 then 0 else 5)] (sX9_isWithin  hfl hz (by first | exact hz _ _ | assumption | exact zr_b _ | exact zcmp_r _ _ | (unfold zr at *; omega)) (by first | exact hz _ _ | assumption | exact zr_b _ | exact zcmp_r _ _ | (unfold zr at *; omega)) (by first | exact hz _ _ | assumption | exact zr_b _ | exact zcmp_r _ _ | (unfold zr at *; omega))) dX4_fillFrom_60 cw_RX4_44 okX9_isWithin rfl (Nat.le_of_ble_eq_true rfl) ⟨Nat.le_of_ble_eq_true rfl, Nat.le_of_ble_eq_true rfl, Nat.le_of_ble_eq_true rfl, Nat.le_of_ble_eq_true rfl⟩ ?_
            refine zx_if_ne (tgt := 74) (by first | exact hz _ _ | assumption | exact zr_b _ | exact zcmp_r _ _ | (unfold zr at *; omega)) dX4_fillFrom_63 (by decide) (fun h63 => ?_) (fun h63 => ?_)
            · have h63 := zb_n.mp h63
              refine zx_aloadN dX4_fillFrom_74 rfl rfl ?_
              refine zx_iload dX4_fillFrom_75 rfl ?_
              refine zy_cv [zi (sct t n (X k).2.1.1)] (sX4_isFull  hfl hz hWk (by omega)) dX4_fillFrom_77 (by decide) rfl cw_RX4_52 okX4_isFull rfl (Nat.le_of_ble_eq_true rfl) ⟨Nat.le_of_ble_eq_true rfl, Nat.le_of_ble_eq_true rfl, Nat.le_of_ble_eq_true rfl, Nat.le_of_ble_eq_true rfl⟩ ?_
              refine zx_if_eq (tgt := 91) (by first | exact hz _ _ | assumption | exact zr_b _ | exact zcmp_r _ _ | (unfold zr at *; omega)) dX4_fillFrom_80 (by decide) (fun h80 => ?_) (fun h80 => ?_)
              · have h80 := zb_0.mp h80
                refine zx_iload dX4_fillFrom_91 rfl ?_
                refine zy_istoreN [zf 4 3, zf 6 1, zi (sct t n (X k).2.1.1), zi ((k : Nat) : Int), zi (sct t n (X k).2.1.1), zi (if τ.1 5 0 = 0 then 0 else 5)] dX4_fillFrom_93 rfl (Nat.le_of_ble_eq_true rfl) (Nat.le_of_ble_eq_true rfl) rfl rfl ?_
                refine zx_aloadN dX4_fillFrom_94 rfl rfl ?_
                refine zy_cvvR [] (sX6_takeToken (S := (X k).2.1) hfl hz h3 hs0) dX4_fillFrom_95 (by decide) rfl cw_RX4_56 okX6_takeToken rfl (Nat.le_of_ble_eq_true rfl) ⟨Nat.le_of_ble_eq_true rfl, Nat.le_of_ble_eq_true rfl, Nat.le_of_ble_eq_true rfl, Nat.le_of_ble_eq_true rfl⟩ (fun τ95 hr95 => ?_)
                have hz95 : zOK τ95 := hr95.1
                have npe : pEq (bk τ 4) (bk τ95 4) := bk_same hr95.2.1
                have hWn := WF_eq (pEq_z npe) hWk
                have hb95 : bbK τ95 4 := bb_pt (fun o ho i => npe o ho i) h4
                have hfe : ful (bk τ95 4) (sct t n (X k).2.1.1) ↔ ful (bk τ 4) (sct t n (X k).2.1.1) := by unfold ful; rw [npe 1 (by omega), npe 1 (by omega), npe 1 (by omega), npe 12 (by omega)]
                refine zx_aloadN dX4_fillFrom_98 rfl rfl ?_
                refine zx_aloadN dX4_fillFrom_99 rfl rfl ?_
                refine zx_iloadN dX4_fillFrom_100 rfl rfl ?_
                by_cases hb101 : (sct t n (X k).2.1.1) = 0
                · refine zy_cvvR [zf 6 1, zi (sct t n (X k).2.1.1)] (sX4_takeStatement_0 (S := (pN t n (X k).2.1)) hfl hz95 hWn hb95 hr95.2.2 (by omega) (fun q => h80 (hfe.mp q))) dX4_fillFrom_101 (by decide) rfl cw_RX4_59 okX4_takeStatement rfl (Nat.le_of_ble_eq_true rfl) ⟨Nat.le_of_ble_eq_true rfl, Nat.le_of_ble_eq_true rfl, Nat.le_of_ble_eq_true rfl, Nat.le_of_ble_eq_true rfl⟩ (fun τ101 hr101 => ?_)
                  have hz101 : zOK τ101 := hr101.1
                  have ebk : ∀ o, o ≤ 19 → ∀ i, bk τ95 4 o i = (X k).2.2 o i := fun o ho i => by rw [h2.2.2]; exact npe o ho i
                  have n1 : zSame (fun q => q = 1 ∨ (4 ≤ q ∧ q ≤ 23)) σ τ101 := zSame_tr (zSame_tr h1 hr95.2.1 (fun q hq => by first | omega | (dsimp only at hq ⊢; omega))) hr101.2.1 (fun q hq => by first | omega | (dsimp only at hq ⊢; omega))
                  have eS := sStS_p (t := t) (n := n) (k := (sct t n (X k).2.1.1)) (S := pN t n (X k).2.1) ebk
                  have eB := sBk_p (t := t) (n := n) (k := (sct t n (X k).2.1.1)) (S := pN t n (X k).2.1) ebk
                  have npc : PC t n (sStS t n (sct t n (X k).2.1.1) (X k).2.2 (pN t n (X k).2.1)) τ101 := by rw [← eS]; exact hr101.2.2.1
                  have nbb : bbK τ101 4 := hr101.2.2.2.2.1
                  have nwf := (⟨hr101.2.2.2.1, npc.2.2.1, fun q => (npc.2.2.2.2.1 q).1⟩ : WF (bk τ101 4) ∧ (sStS t n (sct t n (X k).2.1.1) (X k).2.2 (pN t n (X k).2.1)).1 ≤ n ∧ ((sStS t n (sct t n (X k).2.1.1) (X k).2.2 (pN t n (X k).2.1)).2.1 = 0 → (sStS t n (sct t n (X k).2.1.1) (X k).2.2 (pN t n (X k).2.1)).2.2 = -1))
                  have nst : stp t n (X k) ((sct t n (X k).2.1.1), sStS t n (sct t n (X k).2.1.1) (X k).2.2 (pN t n (X k).2.1), bk τ101 4) := ⟨hs0, hsk, Or.inr (Or.inr ⟨hwt.mpr h63, fun q => h80 (hful.mp q), rfl, rfl, lEq_tr (pEq_l eB) hr101.2.2.2.2.2⟩)⟩
                  refine zy_iinc (b := ((k + 1 : Nat) : Int)) [zf 4 3, zf 6 1, zi (sct t n (X k).2.1.1), zi ((k + 1 : Nat) : Int), zi (sct t n (X k).2.1.1), zi (if τ.1 5 0 = 0 then 0 else 5)] dX4_fillFrom_104 rfl (by omega) (Nat.le_of_ble_eq_true rfl) rfl rfl ?_
                  refine zx_goto (tgt := 15) dX4_fillFrom_107 (by decide) ?_
                  refine zy_drop 4 [zf 4 3, zf 6 1, zi (sct t n (X k).2.1.1), zi ((k + 1 : Nat) : Int), zu, zi (if τ.1 5 0 = 0 then 0 else 5)] rfl ?_
                  refine zy_drop 5 [zf 4 3, zf 6 1, zi (sct t n (X k).2.1.1), zi ((k + 1 : Nat) : Int), zu, zu] rfl ?_
                  exact ih15 τ101 (xUp X k ((sct t n (X k).2.1.1), sStS t n (sct t n (X k).2.1.1) (X k).2.2 (pN t n (X k).2.1), bk τ101 4)) (sct t n (X k).2.1.1) (k + 1) hz101 (by first | exact n1) (by rw [xUp_n]; exact ⟨cTr_up h2.1 nst nwf, rfl, rfl⟩) (by rw [xUp_n]; exact npc) nbb (by omega) (by first | assumption | omega) (by omega)
                · by_cases hb101b : (sct t n (X k).2.1.1) = 1
                  · refine zy_cvvR [zf 6 1, zi (sct t n (X k).2.1.1)] (sX4_takeStatement_1 (S := (pN t n (X k).2.1)) hfl hz95 hWn hb95 hr95.2.2 (by omega) (fun q => h80 (hfe.mp q))) dX4_fillFrom_101 (by decide) rfl cw_RX4_59 okX4_takeStatement rfl (Nat.le_of_ble_eq_true rfl) ⟨Nat.le_of_ble_eq_true rfl, Nat.le_of_ble_eq_true rfl, Nat.le_of_ble_eq_true rfl, Nat.le_of_ble_eq_true rfl⟩ (fun τ101 hr101 => ?_)
                    have hz101 : zOK τ101 := hr101.1
                    have ebk : ∀ o, o ≤ 19 → ∀ i, bk τ95 4 o i = (X k).2.2 o i := fun o ho i => by rw [h2.2.2]; exact npe o ho i
                    have n1 : zSame (fun q => q = 1 ∨ (4 ≤ q ∧ q ≤ 23)) σ τ101 := zSame_tr (zSame_tr h1 hr95.2.1 (fun q hq => by first | omega | (dsimp only at hq ⊢; omega))) hr101.2.1 (fun q hq => by first | omega | (dsimp only at hq ⊢; omega))
                    have eS := sStS_p (t := t) (n := n) (k := (sct t n (X k).2.1.1)) (S := pN t n (X k).2.1) ebk
                    have eB := sBk_p (t := t) (n := n) (k := (sct t n (X k).2.1.1)) (S := pN t n (X k).2.1) ebk
                    have npc : PC t n (sStS t n (sct t n (X k).2.1.1) (X k).2.2 (pN t n (X k).2.1)) τ101 := by rw [← eS]; exact hr101.2.2.1
                    have nbb : bbK τ101 4 := hr101.2.2.2.2.1
                    have nwf := (⟨hr101.2.2.2.1, npc.2.2.1, fun q => (npc.2.2.2.2.1 q).1⟩ : WF (bk τ101 4) ∧ (sStS t n (sct t n (X k).2.1.1) (X k).2.2 (pN t n (X k).2.1)).1 ≤ n ∧ ((sStS t n (sct t n (X k).2.1.1) (X k).2.2 (pN t n (X k).2.1)).2.1 = 0 → (sStS t n (sct t n (X k).2.1.1) (X k).2.2 (pN t n (X k).2.1)).2.2 = -1))
                    have nst : stp t n (X k) ((sct t n (X k).2.1.1), sStS t n (sct t n (X k).2.1.1) (X k).2.2 (pN t n (X k).2.1), bk τ101 4) := ⟨hs0, hsk, Or.inr (Or.inr ⟨hwt.mpr h63, fun q => h80 (hful.mp q), rfl, rfl, lEq_tr (pEq_l eB) hr101.2.2.2.2.2⟩)⟩
                    refine zy_iinc (b := ((k + 1 : Nat) : Int)) [zf 4 3, zf 6 1, zi (sct t n (X k).2.1.1), zi ((k + 1 : Nat) : Int), zi (sct t n (X k).2.1.1), zi (if τ.1 5 0 = 0 then 0 else 5)] dX4_fillFrom_104 rfl (by omega) (Nat.le_of_ble_eq_true rfl) rfl rfl ?_
                    refine zx_goto (tgt := 15) dX4_fillFrom_107 (by decide) ?_
                    refine zy_drop 4 [zf 4 3, zf 6 1, zi (sct t n (X k).2.1.1), zi ((k + 1 : Nat) : Int), zu, zi (if τ.1 5 0 = 0 then 0 else 5)] rfl ?_
                    refine zy_drop 5 [zf 4 3, zf 6 1, zi (sct t n (X k).2.1.1), zi ((k + 1 : Nat) : Int), zu, zu] rfl ?_
                    exact ih15 τ101 (xUp X k ((sct t n (X k).2.1.1), sStS t n (sct t n (X k).2.1.1) (X k).2.2 (pN t n (X k).2.1), bk τ101 4)) (sct t n (X k).2.1.1) (k + 1) hz101 (by first | exact n1) (by rw [xUp_n]; exact ⟨cTr_up h2.1 nst nwf, rfl, rfl⟩) (by rw [xUp_n]; exact npc) nbb (by omega) (by first | assumption | omega) (by omega)
                  · by_cases hb101bb : (sct t n (X k).2.1.1) = 2
                    · refine zy_cvvR [zf 6 1, zi (sct t n (X k).2.1.1)] (sX4_takeStatement_2 (S := (pN t n (X k).2.1)) hfl hz95 hWn hb95 hr95.2.2 (by omega) (fun q => h80 (hfe.mp q))) dX4_fillFrom_101 (by decide) rfl cw_RX4_59 okX4_takeStatement rfl (Nat.le_of_ble_eq_true rfl) ⟨Nat.le_of_ble_eq_true rfl, Nat.le_of_ble_eq_true rfl, Nat.le_of_ble_eq_true rfl, Nat.le_of_ble_eq_true rfl⟩ (fun τ101 hr101 => ?_)
                      have hz101 : zOK τ101 := hr101.1
                      have ebk : ∀ o, o ≤ 19 → ∀ i, bk τ95 4 o i = (X k).2.2 o i := fun o ho i => by rw [h2.2.2]; exact npe o ho i
                      have n1 : zSame (fun q => q = 1 ∨ (4 ≤ q ∧ q ≤ 23)) σ τ101 := zSame_tr (zSame_tr h1 hr95.2.1 (fun q hq => by first | omega | (dsimp only at hq ⊢; omega))) hr101.2.1 (fun q hq => by first | omega | (dsimp only at hq ⊢; omega))
                      have eS := sStS_p (t := t) (n := n) (k := (sct t n (X k).2.1.1)) (S := pN t n (X k).2.1) ebk
                      have eB := sBk_p (t := t) (n := n) (k := (sct t n (X k).2.1.1)) (S := pN t n (X k).2.1) ebk
                      have npc : PC t n (sStS t n (sct t n (X k).2.1.1) (X k).2.2 (pN t n (X k).2.1)) τ101 := by rw [← eS]; exact hr101.2.2.1
                      have nbb : bbK τ101 4 := hr101.2.2.2.2.1
                      have nwf := (⟨hr101.2.2.2.1, npc.2.2.1, fun q => (npc.2.2.2.2.1 q).1⟩ : WF (bk τ101 4) ∧ (sStS t n (sct t n (X k).2.1.1) (X k).2.2 (pN t n (X k).2.1)).1 ≤ n ∧ ((sStS t n (sct t n (X k).2.1.1) (X k).2.2 (pN t n (X k).2.1)).2.1 = 0 → (sStS t n (sct t n (X k).2.1.1) (X k).2.2 (pN t n (X k).2.1)).2.2 = -1))
                      have nst : stp t n (X k) ((sct t n (X k).2.1.1), sStS t n (sct t n (X k).2.1.1) (X k).2.2 (pN t n (X k).2.1), bk τ101 4) := ⟨hs0, hsk, Or.inr (Or.inr ⟨hwt.mpr h63, fun q => h80 (hful.mp q), rfl, rfl, lEq_tr (pEq_l eB) hr101.2.2.2.2.2⟩)⟩
                      refine zy_iinc (b := ((k + 1 : Nat) : Int)) [zf 4 3, zf 6 1, zi (sct t n (X k).2.1.1), zi ((k + 1 : Nat) : Int), zi (sct t n (X k).2.1.1), zi (if τ.1 5 0 = 0 then 0 else 5)] dX4_fillFrom_104 rfl (by omega) (Nat.le_of_ble_eq_true rfl) rfl rfl ?_
                      refine zx_goto (tgt := 15) dX4_fillFrom_107 (by decide) ?_
                      refine zy_drop 4 [zf 4 3, zf 6 1, zi (sct t n (X k).2.1.1), zi ((k + 1 : Nat) : Int), zu, zi (if τ.1 5 0 = 0 then 0 else 5)] rfl ?_
                      refine zy_drop 5 [zf 4 3, zf 6 1, zi (sct t n (X k).2.1.1), zi ((k + 1 : Nat) : Int), zu, zu] rfl ?_
                      exact ih15 τ101 (xUp X k ((sct t n (X k).2.1.1), sStS t n (sct t n (X k).2.1.1) (X k).2.2 (pN t n (X k).2.1), bk τ101 4)) (sct t n (X k).2.1.1) (k + 1) hz101 (by first | exact n1) (by rw [xUp_n]; exact ⟨cTr_up h2.1 nst nwf, rfl, rfl⟩) (by rw [xUp_n]; exact npc) nbb (by omega) (by first | assumption | omega) (by omega)
                    · by_cases hb101bbb : (sct t n (X k).2.1.1) = 3
                      · refine zy_cvvR [zf 6 1, zi (sct t n (X k).2.1.1)] (sX4_takeStatement_3 (S := (pN t n (X k).2.1)) hfl hz95 hWn hb95 hr95.2.2 (by omega) (fun q => h80 (hfe.mp q))) dX4_fillFrom_101 (by decide) rfl cw_RX4_59 okX4_takeStatement rfl (Nat.le_of_ble_eq_true rfl) ⟨Nat.le_of_ble_eq_true rfl, Nat.le_of_ble_eq_true rfl, Nat.le_of_ble_eq_true rfl, Nat.le_of_ble_eq_true rfl⟩ (fun τ101 hr101 => ?_)
                        have hz101 : zOK τ101 := hr101.1
                        have ebk : ∀ o, o ≤ 19 → ∀ i, bk τ95 4 o i = (X k).2.2 o i := fun o ho i => by rw [h2.2.2]; exact npe o ho i
                        have n1 : zSame (fun q => q = 1 ∨ (4 ≤ q ∧ q ≤ 23)) σ τ101 := zSame_tr (zSame_tr h1 hr95.2.1 (fun q hq => by first | omega | (dsimp only at hq ⊢; omega))) hr101.2.1 (fun q hq => by first | omega | (dsimp only at hq ⊢; omega))
                        have eS := sStS_p (t := t) (n := n) (k := (sct t n (X k).2.1.1)) (S := pN t n (X k).2.1) ebk
                        have eB := sBk_p (t := t) (n := n) (k := (sct t n (X k).2.1.1)) (S := pN t n (X k).2.1) ebk
                        have npc : PC t n (sStS t n (sct t n (X k).2.1.1) (X k).2.2 (pN t n (X k).2.1)) τ101 := by rw [← eS]; exact hr101.2.2.1
                        have nbb : bbK τ101 4 := hr101.2.2.2.2.1
                        have nwf := (⟨hr101.2.2.2.1, npc.2.2.1, fun q => (npc.2.2.2.2.1 q).1⟩ : WF (bk τ101 4) ∧ (sStS t n (sct t n (X k).2.1.1) (X k).2.2 (pN t n (X k).2.1)).1 ≤ n ∧ ((sStS t n (sct t n (X k).2.1.1) (X k).2.2 (pN t n (X k).2.1)).2.1 = 0 → (sStS t n (sct t n (X k).2.1.1) (X k).2.2 (pN t n (X k).2.1)).2.2 = -1))
                        have nst : stp t n (X k) ((sct t n (X k).2.1.1), sStS t n (sct t n (X k).2.1.1) (X k).2.2 (pN t n (X k).2.1), bk τ101 4) := ⟨hs0, hsk, Or.inr (Or.inr ⟨hwt.mpr h63, fun q => h80 (hful.mp q), rfl, rfl, lEq_tr (pEq_l eB) hr101.2.2.2.2.2⟩)⟩
                        refine zy_iinc (b := ((k + 1 : Nat) : Int)) [zf 4 3, zf 6 1, zi (sct t n (X k).2.1.1), zi ((k + 1 : Nat) : Int), zi (sct t n (X k).2.1.1), zi (if τ.1 5 0 = 0 then 0 else 5)] dX4_fillFrom_104 rfl (by omega) (Nat.le_of_ble_eq_true rfl) rfl rfl ?_
                        refine zx_goto (tgt := 15) dX4_fillFrom_107 (by decide) ?_
                        refine zy_drop 4 [zf 4 3, zf 6 1, zi (sct t n (X k).2.1.1), zi ((k + 1 : Nat) : Int), zu, zi (if τ.1 5 0 = 0 then 0 else 5)] rfl ?_
                        refine zy_drop 5 [zf 4 3, zf 6 1, zi (sct t n (X k).2.1.1), zi ((k + 1 : Nat) : Int), zu, zu] rfl ?_
                        exact ih15 τ101 (xUp X k ((sct t n (X k).2.1.1), sStS t n (sct t n (X k).2.1.1) (X k).2.2 (pN t n (X k).2.1), bk τ101 4)) (sct t n (X k).2.1.1) (k + 1) hz101 (by first | exact n1) (by rw [xUp_n]; exact ⟨cTr_up h2.1 nst nwf, rfl, rfl⟩) (by rw [xUp_n]; exact npc) nbb (by omega) (by first | assumption | omega) (by omega)
                      · by_cases hb101bbbb : (sct t n (X k).2.1.1) = 4
                        · refine zy_cvvR [zf 6 1, zi (sct t n (X k).2.1.1)] (sX4_takeStatement_4 (S := (pN t n (X k).2.1)) hfl hz95 hWn hb95 hr95.2.2 (by omega) (fun q => h80 (hfe.mp q))) dX4_fillFrom_101 (by decide) rfl cw_RX4_59 okX4_takeStatement rfl (Nat.le_of_ble_eq_true rfl) ⟨Nat.le_of_ble_eq_true rfl, Nat.le_of_ble_eq_true rfl, Nat.le_of_ble_eq_true rfl, Nat.le_of_ble_eq_true rfl⟩ (fun τ101 hr101 => ?_)
                          have hz101 : zOK τ101 := hr101.1
                          have ebk : ∀ o, o ≤ 19 → ∀ i, bk τ95 4 o i = (X k).2.2 o i := fun o ho i => by rw [h2.2.2]; exact npe o ho i
                          have n1 : zSame (fun q => q = 1 ∨ (4 ≤ q ∧ q ≤ 23)) σ τ101 := zSame_tr (zSame_tr h1 hr95.2.1 (fun q hq => by first | omega | (dsimp only at hq ⊢; omega))) hr101.2.1 (fun q hq => by first | omega | (dsimp only at hq ⊢; omega))
                          have eS := sStS_p (t := t) (n := n) (k := (sct t n (X k).2.1.1)) (S := pN t n (X k).2.1) ebk
                          have eB := sBk_p (t := t) (n := n) (k := (sct t n (X k).2.1.1)) (S := pN t n (X k).2.1) ebk
                          have npc : PC t n (sStS t n (sct t n (X k).2.1.1) (X k).2.2 (pN t n (X k).2.1)) τ101 := by rw [← eS]; exact hr101.2.2.1
                          have nbb : bbK τ101 4 := hr101.2.2.2.2.1
                          have nwf := (⟨hr101.2.2.2.1, npc.2.2.1, fun q => (npc.2.2.2.2.1 q).1⟩ : WF (bk τ101 4) ∧ (sStS t n (sct t n (X k).2.1.1) (X k).2.2 (pN t n (X k).2.1)).1 ≤ n ∧ ((sStS t n (sct t n (X k).2.1.1) (X k).2.2 (pN t n (X k).2.1)).2.1 = 0 → (sStS t n (sct t n (X k).2.1.1) (X k).2.2 (pN t n (X k).2.1)).2.2 = -1))
                          have nst : stp t n (X k) ((sct t n (X k).2.1.1), sStS t n (sct t n (X k).2.1.1) (X k).2.2 (pN t n (X k).2.1), bk τ101 4) := ⟨hs0, hsk, Or.inr (Or.inr ⟨hwt.mpr h63, fun q => h80 (hful.mp q), rfl, rfl, lEq_tr (pEq_l eB) hr101.2.2.2.2.2⟩)⟩
                          refine zy_iinc (b := ((k + 1 : Nat) : Int)) [zf 4 3, zf 6 1, zi (sct t n (X k).2.1.1), zi ((k + 1 : Nat) : Int), zi (sct t n (X k).2.1.1), zi (if τ.1 5 0 = 0 then 0 else 5)] dX4_fillFrom_104 rfl (by omega) (Nat.le_of_ble_eq_true rfl) rfl rfl ?_
                          refine zx_goto (tgt := 15) dX4_fillFrom_107 (by decide) ?_
                          refine zy_drop 4 [zf 4 3, zf 6 1, zi (sct t n (X k).2.1.1), zi ((k + 1 : Nat) : Int), zu, zi (if τ.1 5 0 = 0 then 0 else 5)] rfl ?_
                          refine zy_drop 5 [zf 4 3, zf 6 1, zi (sct t n (X k).2.1.1), zi ((k + 1 : Nat) : Int), zu, zu] rfl ?_
                          exact ih15 τ101 (xUp X k ((sct t n (X k).2.1.1), sStS t n (sct t n (X k).2.1.1) (X k).2.2 (pN t n (X k).2.1), bk τ101 4)) (sct t n (X k).2.1.1) (k + 1) hz101 (by first | exact n1) (by rw [xUp_n]; exact ⟨cTr_up h2.1 nst nwf, rfl, rfl⟩) (by rw [xUp_n]; exact npc) nbb (by omega) (by first | assumption | omega) (by omega)
                        · refine zy_cvvR [zf 6 1, zi (sct t n (X k).2.1.1)] (sX4_takeStatement_5 (S := (pN t n (X k).2.1)) hfl hz95 hWn hb95 hr95.2.2 (by omega) (fun q => h80 (hfe.mp q))) dX4_fillFrom_101 (by decide) rfl cw_RX4_59 okX4_takeStatement rfl (Nat.le_of_ble_eq_true rfl) ⟨Nat.le_of_ble_eq_true rfl, Nat.le_of_ble_eq_true rfl, Nat.le_of_ble_eq_true rfl, Nat.le_of_ble_eq_true rfl⟩ (fun τ101 hr101 => ?_)
                          have hz101 : zOK τ101 := hr101.1
                          have ebk : ∀ o, o ≤ 19 → ∀ i, bk τ95 4 o i = (X k).2.2 o i := fun o ho i => by rw [h2.2.2]; exact npe o ho i
                          have n1 : zSame (fun q => q = 1 ∨ (4 ≤ q ∧ q ≤ 23)) σ τ101 := zSame_tr (zSame_tr h1 hr95.2.1 (fun q hq => by first | omega | (dsimp only at hq ⊢; omega))) hr101.2.1 (fun q hq => by first | omega | (dsimp only at hq ⊢; omega))
                          have eS := sStS_p (t := t) (n := n) (k := (sct t n (X k).2.1.1)) (S := pN t n (X k).2.1) ebk
                          have eB := sBk_p (t := t) (n := n) (k := (sct t n (X k).2.1.1)) (S := pN t n (X k).2.1) ebk
                          have npc : PC t n (sStS t n (sct t n (X k).2.1.1) (X k).2.2 (pN t n (X k).2.1)) τ101 := by rw [← eS]; exact hr101.2.2.1
                          have nbb : bbK τ101 4 := hr101.2.2.2.2.1
                          have nwf := (⟨hr101.2.2.2.1, npc.2.2.1, fun q => (npc.2.2.2.2.1 q).1⟩ : WF (bk τ101 4) ∧ (sStS t n (sct t n (X k).2.1.1) (X k).2.2 (pN t n (X k).2.1)).1 ≤ n ∧ ((sStS t n (sct t n (X k).2.1.1) (X k).2.2 (pN t n (X k).2.1)).2.1 = 0 → (sStS t n (sct t n (X k).2.1.1) (X k).2.2 (pN t n (X k).2.1)).2.2 = -1))
                          have nst : stp t n (X k) ((sct t n (X k).2.1.1), sStS t n (sct t n (X k).2.1.1) (X k).2.2 (pN t n (X k).2.1), bk τ101 4) := ⟨hs0, hsk, Or.inr (Or.inr ⟨hwt.mpr h63, fun q => h80 (hful.mp q), rfl, rfl, lEq_tr (pEq_l eB) hr101.2.2.2.2.2⟩)⟩
                          refine zy_iinc (b := ((k + 1 : Nat) : Int)) [zf 4 3, zf 6 1, zi (sct t n (X k).2.1.1), zi ((k + 1 : Nat) : Int), zi (sct t n (X k).2.1.1), zi (if τ.1 5 0 = 0 then 0 else 5)] dX4_fillFrom_104 rfl (by omega) (Nat.le_of_ble_eq_true rfl) rfl rfl ?_
                          refine zx_goto (tgt := 15) dX4_fillFrom_107 (by decide) ?_
                          refine zy_drop 4 [zf 4 3, zf 6 1, zi (sct t n (X k).2.1.1), zi ((k + 1 : Nat) : Int), zu, zi (if τ.1 5 0 = 0 then 0 else 5)] rfl ?_
                          refine zy_drop 5 [zf 4 3, zf 6 1, zi (sct t n (X k).2.1.1), zi ((k + 1 : Nat) : Int), zu, zu] rfl ?_
                          exact ih15 τ101 (xUp X k ((sct t n (X k).2.1.1), sStS t n (sct t n (X k).2.1.1) (X k).2.2 (pN t n (X k).2.1), bk τ101 4)) (sct t n (X k).2.1.1) (k + 1) hz101 (by first | exact n1) (by rw [xUp_n]; exact ⟨cTr_up h2.1 nst nwf, rfl, rfl⟩) (by rw [xUp_n]; exact npc) nbb (by omega) (by first | assumption | omega) (by omega)
              · have h80 := zb_n.mp h80
                refine zx_aloadN dX4_fillFrom_83 rfl rfl ?_
                refine zx_iconst dX4_fillFrom_84 ?_
                refine zy_cvvR [zi 4] (sX6_fail (S := (X k).2.1) hfl hz (by omega) h3) dX4_fillFrom_85 (by decide) rfl cw_RX4_48 okX6_fail rfl (Nat.le_of_ble_eq_true rfl) ⟨Nat.le_of_ble_eq_true rfl, Nat.le_of_ble_eq_true rfl, Nat.le_of_ble_eq_true rfl, Nat.le_of_ble_eq_true rfl⟩ (fun τ85 hr85 => ?_)
                have hz85 : zOK τ85 := hr85.1
                have npe : pEq (bk τ 4) (bk τ85 4) := bk_same hr85.2.1
                have n1 : zSame (fun q => q = 1 ∨ (4 ≤ q ∧ q ≤ 23)) σ τ85 := zSame_tr h1 hr85.2.1 (fun q hq => by first | omega | (dsimp only at hq ⊢; omega))
                have npc : PC t n (pF t n (X k).2.1 4) τ85 := hr85.2.2
                have nbb : bbK τ85 4 := bb_pt (fun o ho i => npe o ho i) h4
                have nwf := (⟨WF_eq (pEq_z npe) hWk, npc.2.2.1, fun q => (npc.2.2.2.2.1 q).1⟩ : WF (bk τ85 4) ∧ (pF t n (X k).2.1 4).1 ≤ n ∧ ((pF t n (X k).2.1 4).2.1 = 0 → (pF t n (X k).2.1 4).2.2 = -1))
                have nst : stp t n (X k) (sec, pF t n (X k).2.1 4, bk τ85 4) := ⟨hs0, hsk, Or.inr (Or.inl ⟨hwt.mpr h63, hful.mpr h80, h2.2.1.symm, rfl, by rw [h2.2.2]; exact pEq_l npe⟩)⟩
                refine zx_goto (tgt := 104) dX4_fillFrom_88 (by decide) ?_
                refine zy_iinc (b := ((k + 1 : Nat) : Int)) [zf 4 3, zf 6 1, zi sec, zi ((k + 1 : Nat) : Int), zi (sct t n (X k).2.1.1), zi (if τ.1 5 0 = 0 then 0 else 5)] dX4_fillFrom_104 rfl (by omega) (Nat.le_of_ble_eq_true rfl) rfl rfl ?_
                refine zx_goto (tgt := 15) dX4_fillFrom_107 (by decide) ?_
                refine zy_drop 4 [zf 4 3, zf 6 1, zi sec, zi ((k + 1 : Nat) : Int), zu, zi (if τ.1 5 0 = 0 then 0 else 5)] rfl ?_
                refine zy_drop 5 [zf 4 3, zf 6 1, zi sec, zi ((k + 1 : Nat) : Int), zu, zu] rfl ?_
                exact ih15 τ85 (xUp X k (sec, pF t n (X k).2.1 4, bk τ85 4)) sec (k + 1) hz85 (by first | exact n1) (by rw [xUp_n]; exact ⟨cTr_up h2.1 nst nwf, rfl, rfl⟩) (by rw [xUp_n]; exact npc) nbb (by omega) (by first | assumption | omega) (by omega)
            · have h63 := zb_0.mp h63
              refine zx_aloadN dX4_fillFrom_66 rfl rfl ?_
              refine zx_iconst dX4_fillFrom_67 ?_
              refine zy_cvvR [zi 1] (sX6_fail (S := (X k).2.1) hfl hz (by omega) h3) dX4_fillFrom_68 (by decide) rfl cw_RX4_48 okX6_fail rfl (Nat.le_of_ble_eq_true rfl) ⟨Nat.le_of_ble_eq_true rfl, Nat.le_of_ble_eq_true rfl, Nat.le_of_ble_eq_true rfl, Nat.le_of_ble_eq_true rfl⟩ (fun τ68 hr68 => ?_)
              have hz68 : zOK τ68 := hr68.1
              have npe : pEq (bk τ 4) (bk τ68 4) := bk_same hr68.2.1
              have n1 : zSame (fun q => q = 1 ∨ (4 ≤ q ∧ q ≤ 23)) σ τ68 := zSame_tr h1 hr68.2.1 (fun q hq => by first | omega | (dsimp only at hq ⊢; omega))
              have npc : PC t n (pF t n (X k).2.1 1) τ68 := hr68.2.2
              have nbb : bbK τ68 4 := bb_pt (fun o ho i => npe o ho i) h4
              have nwf := (⟨WF_eq (pEq_z npe) hWk, npc.2.2.1, fun q => (npc.2.2.2.2.1 q).1⟩ : WF (bk τ68 4) ∧ (pF t n (X k).2.1 1).1 ≤ n ∧ ((pF t n (X k).2.1 1).2.1 = 0 → (pF t n (X k).2.1 1).2.2 = -1))
              have nst : stp t n (X k) (sec, pF t n (X k).2.1 1, bk τ68 4) := ⟨hs0, hsk, Or.inl ⟨fun q => h63 (hwt.mp q), h2.2.1.symm, rfl, by rw [h2.2.2]; exact pEq_l npe⟩⟩
              refine zx_goto (tgt := 104) dX4_fillFrom_71 (by decide) ?_
              refine zy_iinc (b := ((k + 1 : Nat) : Int)) [zf 4 3, zf 6 1, zi sec, zi ((k + 1 : Nat) : Int), zi (sct t n (X k).2.1.1), zi (if τ.1 5 0 = 0 then 0 else 5)] dX4_fillFrom_104 rfl (by omega) (Nat.le_of_ble_eq_true rfl) rfl rfl ?_
              refine zx_goto (tgt := 15) dX4_fillFrom_107 (by decide) ?_
              refine zy_drop 4 [zf 4 3, zf 6 1, zi sec, zi ((k + 1 : Nat) : Int), zu, zi (if τ.1 5 0 = 0 then 0 else 5)] rfl ?_
              refine zy_drop 5 [zf 4 3, zf 6 1, zi sec, zi ((k + 1 : Nat) : Int), zu, zu] rfl ?_
              exact ih15 τ68 (xUp X k (sec, pF t n (X k).2.1 1, bk τ68 4)) sec (k + 1) hz68 (by first | exact n1) (by rw [xUp_n]; exact ⟨cTr_up h2.1 nst nwf, rfl, rfl⟩) (by rw [xUp_n]; exact npc) nbb (by omega) (by first | assumption | omega) (by omega)
  exact L15 _ τ8 (fun _ => (0, (0, 0, -1), bk τ8 4)) 0 0 hz8 (hi1) hi2 hi3 hi4 (by omega) (by first | assumption | omega) (Nat.lt_succ_self _)

