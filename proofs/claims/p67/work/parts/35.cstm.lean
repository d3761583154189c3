abbrev mX4_takePrinterStatement : zM := (yX4_takePrinterStatement, cX4_takePrinterStatement, 6, none, [])
theorem okX4_takePrinterStatement : zMok mX4_takePrinterStatement 1 := ⟨by decide, by decide, by decide +kernel⟩
theorem dX4_takePrinterStatement_0 : decode cX4_takePrinterStatement 0 = .ok (.aload_n 1, 1) := by decide +kernel
theorem dX4_takePrinterStatement_1 : decode cX4_takePrinterStatement 1 = .ok (.aload_n 0, 1) := by decide +kernel
theorem dX4_takePrinterStatement_2 : decode cX4_takePrinterStatement 2 = .ok (.getfield 12, 3) := by decide +kernel
theorem fl_RX4_12 : zFl RX4 12 4 0 := ⟨RX4, TX4, 1, rfl, by decide, zmem1 216 (by decide +kernel) rfl, rfl⟩
theorem dX4_takePrinterStatement_5 : decode cX4_takePrinterStatement 5 = .ok (.getfield 34, 3) := by decide +kernel
theorem fl_RX4_34 : zFl RX4 34 1 0 := ⟨RX1, TX1, 2, rfl, by decide, zmem1 205 (by decide +kernel) rfl, rfl⟩
theorem dX4_takePrinterStatement_8 : decode cX4_takePrinterStatement 8 = .ok (.invokevirtual 109, 3) := by decide +kernel
theorem cw_RX4_109 : zCwV RX4 109 mX6_takeNewName := zall [443, 444, 445, 32, 446] (by decide +kernel) (by decide +kernel)
theorem dX4_takePrinterStatement_11 : decode cX4_takePrinterStatement 11 = .ok (.istore_n 2, 1) := by decide +kernel
theorem dX4_takePrinterStatement_12 : decode cX4_takePrinterStatement 12 = .ok (.aload_n 1, 1) := by decide +kernel
theorem dX4_takePrinterStatement_13 : decode cX4_takePrinterStatement 13 = .ok (.iconst 0, 1) := by decide +kernel
theorem dX4_takePrinterStatement_14 : decode cX4_takePrinterStatement 14 = .ok (.bipush 9, 2) := by decide +kernel
theorem dX4_takePrinterStatement_16 : decode cX4_takePrinterStatement 16 = .ok (.invokevirtual 113, 3) := by decide +kernel
theorem cw_RX4_113 : zCwV RX4 113 mX6_takeNumber := zall [457, 458, 459, 32, 460] (by decide +kernel) (by decide +kernel)
theorem dX4_takePrinterStatement_19 : decode cX4_takePrinterStatement 19 = .ok (.istore_n 3, 1) := by decide +kernel
theorem dX4_takePrinterStatement_20 : decode cX4_takePrinterStatement 20 = .ok (.aload_n 1, 1) := by decide +kernel
theorem dX4_takePrinterStatement_21 : decode cX4_takePrinterStatement 21 = .ok (.sipush 1450, 3) := by decide +kernel
theorem dX4_takePrinterStatement_24 : decode cX4_takePrinterStatement 24 = .ok (.sipush 1999, 3) := by decide +kernel
theorem dX4_takePrinterStatement_27 : decode cX4_takePrinterStatement 27 = .ok (.invokevirtual 113, 3) := by decide +kernel
theorem dX4_takePrinterStatement_30 : decode cX4_takePrinterStatement 30 = .ok (.istore 4, 2) := by decide +kernel
theorem dX4_takePrinterStatement_32 : decode cX4_takePrinterStatement 32 = .ok (.aload_n 1, 1) := by decide +kernel
theorem dX4_takePrinterStatement_33 : decode cX4_takePrinterStatement 33 = .ok (.iload 4, 2) := by decide +kernel
theorem dX4_takePrinterStatement_35 : decode cX4_takePrinterStatement 35 = .ok (.sipush 1999, 3) := by decide +kernel
theorem dX4_takePrinterStatement_38 : decode cX4_takePrinterStatement 38 = .ok (.invokevirtual 113, 3) := by decide +kernel
theorem dX4_takePrinterStatement_41 : decode cX4_takePrinterStatement 41 = .ok (.istore 5, 2) := by decide +kernel
theorem dX4_takePrinterStatement_43 : decode cX4_takePrinterStatement 43 = .ok (.aload_n 1, 1) := by decide +kernel
theorem dX4_takePrinterStatement_44 : decode cX4_takePrinterStatement 44 = .ok (.invokevirtual 117, 3) := by decide +kernel
theorem cw_RX4_117 : zCwV RX4 117 mX6_takeSemicolon := zall [461, 462, 463, 32, 464] (by decide +kernel) (by decide +kernel)
theorem dX4_takePrinterStatement_47 : decode cX4_takePrinterStatement 47 = .ok (.ifCond .eq 19, 3) := by decide +kernel
theorem dX4_takePrinterStatement_66 : decode cX4_takePrinterStatement 66 = .ok (.return_, 1) := by decide +kernel
theorem dX4_takePrinterStatement_50 : decode cX4_takePrinterStatement 50 = .ok (.aload_n 0, 1) := by decide +kernel
theorem dX4_takePrinterStatement_51 : decode cX4_takePrinterStatement 51 = .ok (.getfield 12, 3) := by decide +kernel
theorem dX4_takePrinterStatement_54 : decode cX4_takePrinterStatement 54 = .ok (.getfield 34, 3) := by decide +kernel
theorem dX4_takePrinterStatement_57 : decode cX4_takePrinterStatement 57 = .ok (.iload_n 2, 1) := by decide +kernel
theorem dX4_takePrinterStatement_58 : decode cX4_takePrinterStatement 58 = .ok (.iload_n 3, 1) := by decide +kernel
theorem dX4_takePrinterStatement_59 : decode cX4_takePrinterStatement 59 = .ok (.iload 4, 2) := by decide +kernel
theorem dX4_takePrinterStatement_61 : decode cX4_takePrinterStatement 61 = .ok (.iload 5, 2) := by decide +kernel
theorem dX4_takePrinterStatement_63 : decode cX4_takePrinterStatement 63 = .ok (.invokevirtual 120, 3) := by decide +kernel
theorem cw_RX4_120 : zCwV RX4 120 mX0_addPrinter := zall [465, 466, 467, 35, 468] (by decide +kernel) (by decide +kernel)
abbrev mX4_takeWatermarkStatement : zM := (yX4_takeWatermarkStatement, cX4_takeWatermarkStatement, 4, none, [])
theorem okX4_takeWatermarkStatement : zMok mX4_takeWatermarkStatement 1 := ⟨by decide, by decide, by decide +kernel⟩
theorem dX4_takeWatermarkStatement_0 : decode cX4_takeWatermarkStatement 0 = .ok (.aload_n 1, 1) := by decide +kernel
theorem dX4_takeWatermarkStatement_1 : decode cX4_takeWatermarkStatement 1 = .ok (.sipush 1450, 3) := by decide +kernel
theorem dX4_takeWatermarkStatement_4 : decode cX4_takeWatermarkStatement 4 = .ok (.sipush 1999, 3) := by decide +kernel
theorem dX4_takeWatermarkStatement_7 : decode cX4_takeWatermarkStatement 7 = .ok (.invokevirtual 113, 3) := by decide +kernel
theorem dX4_takeWatermarkStatement_10 : decode cX4_takeWatermarkStatement 10 = .ok (.istore_n 2, 1) := by decide +kernel
theorem dX4_takeWatermarkStatement_11 : decode cX4_takeWatermarkStatement 11 = .ok (.aload_n 1, 1) := by decide +kernel
theorem dX4_takeWatermarkStatement_12 : decode cX4_takeWatermarkStatement 12 = .ok (.iload_n 2, 1) := by decide +kernel
theorem dX4_takeWatermarkStatement_13 : decode cX4_takeWatermarkStatement 13 = .ok (.sipush 1999, 3) := by decide +kernel
theorem dX4_takeWatermarkStatement_16 : decode cX4_takeWatermarkStatement 16 = .ok (.invokevirtual 113, 3) := by decide +kernel
theorem dX4_takeWatermarkStatement_19 : decode cX4_takeWatermarkStatement 19 = .ok (.istore_n 3, 1) := by decide +kernel
theorem dX4_takeWatermarkStatement_20 : decode cX4_takeWatermarkStatement 20 = .ok (.aload_n 1, 1) := by decide +kernel
theorem dX4_takeWatermarkStatement_21 : decode cX4_takeWatermarkStatement 21 = .ok (.invokevirtual 117, 3) := by decide +kernel
theorem dX4_takeWatermarkStatement_24 : decode cX4_takeWatermarkStatement 24 = .ok (.ifCond .eq 15, 3) := by decide +kernel
theorem dX4_takeWatermarkStatement_39 : decode cX4_takeWatermarkStatement 39 = .ok (.return_, 1) := by decide +kernel
theorem dX4_takeWatermarkStatement_27 : decode cX4_takeWatermarkStatement 27 = .ok (.aload_n 0, 1) := by decide +kernel
theorem dX4_takeWatermarkStatement_28 : decode cX4_takeWatermarkStatement 28 = .ok (.getfield 12, 3) := by decide +kernel
theorem dX4_takeWatermarkStatement_31 : decode cX4_takeWatermarkStatement 31 = .ok (.getfield 34, 3) := by decide +kernel
theorem dX4_takeWatermarkStatement_34 : decode cX4_takeWatermarkStatement 34 = .ok (.iload_n 2, 1) := by decide +kernel
theorem dX4_takeWatermarkStatement_35 : decode cX4_takeWatermarkStatement 35 = .ok (.iload_n 3, 1) := by decide +kernel
theorem dX4_takeWatermarkStatement_36 : decode cX4_takeWatermarkStatement 36 = .ok (.invokevirtual 124, 3) := by decide +kernel
theorem cw_RX4_124 : zCwV RX4 124 mX0_addWatermark := zall [473, 474, 475, 35, 476] (by decide +kernel) (by decide +kernel)
abbrev mX4_takeStatementOfPrinter : zM := (yX4_takeStatementOfPrinter, cX4_takeStatementOfPrinter, 7, none, [])
theorem okX4_takeStatementOfPrinter : zMok mX4_takeStatementOfPrinter 2 := ⟨by decide, by decide, by decide +kernel⟩
theorem dX4_takeStatementOfPrinter_0 : decode cX4_takeStatementOfPrinter 0 = .ok (.aload_n 1, 1) := by decide +kernel
theorem dX4_takeStatementOfPrinter_1 : decode cX4_takeStatementOfPrinter 1 = .ok (.aload_n 0, 1) := by decide +kernel
theorem dX4_takeStatementOfPrinter_2 : decode cX4_takeStatementOfPrinter 2 = .ok (.getfield 12, 3) := by decide +kernel
theorem dX4_takeStatementOfPrinter_5 : decode cX4_takeStatementOfPrinter 5 = .ok (.getfield 34, 3) := by decide +kernel
theorem dX4_takeStatementOfPrinter_8 : decode cX4_takeStatementOfPrinter 8 = .ok (.invokevirtual 128, 3) := by decide +kernel
theorem cw_RX4_128 : zCwV RX4 128 mX6_takePrinter := zall [519, 520, 521, 32, 522] (by decide +kernel) (by decide +kernel)
theorem dX4_takeStatementOfPrinter_11 : decode cX4_takeStatementOfPrinter 11 = .ok (.istore_n 3, 1) := by decide +kernel
theorem dX4_takeStatementOfPrinter_12 : decode cX4_takeStatementOfPrinter 12 = .ok (.iload_n 2, 1) := by decide +kernel
theorem dX4_takeStatementOfPrinter_13 : decode cX4_takeStatementOfPrinter 13 = .ok (.iconst 4, 1) := by decide +kernel
theorem dX4_takeStatementOfPrinter_14 : decode cX4_takeStatementOfPrinter 14 = .ok (.if_icmp .ne 9, 3) := by decide +kernel
theorem dX4_takeStatementOfPrinter_23 : decode cX4_takeStatementOfPrinter 23 = .ok (.iconst 0, 1) := by decide +kernel
theorem dX4_takeStatementOfPrinter_24 : decode cX4_takeStatementOfPrinter 24 = .ok (.istore 4, 2) := by decide +kernel
theorem dX4_takeStatementOfPrinter_26 : decode cX4_takeStatementOfPrinter 26 = .ok (.iload_n 2, 1) := by decide +kernel
theorem dX4_takeStatementOfPrinter_27 : decode cX4_takeStatementOfPrinter 27 = .ok (.iconst 4, 1) := by decide +kernel
theorem dX4_takeStatementOfPrinter_28 : decode cX4_takeStatementOfPrinter 28 = .ok (.if_icmp .ne 9, 3) := by decide +kernel
theorem dX4_takeStatementOfPrinter_37 : decode cX4_takeStatementOfPrinter 37 = .ok (.iload_n 2, 1) := by decide +kernel
theorem dX4_takeStatementOfPrinter_38 : decode cX4_takeStatementOfPrinter 38 = .ok (.iconst 1, 1) := by decide +kernel
theorem dX4_takeStatementOfPrinter_39 : decode cX4_takeStatementOfPrinter 39 = .ok (.if_icmp .ne 8, 3) := by decide +kernel
theorem dX4_takeStatementOfPrinter_42 : decode cX4_takeStatementOfPrinter 42 = .ok (.bipush 31, 2) := by decide +kernel
theorem dX4_takeStatementOfPrinter_44 : decode cX4_takeStatementOfPrinter 44 = .ok (.goto 5, 3) := by decide +kernel
theorem dX4_takeStatementOfPrinter_49 : decode cX4_takeStatementOfPrinter 49 = .ok (.istore 5, 2) := by decide +kernel
theorem dX4_takeStatementOfPrinter_51 : decode cX4_takeStatementOfPrinter 51 = .ok (.aload_n 1, 1) := by decide +kernel
theorem dX4_takeStatementOfPrinter_52 : decode cX4_takeStatementOfPrinter 52 = .ok (.iload 4, 2) := by decide +kernel
theorem dX4_takeStatementOfPrinter_54 : decode cX4_takeStatementOfPrinter 54 = .ok (.iload 5, 2) := by decide +kernel
theorem dX4_takeStatementOfPrinter_56 : decode cX4_takeStatementOfPrinter 56 = .ok (.invokevirtual 113, 3) := by decide +kernel
theorem dX4_takeStatementOfPrinter_59 : decode cX4_takeStatementOfPrinter 59 = .ok (.istore 6, 2) := by decide +kernel
theorem dX4_takeStatementOfPrinter_61 : decode cX4_takeStatementOfPrinter 61 = .ok (.aload_n 1, 1) := by decide +kernel
theorem dX4_takeStatementOfPrinter_62 : decode cX4_takeStatementOfPrinter 62 = .ok (.invokevirtual 117, 3) := by decide +kernel
theorem dX4_takeStatementOfPrinter_65 : decode cX4_takeStatementOfPrinter 65 = .ok (.ifCond .ne 4, 3) := by decide +kernel
theorem dX4_takeStatementOfPrinter_69 : decode cX4_takeStatementOfPrinter 69 = .ok (.iload_n 2, 1) := by decide +kernel
theorem dX4_takeStatementOfPrinter_70 : decode cX4_takeStatementOfPrinter 70 = .ok (.iconst 1, 1) := by decide +kernel
theorem dX4_takeStatementOfPrinter_71 : decode cX4_takeStatementOfPrinter 71 = .ok (.if_icmp .ne 19, 3) := by decide +kernel
theorem dX4_takeStatementOfPrinter_74 : decode cX4_takeStatementOfPrinter 74 = .ok (.aload_n 0, 1) := by decide +kernel
theorem dX4_takeStatementOfPrinter_75 : decode cX4_takeStatementOfPrinter 75 = .ok (.getfield 12, 3) := by decide +kernel
theorem dX4_takeStatementOfPrinter_78 : decode cX4_takeStatementOfPrinter 78 = .ok (.getfield 34, 3) := by decide +kernel
theorem dX4_takeStatementOfPrinter_81 : decode cX4_takeStatementOfPrinter 81 = .ok (.iload_n 3, 1) := by decide +kernel
theorem dX4_takeStatementOfPrinter_82 : decode cX4_takeStatementOfPrinter 82 = .ok (.iload 6, 2) := by decide +kernel
theorem dX4_takeStatementOfPrinter_84 : decode cX4_takeStatementOfPrinter 84 = .ok (.invokevirtual 131, 3) := by decide +kernel
theorem cw_RX4_131 : zCwV RX4 131 mX0_giveDevice := zall [523, 524, 525, 35, 526] (by decide +kernel) (by decide +kernel)
theorem dX4_takeStatementOfPrinter_87 : decode cX4_takeStatementOfPrinter 87 = .ok (.goto 37, 3) := by decide +kernel
theorem dX4_takeStatementOfPrinter_124 : decode cX4_takeStatementOfPrinter 124 = .ok (.return_, 1) := by decide +kernel
theorem dX4_takeStatementOfPrinter_68 : decode cX4_takeStatementOfPrinter 68 = .ok (.return_, 1) := by decide +kernel
theorem dX4_takeStatementOfPrinter_47 : decode cX4_takeStatementOfPrinter 47 = .ok (.bipush 15, 2) := by decide +kernel
theorem dX4_takeStatementOfPrinter_90 : decode cX4_takeStatementOfPrinter 90 = .ok (.iload_n 2, 1) := by decide +kernel
theorem dX4_takeStatementOfPrinter_91 : decode cX4_takeStatementOfPrinter 91 = .ok (.iconst 2, 1) := by decide +kernel
theorem dX4_takeStatementOfPrinter_92 : decode cX4_takeStatementOfPrinter 92 = .ok (.if_icmp .ne 19, 3) := by decide +kernel
theorem dX4_takeStatementOfPrinter_95 : decode cX4_takeStatementOfPrinter 95 = .ok (.aload_n 0, 1) := by decide +kernel
theorem dX4_takeStatementOfPrinter_96 : decode cX4_takeStatementOfPrinter 96 = .ok (.getfield 12, 3) := by decide +kernel
theorem dX4_takeStatementOfPrinter_99 : decode cX4_takeStatementOfPrinter 99 = .ok (.getfield 34, 3) := by decide +kernel
theorem dX4_takeStatementOfPrinter_102 : decode cX4_takeStatementOfPrinter 102 = .ok (.iload_n 3, 1) := by decide +kernel
theorem dX4_takeStatementOfPrinter_103 : decode cX4_takeStatementOfPrinter 103 = .ok (.iload 6, 2) := by decide +kernel
theorem dX4_takeStatementOfPrinter_105 : decode cX4_takeStatementOfPrinter 105 = .ok (.invokevirtual 134, 3) := by decide +kernel
theorem cw_RX4_134 : zCwV RX4 134 mX0_giveTypeface := zall [532, 533, 534, 35, 535] (by decide +kernel) (by decide +kernel)
theorem dX4_takeStatementOfPrinter_108 : decode cX4_takeStatementOfPrinter 108 = .ok (.goto 16, 3) := by decide +kernel
theorem dX4_takeStatementOfPrinter_17 : decode cX4_takeStatementOfPrinter 17 = .ok (.sipush 1450, 3) := by decide +kernel
theorem dX4_takeStatementOfPrinter_20 : decode cX4_takeStatementOfPrinter 20 = .ok (.goto 4, 3) := by decide +kernel
theorem dX4_takeStatementOfPrinter_31 : decode cX4_takeStatementOfPrinter 31 = .ok (.sipush 1999, 3) := by decide +kernel
theorem dX4_takeStatementOfPrinter_34 : decode cX4_takeStatementOfPrinter 34 = .ok (.goto 15, 3) := by decide +kernel
theorem dX4_takeStatementOfPrinter_111 : decode cX4_takeStatementOfPrinter 111 = .ok (.aload_n 0, 1) := by decide +kernel
theorem dX4_takeStatementOfPrinter_112 : decode cX4_takeStatementOfPrinter 112 = .ok (.getfield 12, 3) := by decide +kernel
theorem dX4_takeStatementOfPrinter_115 : decode cX4_takeStatementOfPrinter 115 = .ok (.getfield 34, 3) := by decide +kernel
theorem dX4_takeStatementOfPrinter_118 : decode cX4_takeStatementOfPrinter 118 = .ok (.iload_n 3, 1) := by decide +kernel
theorem dX4_takeStatementOfPrinter_119 : decode cX4_takeStatementOfPrinter 119 = .ok (.iload 6, 2) := by decide +kernel
theorem dX4_takeStatementOfPrinter_121 : decode cX4_takeStatementOfPrinter 121 = .ok (.invokevirtual 137, 3) := by decide +kernel
theorem cw_RX4_137 : zCwV RX4 137 mX0_addEdition := zall [536, 537, 538, 35, 539] (by decide +kernel) (by decide +kernel)
abbrev mX4_takeClueStatement : zM := (yX4_takeClueStatement, cX4_takeClueStatement, 6, none, [])
theorem okX4_takeClueStatement : zMok mX4_takeClueStatement 1 := ⟨by decide, by decide, by decide +kernel⟩
theorem dX4_takeClueStatement_0 : decode cX4_takeClueStatement 0 = .ok (.aload_n 1, 1) := by decide +kernel
theorem dX4_takeClueStatement_1 : decode cX4_takeClueStatement 1 = .ok (.iconst 1, 1) := by decide +kernel
theorem dX4_takeClueStatement_2 : decode cX4_takeClueStatement 2 = .ok (.sipush 999, 3) := by decide +kernel
theorem dX4_takeClueStatement_5 : decode cX4_takeClueStatement 5 = .ok (.invokevirtual 113, 3) := by decide +kernel
theorem dX4_takeClueStatement_8 : decode cX4_takeClueStatement 8 = .ok (.istore_n 2, 1) := by decide +kernel
theorem dX4_takeClueStatement_9 : decode cX4_takeClueStatement 9 = .ok (.aload_n 1, 1) := by decide +kernel
theorem dX4_takeClueStatement_10 : decode cX4_takeClueStatement 10 = .ok (.invokevirtual 140, 3) := by decide +kernel
theorem cw_RX4_140 : zCwV RX4 140 mX6_takeKind := zall [481, 482, 483, 32, 484] (by decide +kernel) (by decide +kernel)
theorem dX4_takeClueStatement_13 : decode cX4_takeClueStatement 13 = .ok (.istore_n 3, 1) := by decide +kernel
theorem dX4_takeClueStatement_14 : decode cX4_takeClueStatement 14 = .ok (.aload_n 1, 1) := by decide +kernel
theorem dX4_takeClueStatement_15 : decode cX4_takeClueStatement 15 = .ok (.iload_n 3, 1) := by decide +kernel
theorem dX4_takeClueStatement_16 : decode cX4_takeClueStatement 16 = .ok (.invokestatic 144, 3) := by decide +kernel
theorem cw_RX4_144 : zCwS RX4 144 mX0_lowestValue := zall [491, 492, 35, 493] (by decide +kernel) (by decide +kernel)
theorem dX4_takeClueStatement_19 : decode cX4_takeClueStatement 19 = .ok (.aload_n 0, 1) := by decide +kernel
theorem dX4_takeClueStatement_20 : decode cX4_takeClueStatement 20 = .ok (.getfield 12, 3) := by decide +kernel
theorem dX4_takeClueStatement_23 : decode cX4_takeClueStatement 23 = .ok (.getfield 34, 3) := by decide +kernel
theorem dX4_takeClueStatement_26 : decode cX4_takeClueStatement 26 = .ok (.iload_n 3, 1) := by decide +kernel
theorem dX4_takeClueStatement_27 : decode cX4_takeClueStatement 27 = .ok (.invokevirtual 148, 3) := by decide +kernel
theorem cw_RX4_148 : zCwV RX4 148 mX0_highestValue := zall [494, 495, 496, 35, 497] (by decide +kernel) (by decide +kernel)
theorem dX4_takeClueStatement_30 : decode cX4_takeClueStatement 30 = .ok (.invokevirtual 113, 3) := by decide +kernel
theorem dX4_takeClueStatement_33 : decode cX4_takeClueStatement 33 = .ok (.istore 4, 2) := by decide +kernel
theorem dX4_takeClueStatement_35 : decode cX4_takeClueStatement 35 = .ok (.aload_n 1, 1) := by decide +kernel
theorem dX4_takeClueStatement_36 : decode cX4_takeClueStatement 36 = .ok (.iconst 1, 1) := by decide +kernel
theorem dX4_takeClueStatement_37 : decode cX4_takeClueStatement 37 = .ok (.bipush 9, 2) := by decide +kernel
theorem dX4_takeClueStatement_39 : decode cX4_takeClueStatement 39 = .ok (.invokevirtual 113, 3) := by decide +kernel
theorem dX4_takeClueStatement_42 : decode cX4_takeClueStatement 42 = .ok (.istore 5, 2) := by decide +kernel
theorem dX4_takeClueStatement_44 : decode cX4_takeClueStatement 44 = .ok (.aload_n 1, 1) := by decide +kernel
theorem dX4_takeClueStatement_45 : decode cX4_takeClueStatement 45 = .ok (.invokevirtual 117, 3) := by decide +kernel
theorem dX4_takeClueStatement_48 : decode cX4_takeClueStatement 48 = .ok (.ifCond .eq 19, 3) := by decide +kernel
theorem dX4_takeClueStatement_67 : decode cX4_takeClueStatement 67 = .ok (.return_, 1) := by decide +kernel
theorem dX4_takeClueStatement_51 : decode cX4_takeClueStatement 51 = .ok (.aload_n 0, 1) := by decide +kernel
theorem dX4_takeClueStatement_52 : decode cX4_takeClueStatement 52 = .ok (.getfield 12, 3) := by decide +kernel
theorem dX4_takeClueStatement_55 : decode cX4_takeClueStatement 55 = .ok (.getfield 88, 3) := by decide +kernel
theorem fl_RX4_88 : zFl RX4 88 1 1 := ⟨RX1, TX1, 2, rfl, by decide, zmem1 210 (by decide +kernel) rfl, rfl⟩
theorem dX4_takeClueStatement_58 : decode cX4_takeClueStatement 58 = .ok (.iload_n 2, 1) := by decide +kernel
theorem dX4_takeClueStatement_59 : decode cX4_takeClueStatement 59 = .ok (.iload_n 3, 1) := by decide +kernel
theorem dX4_takeClueStatement_60 : decode cX4_takeClueStatement 60 = .ok (.iload 4, 2) := by decide +kernel
theorem dX4_takeClueStatement_62 : decode cX4_takeClueStatement 62 = .ok (.iload 5, 2) := by decide +kernel
theorem dX4_takeClueStatement_64 : decode cX4_takeClueStatement 64 = .ok (.invokevirtual 151, 3) := by decide +kernel
theorem cw_RX4_151 : zCwV RX4 151 mX2_add := zall [498, 499, 500, 36, 501] (by decide +kernel) (by decide +kernel)
/-! statements: where a reader stands behind them, and what they make of a book -/
theorem pNum_s {t : Nat → Int} {n : Nat} {S : zP} {lo hi : Int} (h : (pNum t n S lo hi).2.1 = 0) : S.2.1 = 0 ∧ (lo ≤ pV t n S.1 ∧ pV t n S.1 ≤ hi) ∧ pNum t n S lo hi = pN t n S ∧ ¬ xK t n S.1 = 0 := by
  by_cases a : S.2.1 = 0 ∧ xK t n S.1 = 2 ∧ xE t n S.1 - xS t n S.1 ≤ 4
  · by_cases b : lo ≤ pV t n S.1 ∧ pV t n S.1 ≤ hi
    · exact ⟨a.1, b, pNum_3 a b, by rw [a.2.1]; decide⟩
    · rw [pNum_2 a b] at h; exact absurd h (pF_nz (by decide))
  · rw [pNum_1 a] at h; exact absurd h (pF_nz (by decide))
theorem pNum_u {t : Nat → Int} {n : Nat} {S : zP} {lo hi : Int} (h : ¬ S.2.1 = 0) : pNum t n S lo hi = S := by unfold pNum; rw [if_pos h]
theorem pNum_lo {t : Nat → Int} {n : Nat} {S : zP} {a b a' b' : Int} (h : S.2.1 = 0 → a = a' ∧ b = b') : pNum t n S a b = pNum t n S a' b' := by
  by_cases q : S.2.1 = 0
  · rw [(h q).1, (h q).2]
  · rw [pNum_u q, pNum_u q]
theorem pSem_s {t : Nat → Int} {n : Nat} {S : zP} (h : (pSem t n S).2.1 = 0) : S.2.1 = 0 ∧ pSem t n S = pN t n S ∧ ¬ xK t n S.1 = 0 := by
  by_cases a : S.2.1 = 0 ∧ xK t n S.1 = 3
  · exact ⟨a.1, pSem_y a.1 a.2, by rw [a.2]; decide⟩
  · rw [pSem_n a] at h; exact absurd h (pF_nz (by decide))
theorem pNew_s {t : Nat → Int} {n : Nat} {f : Nat → Int} {P : Int} {S : zP} (h : (pNew t n f P S).2.1 = 0) : S.2.1 = 0 ∧ ¬ nmv t n S = 0 ∧ fz f P (nmv t n S) = -1 ∧ pNew t n f P S = pN t n S := by
  by_cases a : nmv t n S = 0
  · rw [pNew_1 a] at h; exact absurd h (pF_nz (by decide))
  · by_cases b : fz f P (nmv t n S) = -1
    · exact ⟨nmv_s a, a, b, pNew_y a b⟩
    · rw [pNew_3 a b] at h; exact absurd h (pF_nz (by decide))
theorem pPrn_s {t : Nat → Int} {n : Nat} {f : Nat → Int} {P : Int} {S : zP} (h : (pPrn t n f P S).2.1 = 0) : S.2.1 = 0 ∧ ¬ nmv t n S = 0 ∧ ¬ fz f P (nmv t n S) = -1 ∧ pPrn t n f P S = pN t n S := by
  by_cases a : nmv t n S = 0
  · rw [pPrn_1 a] at h; exact absurd h (pF_nz (by decide))
  · by_cases b : fz f P (nmv t n S) = -1
    · rw [pPrn_3 a b] at h; exact absurd h (pF_nz (by decide))
    · exact ⟨nmv_s a, a, b, pPrn_y a b⟩
theorem pKd_s {t : Nat → Int} {n : Nat} {S : zP} (h : (pKd t n S).2.1 = 0) : S.2.1 = 0 ∧ ¬ kdv t n S.1 = -1 ∧ pKd t n S = pN t n S := by
  by_cases a : S.2.1 = 0 ∧ ¬ kdv t n S.1 = -1
  · exact ⟨a.1, a.2, pKd_y a.1 a.2⟩
  · rw [pKd_n (fun z => Classical.not_not.mp (fun y => a ⟨z, y⟩))] at h; exact absurd h (pF_nz (by decide))
theorem pKd_u {t : Nat → Int} {n : Nat} {S : zP} (h : ¬ S.2.1 = 0) : pKd t n S = S := by unfold pKd; rw [if_pos h]
theorem pF_m {t : Nat → Int} {n : Nat} {S : zP} {c : Int} (h : S.1 ≤ n) : S.1 ≤ (pF t n S c).1 ∧ (pF t n S c).1 ≤ n := by rw [pF_1]; exact ⟨Nat.le_refl _, h⟩
theorem pN_m {t : Nat → Int} {n : Nat} {S : zP} (h : S.1 ≤ n) : S.1 ≤ (pN t n S).1 ∧ (pN t n S).1 ≤ n := by
  have a := xS_le (t := t) h
  have b := xE_le (t := t) h
  show S.1 ≤ xE t n S.1 ∧ xE t n S.1 ≤ n
  omega
theorem pNum_m {t : Nat → Int} {n : Nat} {S : zP} {lo hi : Int} (h : S.1 ≤ n) : S.1 ≤ (pNum t n S lo hi).1 ∧ (pNum t n S lo hi).1 ≤ n := by
  unfold pNum
  split
  · exact ⟨Nat.le_refl _, h⟩
  · split
    · exact pF_m h
    · split
      · exact pF_m h
      · exact pN_m h
theorem pSem_m {t : Nat → Int} {n : Nat} {S : zP} (h : S.1 ≤ n) : S.1 ≤ (pSem t n S).1 ∧ (pSem t n S).1 ≤ n := by
  unfold pSem
  split
  · exact ⟨Nat.le_refl _, h⟩
  · split
    · exact pN_m h
    · exact pF_m h
theorem pNew_m {t : Nat → Int} {n : Nat} {f : Nat → Int} {P : Int} {S : zP} (h : S.1 ≤ n) : S.1 ≤ (pNew t n f P S).1 ∧ (pNew t n f P S).1 ≤ n := by
  unfold pNew
  split
  · exact ⟨Nat.le_refl _, h⟩
  · split
    · exact pF_m h
    · split
      · exact pF_m h
      · exact pN_m h
theorem pPrn_m {t : Nat → Int} {n : Nat} {f : Nat → Int} {P : Int} {S : zP} (h : S.1 ≤ n) : S.1 ≤ (pPrn t n f P S).1 ∧ (pPrn t n f P S).1 ≤ n := by
  unfold pPrn
  split
  · exact ⟨Nat.le_refl _, h⟩
  · split
    · exact pF_m h
    · split
      · exact pF_m h
      · exact pN_m h
theorem pKd_m {t : Nat → Int} {n : Nat} {S : zP} (h : S.1 ≤ n) : S.1 ≤ (pKd t n S).1 ∧ (pKd t n S).1 ≤ n := by
  unfold pKd
  split
  · exact ⟨Nat.le_refl _, h⟩
  · split
    · exact pF_m h
    · exact pN_m h
/-! the statements' ways -/
noncomputable def q1 (t : Nat → Int) (n : Nat) (D : zBk) (S : zP) : zP := pNew t n (D 2) (D 1 0) S
noncomputable def q2 (t : Nat → Int) (n : Nat) (D : zBk) (S : zP) : zP := pNum t n (q1 t n D S) 0 9
noncomputable def q3 (t : Nat → Int) (n : Nat) (D : zBk) (S : zP) : zP := pNum t n (q2 t n D S) 1450 1999
noncomputable def q4 (t : Nat → Int) (n : Nat) (D : zBk) (S : zP) : zP := pNum t n (q3 t n D S) (pV t n (q2 t n D S).1) 1999
noncomputable def q5 (t : Nat → Int) (n : Nat) (D : zBk) (S : zP) : zP := pSem t n (q4 t n D S)
noncomputable def w1 (t : Nat → Int) (n : Nat) (S : zP) : zP := pNum t n S 1450 1999
noncomputable def w2 (t : Nat → Int) (n : Nat) (S : zP) : zP := pNum t n (w1 t n S) (pV t n S.1) 1999
noncomputable def w3 (t : Nat → Int) (n : Nat) (S : zP) : zP := pSem t n (w2 t n S)
noncomputable def o1 (t : Nat → Int) (n : Nat) (D : zBk) (S : zP) : zP := pPrn t n (D 2) (D 1 0) S
noncomputable def o2 (t : Nat → Int) (n : Nat) (D : zBk) (lo hi : Int) (S : zP) : zP := pNum t n (o1 t n D S) lo hi
noncomputable def o3 (t : Nat → Int) (n : Nat) (D : zBk) (lo hi : Int) (S : zP) : zP := pSem t n (o2 t n D lo hi S)
noncomputable def loK (k : Int) : Int := if k = 4 then 1450 else 0
noncomputable def hiK (D : zBk) (k : Int) : Int := if k = 0 then 31 else if k = 1 then 15 else if k = 2 then D 1 7 - 1 else if k = 3 then 9 else 1999
noncomputable def u1 (t : Nat → Int) (n : Nat) (S : zP) : zP := pNum t n S 1 999
noncomputable def u2 (t : Nat → Int) (n : Nat) (S : zP) : zP := pKd t n (u1 t n S)
noncomputable def u3 (t : Nat → Int) (n : Nat) (D : zBk) (S : zP) : zP := pNum t n (u2 t n S) (loK (kdv t n (u1 t n S).1)) (hiK D (kdv t n (u1 t n S).1))
noncomputable def u4 (t : Nat → Int) (n : Nat) (D : zBk) (S : zP) : zP := pNum t n (u3 t n D S) 1 9
noncomputable def u5 (t : Nat → Int) (n : Nat) (D : zBk) (S : zP) : zP := pSem t n (u4 t n D S)
def adP (D : zBk) (nm ct fi la : Int) : zBk := fun o i => if o = 1 ∧ i = 0 then D 1 0 + 1 else if (i : Int) = D 1 0 ∧ 2 ≤ o ∧ o ≤ 7 then (if o = 2 then nm else if o = 3 then ct else if o = 4 then fi else if o = 5 then la else 0) else D o i
def adM (D : zBk) (a b : Int) : zBk := fun o i => if o = 1 ∧ i = 7 then D 1 7 + 1 else if (i : Int) = D 1 7 ∧ (o = 8 ∨ o = 9) then (if o = 8 then a else b) else D o i
def adE (D : zBk) (a b : Int) : zBk := fun o i => if o = 1 ∧ i = 10 then D 1 10 + 1 else if (i : Int) = D 1 10 ∧ (o = 10 ∨ o = 11) then (if o = 10 then a else b) else D o i
noncomputable def sStS (t : Nat → Int) (n : Nat) (k : Int) (D : zBk) (S : zP) : zP := if k = 0 then q5 t n D S else if k = 1 then o3 t n D 0 31 S else if k = 2 then o3 t n D 0 15 S else if k = 3 then w3 t n S else if k = 4 then o3 t n D 1450 1999 S else u5 t n D S
noncomputable def nmP (t : Nat → Int) (n : Nat) (D : zBk) (S : zP) : Nat := (fz (D 2) (D 1 0) (nmv t n S)).toNat
noncomputable def sStB (t : Nat → Int) (n : Nat) (k : Int) (D : zBk) (S : zP) : zBk := if k = 0 then adP D (nmv t n S) (pV t n (q1 t n D S).1) (pV t n (q2 t n D S).1) (pV t n (q3 t n D S).1)
  else if k = 1 then ov D 6 (nmP t n D S) (zor (D 6 (nmP t n D S)) (zshl 1 (pV t n (o1 t n D S).1))) else if k = 2 then ov D 7 (nmP t n D S) (zor (D 7 (nmP t n D S)) (zshl 1 (pV t n (o1 t n D S).1)))
  else if k = 3 then adM D (pV t n S.1) (pV t n (w1 t n S).1) else if k = 4 then adE D (nmP t n D S) (pV t n (o1 t n D S).1) else adB D (pV t n S.1) (kdv t n (u1 t n S).1) (pV t n (u2 t n S).1) (pV t n (u3 t n D S).1)
noncomputable def sBk (t : Nat → Int) (n : Nat) (k : Int) (D : zBk) (S : zP) : zBk := if (sStS t n k D S).2.1 = 0 then sStB t n k D S else D
theorem WF_adP {D : zBk} {nm ct fi la : Int} (w : WF D) (h8 : D 1 0 < 8) (h1 : 0 ≤ ct ∧ ct ≤ 9) (h2 : 1450 ≤ fi ∧ fi ≤ la ∧ la ≤ 1999) : WF (adP D nm ct fi la) := by
  obtain ⟨wn, wp, wm, we, wc, wo⟩ := w
  have g : ∀ o i, 8 ≤ o → adP D nm ct fi la o i = D o i := fun o i h => by unfold adP; rw [if_neg (by omega), if_neg (by omega)]
  have g0 : adP D nm ct fi la 1 0 = D 1 0 + 1 := if_pos ⟨rfl, rfl⟩
  have g1 : ∀ i, i ≠ 0 → adP D nm ct fi la 1 i = D 1 i := fun i h => by unfold adP; rw [if_neg (by omega), if_neg (by omega)]
  unfold WFn at wn
  refine ⟨?_, fun p hp => ?_, fun q hq => ?_, fun q hq => ?_, fun k hk => ?_, fun i hi => ?_, fun i j hij hj => ?_, fun k hk => ?_⟩
  · unfold WFn; rw [g0, g1 7 (by decide), g1 10 (by decide), g 12 0 (by decide)]; omega
  · rw [g0] at hp
    by_cases e : (p : Int) = D 1 0
    · have e3 : adP D nm ct fi la 3 p = ct := by unfold adP; rw [if_neg (by omega), if_pos ⟨e, by omega, by omega⟩]; rfl
      have e4 : adP D nm ct fi la 4 p = fi := by unfold adP; rw [if_neg (by omega), if_pos ⟨e, by omega, by omega⟩]; rfl
      have e5 : adP D nm ct fi la 5 p = la := by unfold adP; rw [if_neg (by omega), if_pos ⟨e, by omega, by omega⟩]; rfl
      rw [e3, e4, e5]; exact ⟨h1, h2⟩
    · have e' : ∀ o, 2 ≤ o → adP D nm ct fi la o p = D o p := fun o ho => by unfold adP; rw [if_neg (by omega), if_neg (fun q => e q.1)]
      rw [e' 3 (by omega), e' 4 (by omega), e' 5 (by omega)]; exact wp p (by omega)
  · rw [g1 7 (by decide)] at hq
    rw [g 8 q (by decide), g 9 q (by decide)]; exact wm q hq
  · rw [g1 10 (by decide)] at hq
    rw [g 10 q (by decide), g 11 q (by decide), g0]; have := we q hq; omega
  · rw [g 12 0 (by decide)] at hk
    have := wc k hk
    rw [g 13 k (by decide), g 14 k (by decide), g 15 k (by decide), g 16 k (by decide), g 17 k (by decide), g 18 k (by decide)]
    unfold WFk at *; rw [g1 7 (by decide)]; exact this
  · rw [g 12 0 (by decide)] at hi
    rw [g 19 i (by decide), g 12 0 (by decide)]; exact wo.1 i hi
  · rw [g 12 0 (by decide)] at hj
    have := wo.2.1 i j hij hj
    unfold bef at *
    rw [g 19 i (by decide), g 19 j (by decide), g 13 _ (by decide), g 13 _ (by decide)]; exact this
  · rw [g 12 0 (by decide)] at hk
    obtain ⟨i, h1, h2⟩ := wo.2.2 k hk
    exact ⟨i, by rw [g 12 0 (by decide)]; exact h1, by rw [g 19 i (by decide)]; exact h2⟩
theorem WF_adM {D : zBk} {a b : Int} (w : WF D) (h8 : D 1 7 < 8) (h2 : 1450 ≤ a ∧ a ≤ b ∧ b ≤ 1999) : WF (adM D a b) := by
  obtain ⟨wn, wp, wm, we, wc, wo⟩ := w
  have g : ∀ o i, o ≠ 1 → o ≠ 8 → o ≠ 9 → adM D a b o i = D o i := fun o i x y z => by unfold adM; rw [if_neg (by omega), if_neg (by omega)]
  have g0 : adM D a b 1 7 = D 1 7 + 1 := if_pos ⟨rfl, rfl⟩
  have g1 : ∀ i, i ≠ 7 → adM D a b 1 i = D 1 i := fun i h => by unfold adM; rw [if_neg (by omega), if_neg (by omega)]
  unfold WFn at wn
  refine ⟨?_, fun p hp => ?_, fun q hq => ?_, fun q hq => ?_, fun k hk => ?_, fun i hi => ?_, fun i j hij hj => ?_, fun k hk => ?_⟩
  · unfold WFn; rw [g0, g1 0 (by decide), g1 10 (by decide), g 12 0 (by decide) (by decide) (by decide)]; omega
  · rw [g1 0 (by decide)] at hp
    rw [g 3 p (by decide) (by decide) (by decide), g 4 p (by decide) (by decide) (by decide), g 5 p (by decide) (by decide) (by decide)]; exact wp p hp
  · rw [g0] at hq
    by_cases e : (q : Int) = D 1 7
    · have e8 : adM D a b 8 q = a := by unfold adM; rw [if_neg (by omega), if_pos ⟨e, by omega⟩]; rfl
      have e9 : adM D a b 9 q = b := by unfold adM; rw [if_neg (by omega), if_pos ⟨e, by omega⟩]; rfl
      rw [e8, e9]; exact h2
    · have e' : ∀ o, 2 ≤ o → adM D a b o q = D o q := fun o ho => by unfold adM; rw [if_neg (by omega), if_neg (fun z => e z.1)]
      rw [e' 8 (by omega), e' 9 (by omega)]; exact wm q (by omega)
  · rw [g1 10 (by decide)] at hq
    rw [g 10 q (by decide) (by decide) (by decide), g 11 q (by decide) (by decide) (by decide), g1 0 (by decide)]; exact we q hq
  · rw [g 12 0 (by decide) (by decide) (by decide)] at hk
    have := wc k hk
    rw [g 13 k (by decide) (by decide) (by decide), g 14 k (by decide) (by decide) (by decide), g 15 k (by decide) (by decide) (by decide), g 16 k (by decide) (by decide) (by decide), g 17 k (by decide) (by decide) (by decide), g 18 k (by decide) (by decide) (by decide)]
    unfold WFk at *; rw [g0]; omega
  · rw [g 12 0 (by decide) (by decide) (by decide)] at hi
    rw [g 19 i (by decide) (by decide) (by decide), g 12 0 (by decide) (by decide) (by decide)]; exact wo.1 i hi
  · rw [g 12 0 (by decide) (by decide) (by decide)] at hj
    have := wo.2.1 i j hij hj
    unfold bef at *
    rw [g 19 i (by decide) (by decide) (by decide), g 19 j (by decide) (by decide) (by decide), g 13 _ (by decide) (by decide) (by decide), g 13 _ (by decide) (by decide) (by decide)]; exact this
  · rw [g 12 0 (by decide) (by decide) (by decide)] at hk
    obtain ⟨i, h1, h2⟩ := wo.2.2 k hk
    exact ⟨i, by rw [g 12 0 (by decide) (by decide) (by decide)]; exact h1, by rw [g 19 i (by decide) (by decide) (by decide)]; exact h2⟩
theorem WF_adE {D : zBk} {a b : Int} (w : WF D) (h8 : D 1 10 < 12) (h1 : 0 ≤ a ∧ a < D 1 0) (h2 : 1450 ≤ b ∧ b ≤ 1999) : WF (adE D a b) := by
  obtain ⟨wn, wp, wm, we, wc, wo⟩ := w
  have g : ∀ o i, o ≠ 1 → o ≠ 10 → o ≠ 11 → adE D a b o i = D o i := fun o i x y z => by unfold adE; rw [if_neg (by omega), if_neg (by omega)]
  have g0 : adE D a b 1 10 = D 1 10 + 1 := if_pos ⟨rfl, rfl⟩
  have g1 : ∀ i, i ≠ 10 → adE D a b 1 i = D 1 i := fun i h => by unfold adE; rw [if_neg (by omega), if_neg (by omega)]
  unfold WFn at wn
  refine ⟨?_, fun p hp => ?_, fun q hq => ?_, fun q hq => ?_, fun k hk => ?_, fun i hi => ?_, fun i j hij hj => ?_, fun k hk => ?_⟩
  · unfold WFn; rw [g0, g1 0 (by decide), g1 7 (by decide), g 12 0 (by decide) (by decide) (by decide)]; omega
  · rw [g1 0 (by decide)] at hp
    rw [g 3 p (by decide) (by decide) (by decide), g 4 p (by decide) (by decide) (by decide), g 5 p (by decide) (by decide) (by decide)]; exact wp p hp
  · rw [g1 7 (by decide)] at hq
    rw [g 8 q (by decide) (by decide) (by decide), g 9 q (by decide) (by decide) (by decide)]; exact wm q hq
  · rw [g0] at hq
    rw [g1 0 (by decide)]
    by_cases e : (q : Int) = D 1 10
    · have e8 : adE D a b 10 q = a := by unfold adE; rw [if_neg (by omega), if_pos ⟨e, by omega⟩]; rfl
      have e9 : adE D a b 11 q = b := by unfold adE; rw [if_neg (by omega), if_pos ⟨e, by omega⟩]; rfl
      rw [e8, e9]; exact ⟨h1, h2⟩
    · have e' : ∀ o, 2 ≤ o → adE D a b o q = D o q := fun o ho => by unfold adE; rw [if_neg (by omega), if_neg (fun z => e z.1)]
      rw [e' 10 (by omega), e' 11 (by omega)]; exact we q (by omega)
  · rw [g 12 0 (by decide) (by decide) (by decide)] at hk
    have := wc k hk
    rw [g 13 k (by decide) (by decide) (by decide), g 14 k (by decide) (by decide) (by decide), g 15 k (by decide) (by decide) (by decide), g 16 k (by decide) (by decide) (by decide), g 17 k (by decide) (by decide) (by decide), g 18 k (by decide) (by decide) (by decide)]
    unfold WFk at *; rw [g1 7 (by decide)]; exact this
  · rw [g 12 0 (by decide) (by decide) (by decide)] at hi
    rw [g 19 i (by decide) (by decide) (by decide), g 12 0 (by decide) (by decide) (by decide)]; exact wo.1 i hi
  · rw [g 12 0 (by decide) (by decide) (by decide)] at hj
    have := wo.2.1 i j hij hj
    unfold bef at *
    rw [g 19 i (by decide) (by decide) (by decide), g 19 j (by decide) (by decide) (by decide), g 13 _ (by decide) (by decide) (by decide), g 13 _ (by decide) (by decide) (by decide)]; exact this
  · rw [g 12 0 (by decide) (by decide) (by decide)] at hk
    obtain ⟨i, h1, h2⟩ := wo.2.2 k hk
    exact ⟨i, by rw [g 12 0 (by decide) (by decide) (by decide)]; exact h1, by rw [g 19 i (by decide) (by decide) (by decide)]; exact h2⟩
theorem kdv_WFk {D : zBk} {k v : Int} (hk : 0 ≤ k ∧ k ≤ 4) (h : loK k ≤ v ∧ v ≤ hiK D k) (hM : D 1 7 ≤ 8) : WFk D k v := by
  unfold loK hiK at h
  unfold WFk
  (repeat' split at h) <;> omega
/-! the run over the statements -/
abbrev zTr : Type := Int × zP × zBk
noncomputable def sct (t : Nat → Int) (n p : Nat) : Int := @ite Int (isW t n p 7) (Classical.propDecidable _) 0 (@ite Int (isW t n p 8) (Classical.propDecidable _) 1 (@ite Int (isW t n p 9) (Classical.propDecidable _) 2 (@ite Int (isW t n p 10) (Classical.propDecidable _) 3 (@ite Int (isW t n p 11) (Classical.propDecidable _) 4 (@ite Int (isW t n p 12) (Classical.propDecidable _) 5 (-1))))))
theorem sct_r (t : Nat → Int) (n p : Nat) : -1 ≤ sct t n p ∧ sct t n p ≤ 5 := by unfold sct; (repeat' split) <;> omega
noncomputable def lst (D : zBk) : Int := if D 1 0 = 0 then 0 else 5
def ful (D : zBk) (k : Int) : Prop := (k = 0 ∧ 8 ≤ D 1 0) ∨ (k = 3 ∧ 8 ≤ D 1 7) ∨ (k = 4 ∧ 12 ≤ D 1 10) ∨ (k = 5 ∧ 40 ≤ D 12 0)
def wth (t : Nat → Int) (n : Nat) (a : zTr) : Prop := a.1 ≤ sct t n a.2.1.1 ∧ sct t n a.2.1.1 ≤ lst a.2.2
def stp (t : Nat → Int) (n : Nat) (a b : zTr) : Prop := a.2.1.2.1 = 0 ∧ ¬ xK t n a.2.1.1 = 0 ∧
  ((¬ wth t n a ∧ b.1 = a.1 ∧ b.2.1 = pF t n a.2.1 1 ∧ lEq a.2.2 b.2.2) ∨
   (wth t n a ∧ ful a.2.2 (sct t n a.2.1.1) ∧ b.1 = a.1 ∧ b.2.1 = pF t n a.2.1 4 ∧ lEq a.2.2 b.2.2) ∨
   (wth t n a ∧ ¬ ful a.2.2 (sct t n a.2.1.1) ∧ b.1 = sct t n a.2.1.1 ∧ b.2.1 = sStS t n (sct t n a.2.1.1) a.2.2 (pN t n a.2.1) ∧ lEq (sBk t n (sct t n a.2.1.1) a.2.2 (pN t n a.2.1)) b.2.2))
def cTr (t : Nat → Int) (n : Nat) (X : Nat → zTr) (m : Nat) : Prop := (∀ i, i < m → stp t n (X i) (X (i + 1))) ∧ (∀ i, i ≤ m → WF (X i).2.2 ∧ (X i).2.1.1 ≤ n ∧ ((X i).2.1.2.1 = 0 → (X i).2.1.2.2 = -1)) ∧ (X 0).1 = 0 ∧ (X 0).2.1 = (0, 0, -1) ∧ ((X 0).2.2 1 0 = 0 ∧ (X 0).2.2 1 7 = 0 ∧ (X 0).2.2 1 10 = 0 ∧ (X 0).2.2 12 0 = 0)
noncomputable def cFin (t : Nat → Int) (n : Nat) (X : Nat → zTr) (m : Nat) : zP := if (X m).2.2 1 0 = 0 then pF t n (X m).2.1 1 else (X m).2.1
def xUp (X : Nat → zTr) (k : Nat) (a : zTr) : Nat → zTr := fun i => if i ≤ k then X i else a
theorem xUp_o {X : Nat → zTr} {k i : Nat} {a : zTr} (h : i ≤ k) : xUp X k a i = X i := if_pos h
theorem xUp_n {X : Nat → zTr} {k : Nat} {a : zTr} : xUp X k a (k + 1) = a := if_neg (by omega)
theorem cTr_up {t : Nat → Int} {n : Nat} {X : Nat → zTr} {k : Nat} {a : zTr} (h : cTr t n X k) (h1 : stp t n (X k) a) (h2 : WF a.2.2 ∧ a.2.1.1 ≤ n ∧ (a.2.1.2.1 = 0 → a.2.1.2.2 = -1)) : cTr t n (xUp X k a) (k + 1) := by
  obtain ⟨c1, c2, c3⟩ := h
  refine ⟨fun i hi => ?_, fun i hi => ?_, ?_⟩
  · by_cases e : i = k
    · subst e; rw [xUp_o (Nat.le_refl _), xUp_n]; exact h1
    · rw [xUp_o (by omega), xUp_o (by omega)]; exact c1 i (by omega)
  · by_cases e : i = k + 1
    · subst e; rw [xUp_n]; exact h2
    · rw [xUp_o (by omega)]; exact c2 i (by omega)
  · rw [xUp_o (Nat.zero_le _)]; exact c3
theorem q5_m {t : Nat → Int} {n : Nat} {D : zBk} {S : zP} (h : S.1 ≤ n) : S.1 ≤ (q5 t n D S).1 := by
  have a := pNew_m (t := t) (f := D 2) (P := D 1 0) h
  have b := pNum_m (t := t) (lo := 0) (hi := 9) a.2
  have c := pNum_m (t := t) (lo := 1450) (hi := 1999) b.2
  have d := pNum_m (t := t) (lo := pV t n (q2 t n D S).1) (hi := 1999) c.2
  have e := pSem_m (t := t) d.2
  exact Nat.le_trans a.1 (Nat.le_trans b.1 (Nat.le_trans c.1 (Nat.le_trans d.1 e.1)))
theorem w3_m {t : Nat → Int} {n : Nat} {S : zP} (h : S.1 ≤ n) : S.1 ≤ (w3 t n S).1 := by
  have c := pNum_m (t := t) (lo := 1450) (hi := 1999) h
  have d := pNum_m (t := t) (lo := pV t n S.1) (hi := 1999) c.2
  have e := pSem_m (t := t) d.2
  exact Nat.le_trans c.1 (Nat.le_trans d.1 e.1)
theorem o3_m {t : Nat → Int} {n : Nat} {D : zBk} {lo hi : Int} {S : zP} (h : S.1 ≤ n) : S.1 ≤ (o3 t n D lo hi S).1 := by
  have a := pPrn_m (t := t) (f := D 2) (P := D 1 0) h
  have b := pNum_m (t := t) (lo := lo) (hi := hi) a.2
  have e := pSem_m (t := t) b.2
  exact Nat.le_trans a.1 (Nat.le_trans b.1 e.1)
theorem u5_m {t : Nat → Int} {n : Nat} {D : zBk} {S : zP} (h : S.1 ≤ n) : S.1 ≤ (u5 t n D S).1 := by
  have a := pNum_m (t := t) (lo := 1) (hi := 999) h
  have b := pKd_m (t := t) a.2
  have c := pNum_m (t := t) (lo := loK (kdv t n (u1 t n S).1)) (hi := hiK D (kdv t n (u1 t n S).1)) b.2
  have d := pNum_m (t := t) (lo := 1) (hi := 9) c.2
  have e := pSem_m (t := t) d.2
  exact Nat.le_trans a.1 (Nat.le_trans b.1 (Nat.le_trans c.1 (Nat.le_trans d.1 e.1)))
theorem sStS_m {t : Nat → Int} {n : Nat} {k : Int} {D : zBk} {S : zP} (h : S.1 ≤ n) : S.1 ≤ (sStS t n k D S).1 := by
  unfold sStS
  split
  · exact q5_m h
  · split
    · exact o3_m h
    · split
      · exact o3_m h
      · split
        · exact w3_m h
        · split
          · exact o3_m h
          · exact u5_m h
theorem stp_lt {t : Nat → Int} {n : Nat} {a b : zTr} (h : stp t n a b) (hn : a.2.1.1 ≤ n) (hb : b.2.1.2.1 = 0) : a.2.1.1 < b.2.1.1 := by
  obtain ⟨h0, hk, h | h | h⟩ := h
  · rw [h.2.2.1] at hb; exact absurd hb (pF_nz (by decide))
  · rw [h.2.2.2.1] at hb; exact absurd hb (pF_nz (by decide))
  · have e1 := xE_lt (t := t) hn hk
    have e2 := xS_le (t := t) hn
    have e3 := (pN_m (t := t) hn).2
    have e4 := sStS_m (t := t) (k := sct t n a.2.1.1) (D := a.2.2) e3
    rw [h.2.2.2.1]
    have e5 : (pN t n a.2.1).1 = xE t n a.2.1.1 := rfl
    omega
theorem cTr_pos {t : Nat → Int} {n : Nat} {X : Nat → zTr} {m : Nat} (h : cTr t n X m) : ∀ i, i ≤ m → (X i).2.1.2.1 = 0 → i ≤ (X i).2.1.1
  | 0, _, _ => Nat.zero_le _
  | i + 1, hi, h0 => by
    have s := h.1 i (by omega)
    have := cTr_pos h i (by omega) s.1
    have := stp_lt s (h.2.1 i (by omega)).2.1 h0
    omega
/-! additions to a book, in the cells -/
theorem adP_c {τ : zS} {x y u v : Int} (h : 0 ≤ τ.1 5 0) : pEq (adP (bk τ 4) x y u v) (bk (zput (zput (zput (zput (zput (zput (zput τ 6 (τ.1 5 0).toNat x) 7 (τ.1 5 0).toNat y) 8 (τ.1 5 0).toNat u) 9 (τ.1 5 0).toNat v) 10 (τ.1 5 0).toNat 0) 11 (τ.1 5 0).toNat 0) 5 0 (τ.1 5 0 + 1)) 4) := fun o ho i => by
  have e : ∀ a b, bk τ a b = τ.1 (a + b) := fun _ _ => rfl
  have e10 : bk τ 4 1 0 = τ.1 5 0 := rfl
  unfold adP
  rw [e10]
  show (zput _ _ _ _).1 (4 + o) i = _
  simp only [zput_e]
  rcases (by omega : o = 0 ∨ o = 1 ∨ o = 2 ∨ o = 3 ∨ o = 4 ∨ o = 5 ∨ o = 6 ∨ o = 7 ∨ 8 ≤ o) with rfl | rfl | rfl | rfl | rfl | rfl | rfl | rfl | h8
  all_goals (repeat' split) <;> first | rfl | omega
theorem adM_c {τ : zS} {x y : Int} (h : 0 ≤ τ.1 5 7) : pEq (adM (bk τ 4) x y) (bk (zput (zput (zput τ 12 (τ.1 5 7).toNat x) 13 (τ.1 5 7).toNat y) 5 7 (τ.1 5 7 + 1)) 4) := fun o ho i => by
  have e10 : bk τ 4 1 7 = τ.1 5 7 := rfl
  unfold adM
  rw [e10]
  show (zput _ _ _ _).1 (4 + o) i = _
  simp only [zput_e]
  rcases (by omega : o = 1 ∨ o = 8 ∨ o = 9 ∨ (o ≠ 1 ∧ o ≠ 8 ∧ o ≠ 9)) with rfl | rfl | rfl | h8
  all_goals (repeat' split) <;> first | rfl | omega
theorem adE_c {τ : zS} {x y : Int} (h : 0 ≤ τ.1 5 10) : pEq (adE (bk τ 4) x y) (bk (zput (zput (zput τ 14 (τ.1 5 10).toNat x) 15 (τ.1 5 10).toNat y) 5 10 (τ.1 5 10 + 1)) 4) := fun o ho i => by
  have e10 : bk τ 4 1 10 = τ.1 5 10 := rfl
  unfold adE
  rw [e10]
  show (zput _ _ _ _).1 (4 + o) i = _
  simp only [zput_e]
  rcases (by omega : o = 1 ∨ o = 10 ∨ o = 11 ∨ (o ≠ 1 ∧ o ≠ 10 ∧ o ≠ 11)) with rfl | rfl | rfl | h8
  all_goals (repeat' split) <;> first | rfl | omega
theorem pEq_aP {D D' : zBk} {x y u v : Int} (h : pEq D D') : pEq (adP D x y u v) (adP D' x y u v) := fun o ho i => by
  unfold adP; rw [h 1 (by omega) 0]; split
  · rfl
  · split
    · rfl
    · exact h o ho i
theorem pEq_aM {D D' : zBk} {x y : Int} (h : pEq D D') : pEq (adM D x y) (adM D' x y) := fun o ho i => by
  unfold adM; rw [h 1 (by omega) 7]; split
  · rfl
  · split
    · rfl
    · exact h o ho i
theorem pEq_aE {D D' : zBk} {x y : Int} (h : pEq D D') : pEq (adE D x y) (adE D' x y) := fun o ho i => by
  unfold adE; rw [h 1 (by omega) 10]; split
  · rfl
  · split
    · rfl
    · exact h o ho i
theorem bk_same {σ τ : zS} (h : zSame (fun q => q = 1) σ τ) : pEq (bk σ 4) (bk τ 4) := fun o _ i => h.1 (4 + o) (by dsimp only; omega) i

set_option maxRecDepth 20000 in
set_option maxHeartbeats 2000000 in
theorem sX4_takePrinterStatement {l : Launch} {w : zW} (hfl : l.stackTraces = false) {σ : zS} {t : Nat → Int} {n : Nat} {S : zP}  (hz : zOK σ) (hW : WF (bk σ 4)) (hb : bbK σ 4) (hP : PC t n S σ) (h8 : σ.1 5 0 < 8) : Sp l w mX4_takePrinterStatement 3 0 [zf 4 3, zf 6 1] σ (zqv (none) (fun τ => zOK τ ∧ zSame (fun q => q = 1 ∨ (4 ≤ q ∧ q ≤ 23)) σ τ ∧ PC t n (q5 t n (bk σ 4) S) τ ∧ WF (bk τ 4) ∧ bbK τ 4 ∧ lEq (if (q5 t n (bk σ 4) S).2.1 = 0 then adP (bk σ 4) (nmv t n S) (pV t n (q1 t n (bk σ 4) S).1) (pV t n (q2 t n (bk σ 4) S).1) (pV t n (q3 t n (bk σ 4) S).1) else bk σ 4) (bk τ 4))) := by
  obtain ⟨Q, hQ⟩ : ∃ Q : zQ, Q = (zqv (none) (fun τ => zOK τ ∧ zSame (fun q => q = 1 ∨ (4 ≤ q ∧ q ≤ 23)) σ τ ∧ PC t n (q5 t n (bk σ 4) S) τ ∧ WF (bk τ 4) ∧ bbK τ 4 ∧ lEq (if (q5 t n (bk σ 4) S).2.1 = 0 then adP (bk σ 4) (nmv t n S) (pV t n (q1 t n (bk σ 4) S).1) (pV t n (q2 t n (bk σ 4) S).1) (pV t n (q3 t n (bk σ 4) S).1) else bk σ 4) (bk τ 4))) := ⟨_, rfl⟩
  rw [← hQ]
  refine zx_enter hfl (by decide) rfl 4 rfl ?_
  show zX l w mX4_takePrinterStatement (zMQ w 3 0 Q) 0 [zf 4 3, zf 6 1, zu, zu, zu, zu] [] 0 σ
  have hP4 : 0 ≤ σ.1 5 0 ∧ σ.1 5 0 ≤ 8 := hW.1.1
  have hM4 : 0 ≤ σ.1 5 7 ∧ σ.1 5 7 ≤ 8 := hW.1.2.1
  have hE4 : 0 ≤ σ.1 5 10 ∧ σ.1 5 10 ≤ 12 := hW.1.2.2.1
  have hK4 : 0 ≤ σ.1 16 0 ∧ σ.1 16 0 ≤ 40 := hW.1.2.2.2
  have hpp := hP.2.2.1
  refine zx_aloadN dX4_takePrinterStatement_0 rfl rfl ?_
  refine zx_aloadN dX4_takePrinterStatement_1 rfl rfl ?_
  refine zy_getR (q' := 4) fl_RX4_12 rfl dX4_takePrinterStatement_2 rfl ?_
  refine zy_getR (q' := 5) fl_RX4_34 rfl dX4_takePrinterStatement_5 rfl ?_
  refine zy_cvR [zf 0 5] (sX6_takeNewName (S := S) (a := 5) hfl hz (by first | assumption | omega) (by first | assumption | omega)) dX4_takePrinterStatement_8 (by decide) rfl cw_RX4_109 okX6_takeNewName rfl (Nat.le_of_ble_eq_true rfl) ⟨Nat.le_of_ble_eq_true rfl, Nat.le_of_ble_eq_true rfl, Nat.le_of_ble_eq_true rfl, Nat.le_of_ble_eq_true rfl⟩ (fun τ8 hr8 => ?_)
  have hz8 : zOK τ8 := hr8.1
  have hq8 : PC t n (q1 t n (bk σ 4) S) τ8 := hr8.2.2
  have hzn := nmv_z t n S hpp
  refine zy_istoreN [zf 4 3, zf 6 1, zi (nmv t n S), zu, zu, zu] dX4_takePrinterStatement_11 rfl (Nat.le_of_ble_eq_true rfl) (Nat.le_of_ble_eq_true rfl) rfl rfl ?_
  refine zx_aloadN dX4_takePrinterStatement_12 rfl rfl ?_
  refine zx_iconst dX4_takePrinterStatement_13 ?_
  refine zx_bipush dX4_takePrinterStatement_14 rfl ?_
  refine zy_cvR [zi 0, zi 9] (sX6_takeNumber (S := (q1 t n (bk σ 4) S)) hfl hz8 hq8 (by first | exact hz8 _ _ | assumption | exact zr_b _ | exact zcmp_r _ _ | (unfold zr at *; omega)) (by first | exact hz8 _ _ | assumption | exact zr_b _ | exact zcmp_r _ _ | (unfold zr at *; omega))) dX4_takePrinterStatement_16 (by decide) rfl cw_RX4_113 okX6_takeNumber rfl (Nat.le_of_ble_eq_true rfl) ⟨Nat.le_of_ble_eq_true rfl, Nat.le_of_ble_eq_true rfl, Nat.le_of_ble_eq_true rfl, Nat.le_of_ble_eq_true rfl⟩ (fun τ16 hr16 => ?_)
  have hz16 : zOK τ16 := hr16.1
  refine zy_top (b := if (q2 t n (bk σ 4) S).2.1 = 0 then pV t n (q1 t n (bk σ 4) S).1 else 0) (rfl) ?_
  have hq16 : PC t n (q2 t n (bk σ 4) S) τ16 := hr16.2.2
  have hy16 : zr (if (q2 t n (bk σ 4) S).2.1 = 0 then pV t n (q1 t n (bk σ 4) S).1 else 0) := by split; (rename_i z; have := (pNum_s z).2.1; unfold zr; omega); (unfold zr; omega)
  refine zy_istoreN [zf 4 3, zf 6 1, zi (nmv t n S), zi (if (q2 t n (bk σ 4) S).2.1 = 0 then pV t n (q1 t n (bk σ 4) S).1 else 0), zu, zu] dX4_takePrinterStatement_19 rfl (Nat.le_of_ble_eq_true rfl) (Nat.le_of_ble_eq_true rfl) rfl rfl ?_
  refine zx_aloadN dX4_takePrinterStatement_20 rfl rfl ?_
  refine zx_sipush dX4_takePrinterStatement_21 rfl ?_
  refine zx_sipush dX4_takePrinterStatement_24 rfl ?_
  refine zy_cvR [zi 1450, zi 1999] (sX6_takeNumber (S := (q2 t n (bk σ 4) S)) hfl hz16 hq16 (by first | exact hz16 _ _ | assumption | exact zr_b _ | exact zcmp_r _ _ | (unfold zr at *; omega)) (by first | exact hz16 _ _ | assumption | exact zr_b _ | exact zcmp_r _ _ | (unfold zr at *; omega))) dX4_takePrinterStatement_27 (by decide) rfl cw_RX4_113 okX6_takeNumber rfl (Nat.le_of_ble_eq_true rfl) ⟨Nat.le_of_ble_eq_true rfl, Nat.le_of_ble_eq_true rfl, Nat.le_of_ble_eq_true rfl, Nat.le_of_ble_eq_true rfl⟩ (fun τ27 hr27 => ?_)
  have hz27 : zOK τ27 := hr27.1
  refine zy_top (b := if (q3 t n (bk σ 4) S).2.1 = 0 then pV t n (q2 t n (bk σ 4) S).1 else 0) (rfl) ?_
  have hq27 : PC t n (q3 t n (bk σ 4) S) τ27 := hr27.2.2
  have hy27 : zr (if (q3 t n (bk σ 4) S).2.1 = 0 then pV t n (q2 t n (bk σ 4) S).1 else 0) := by split; (rename_i z; have := (pNum_s z).2.1; unfold zr; omega); (unfold zr; omega)
  refine zy_istore [zf 4 3, zf 6 1, zi (nmv t n S), zi (if (q2 t n (bk σ 4) S).2.1 = 0 then pV t n (q1 t n (bk σ 4) S).1 else 0), zi (if (q3 t n (bk σ 4) S).2.1 = 0 then pV t n (q2 t n (bk σ 4) S).1 else 0), zu] dX4_takePrinterStatement_30 (Nat.le_of_ble_eq_true rfl) (Nat.le_of_ble_eq_true rfl) rfl rfl ?_
  refine zx_aloadN dX4_takePrinterStatement_32 rfl rfl ?_
  refine zx_iload dX4_takePrinterStatement_33 rfl ?_
  refine zx_sipush dX4_takePrinterStatement_35 rfl ?_
  refine zy_cvR [zi (if (q3 t n (bk σ 4) S).2.1 = 0 then pV t n (q2 t n (bk σ 4) S).1 else 0), zi 1999] (sX6_takeNumber (S := (q3 t n (bk σ 4) S)) hfl hz27 hq27 (by first | exact hz27 _ _ | assumption | exact zr_b _ | exact zcmp_r _ _ | (unfold zr at *; omega)) (by first | exact hz27 _ _ | assumption | exact zr_b _ | exact zcmp_r _ _ | (unfold zr at *; omega))) dX4_takePrinterStatement_38 (by decide) rfl cw_RX4_113 okX6_takeNumber rfl (Nat.le_of_ble_eq_true rfl) ⟨Nat.le_of_ble_eq_true rfl, Nat.le_of_ble_eq_true rfl, Nat.le_of_ble_eq_true rfl, Nat.le_of_ble_eq_true rfl⟩ (fun τ38 hr38 => ?_)
  have hz38 : zOK τ38 := hr38.1
  refine zy_top (b := if (q4 t n (bk σ 4) S).2.1 = 0 then pV t n (q3 t n (bk σ 4) S).1 else 0) (by rw [show pNum t n (q3 t n (bk σ 4) S) (if (q3 t n (bk σ 4) S).2.1 = 0 then pV t n (q2 t n (bk σ 4) S).1 else 0) 1999 = q4 t n (bk σ 4) S from pNum_lo (fun q => ⟨if_pos q, rfl⟩)]) ?_
  have e38 : pNum t n (q3 t n (bk σ 4) S) (if (q3 t n (bk σ 4) S).2.1 = 0 then pV t n (q2 t n (bk σ 4) S).1 else 0) 1999 = q4 t n (bk σ 4) S := pNum_lo (fun q => ⟨if_pos q, rfl⟩)
  have hq38 : PC t n (q4 t n (bk σ 4) S) τ38 := by rw [← e38]; exact hr38.2.2
  refine zy_istore [zf 4 3, zf 6 1, zi (nmv t n S), zi (if (q2 t n (bk σ 4) S).2.1 = 0 then pV t n (q1 t n (bk σ 4) S).1 else 0), zi (if (q3 t n (bk σ 4) S).2.1 = 0 then pV t n (q2 t n (bk σ 4) S).1 else 0), zi (if (q4 t n (bk σ 4) S).2.1 = 0 then pV t n (q3 t n (bk σ 4) S).1 else 0)] dX4_takePrinterStatement_41 (Nat.le_of_ble_eq_true rfl) (Nat.le_of_ble_eq_true rfl) rfl rfl ?_
  refine zx_aloadN dX4_takePrinterStatement_43 rfl rfl ?_
  refine zy_cvR [] (sX6_takeSemicolon (S := (q4 t n (bk σ 4) S)) hfl hz38 hq38) dX4_takePrinterStatement_44 (by decide) rfl cw_RX4_117 okX6_takeSemicolon rfl (Nat.le_of_ble_eq_true rfl) ⟨Nat.le_of_ble_eq_true rfl, Nat.le_of_ble_eq_true rfl, Nat.le_of_ble_eq_true rfl, Nat.le_of_ble_eq_true rfl⟩ (fun τ44 hr44 => ?_)
  have hz44 : zOK τ44 := hr44.1
  refine zy_top (b := zb ((q5 t n (bk σ 4) S).2.1 = 0)) (rfl) ?_
  have hq44 : PC t n (q5 t n (bk σ 4) S) τ44 := hr44.2.2
  have hfr : zSame (fun q => q = 1) σ τ44 := (zSame_tr (zSame_tr (zSame_tr (zSame_tr hr8.2.1 hr16.2.1 (fun _ q => q.elim id id)) hr27.2.1 (fun _ q => q.elim id id)) hr38.2.1 (fun _ q => q.elim id id)) hr44.2.1 (fun _ q => q.elim id id))
  have hpe := bk_same hfr
  have hWp := WF_eq (pEq_z hpe) hW
  have hbp : bbK τ44 4 := bb_pt (fun o ho i => hpe o ho i) hb
  have f50 : τ44.1 5 0 = σ.1 5 0 := hpe 1 (by omega) 0
  have f57 : τ44.1 5 7 = σ.1 5 7 := hpe 1 (by omega) 7
  have f510 : τ44.1 5 10 = σ.1 5 10 := hpe 1 (by omega) 10
  have f16 : τ44.1 16 0 = σ.1 16 0 := hpe 12 (by omega) 0
  refine zx_if_eq (tgt := 66) (by first | exact hz44 _ _ | assumption | exact zr_b _ | exact zcmp_r _ _ | (unfold zr at *; omega)) dX4_takePrinterStatement_47 (by decide) (fun h47 => ?_) (fun h47 => ?_)
  · have h47 := zb_0.mp h47
    refine zx_vret rfl dX4_takePrinterStatement_66 ?_
    rw [hQ]
    refine ⟨rfl, ?_⟩
    first
    | exact ⟨hz44, ⟨fun q hq i => hfr.1 q (by dsimp only at hq ⊢; omega) i, hfr.2⟩, hq44, hWp, hbp, by rw [if_neg (by assumption)]; exact pEq_l hpe⟩
    | (have had := adP_c (τ := τ44) (x := nmv t n S) (y := pV t n (q1 t n (bk σ 4) S).1) (u := pV t n (q2 t n (bk σ 4) S).1) (v := pV t n (q3 t n (bk σ 4) S).1) (by omega)
       have hWa := WF_adP (nm := nmv t n S) hW h8 s1.2.1 ⟨s2.2.1.1, s3.2.1⟩
       have hal := pEq_tr (pEq_aP hpe) had
       refine ⟨hz44, ⟨fun q hq i => by have hq2 := hq; dsimp only at hq2; simp only [zput_e]; (repeat' split) <;> first | omega | exact hfr.1 q (by dsimp only; omega) i, hfr.2⟩, ?_, WF_eq (pEq_z hal) hWa, bb_pt2 (fun i => by simp only [zput_e]; (repeat' split) <;> first | rfl | omega) (fun i => by simp only [zput_e]; (repeat' split) <;> first | rfl | omega) hbp, by rw [if_pos h47]; exact pEq_l hal⟩
       · obtain ⟨a1, a2, a3, a4, a5, a6⟩ := hq44
         exact ⟨a1, a2, a3, a4, a5, a6⟩)
  · have h47 := zb_n.mp h47
    have s4 := (pSem_s (t := t) (n := n) (S := q4 t n (bk σ 4) S) h47).1
    have s3 := pNum_s (t := t) (n := n) (S := q3 t n (bk σ 4) S) s4
    have s2 := pNum_s (t := t) (n := n) (S := q2 t n (bk σ 4) S) s3.1
    have s1 := pNum_s (t := t) (n := n) (S := q1 t n (bk σ 4) S) s2.1
    refine zx_aloadN dX4_takePrinterStatement_50 rfl rfl ?_
    refine zy_getR (q' := 4) fl_RX4_12 rfl dX4_takePrinterStatement_51 rfl ?_
    refine zy_getR (q' := 5) fl_RX4_34 rfl dX4_takePrinterStatement_54 rfl ?_
    refine zx_iloadN dX4_takePrinterStatement_57 rfl rfl ?_
    refine zx_iloadN dX4_takePrinterStatement_58 rfl rfl ?_
    refine zy_top (b := pV t n (q1 t n (bk σ 4) S).1) (if_pos s2.1) ?_
    refine zx_iload dX4_takePrinterStatement_59 rfl ?_
    refine zy_top (b := pV t n (q2 t n (bk σ 4) S).1) (if_pos s3.1) ?_
    refine zx_iload dX4_takePrinterStatement_61 rfl ?_
    refine zy_top (b := pV t n (q3 t n (bk σ 4) S).1) (if_pos s4) ?_
    refine zy_cvv [zi (nmv t n S), zi (pV t n (q1 t n (bk σ 4) S).1), zi (pV t n (q2 t n (bk σ 4) S).1), zi (pV t n (q3 t n (bk σ 4) S).1)] (sX0_addPrinter  hfl hz44 (by first | exact hz44 _ _ | assumption | exact zr_b _ | exact zcmp_r _ _ | (unfold zr at *; omega)) (by unfold zr; omega) (by unfold zr; omega) (by unfold zr; omega) (by omega)) dX4_takePrinterStatement_63 (by decide) rfl cw_RX4_120 okX0_addPrinter rfl (Nat.le_of_ble_eq_true rfl) ⟨Nat.le_of_ble_eq_true rfl, Nat.le_of_ble_eq_true rfl, Nat.le_of_ble_eq_true rfl, Nat.le_of_ble_eq_true rfl⟩ ?_
    refine zx_vret rfl dX4_takePrinterStatement_66 ?_
    rw [hQ]
    refine ⟨rfl, ?_⟩
    first
    | exact ⟨(by refine zOK_put (zOK_put (zOK_put (zOK_put (zOK_put (zOK_put (zOK_put hz44 ?_) ?_) ?_) ?_) ?_) ?_) ?_ <;> first | assumption | (unfold zr; omega)), ⟨fun q hq i => hfr.1 q (by dsimp only at hq ⊢; omega) i, hfr.2⟩, hq44, hWp, hbp, by rw [if_neg (by assumption)]; exact pEq_l hpe⟩
    | (have had := adP_c (τ := τ44) (x := nmv t n S) (y := pV t n (q1 t n (bk σ 4) S).1) (u := pV t n (q2 t n (bk σ 4) S).1) (v := pV t n (q3 t n (bk σ 4) S).1) (by omega)
       have hWa := WF_adP (nm := nmv t n S) hW h8 s1.2.1 ⟨s2.2.1.1, s3.2.1⟩
       have hal := pEq_tr (pEq_aP hpe) had
       refine ⟨(by refine zOK_put (zOK_put (zOK_put (zOK_put (zOK_put (zOK_put (zOK_put hz44 ?_) ?_) ?_) ?_) ?_) ?_) ?_ <;> first | assumption | (unfold zr; omega)), ⟨fun q hq i => by have hq2 := hq; dsimp only at hq2; simp only [zput_e]; (repeat' split) <;> first | omega | exact hfr.1 q (by dsimp only; omega) i, hfr.2⟩, ?_, WF_eq (pEq_z hal) hWa, bb_pt2 (fun i => by simp only [zput_e]; (repeat' split) <;> first | rfl | omega) (fun i => by simp only [zput_e]; (repeat' split) <;> first | rfl | omega) hbp, by rw [if_pos h47]; exact pEq_l hal⟩
       · obtain ⟨a1, a2, a3, a4, a5, a6⟩ := hq44
         exact ⟨a1, a2, a3, a4, a5, a6⟩)
set_option maxRecDepth 20000 in
set_option maxHeartbeats 2000000 in
theorem sX4_takeWatermarkStatement {l : Launch} {w : zW} (hfl : l.stackTraces = false) {σ : zS} {t : Nat → Int} {n : Nat} {S : zP}  (hz : zOK σ) (hW : WF (bk σ 4)) (hb : bbK σ 4) (hP : PC t n S σ) (h8 : σ.1 5 7 < 8) : Sp l w mX4_takeWatermarkStatement 3 0 [zf 4 3, zf 6 1] σ (zqv (none) (fun τ => zOK τ ∧ zSame (fun q => q = 1 ∨ (4 ≤ q ∧ q ≤ 23)) σ τ ∧ PC t n (w3 t n S) τ ∧ WF (bk τ 4) ∧ bbK τ 4 ∧ lEq (if (w3 t n S).2.1 = 0 then adM (bk σ 4) (pV t n S.1) (pV t n (w1 t n S).1) else bk σ 4) (bk τ 4))) := by
  obtain ⟨Q, hQ⟩ : ∃ Q : zQ, Q = (zqv (none) (fun τ => zOK τ ∧ zSame (fun q => q = 1 ∨ (4 ≤ q ∧ q ≤ 23)) σ τ ∧ PC t n (w3 t n S) τ ∧ WF (bk τ 4) ∧ bbK τ 4 ∧ lEq (if (w3 t n S).2.1 = 0 then adM (bk σ 4) (pV t n S.1) (pV t n (w1 t n S).1) else bk σ 4) (bk τ 4))) := ⟨_, rfl⟩
  rw [← hQ]
  refine zx_enter hfl (by decide) rfl 2 rfl ?_
  show zX l w mX4_takeWatermarkStatement (zMQ w 3 0 Q) 0 [zf 4 3, zf 6 1, zu, zu] [] 0 σ
  have hP4 : 0 ≤ σ.1 5 0 ∧ σ.1 5 0 ≤ 8 := hW.1.1
  have hM4 : 0 ≤ σ.1 5 7 ∧ σ.1 5 7 ≤ 8 := hW.1.2.1
  have hE4 : 0 ≤ σ.1 5 10 ∧ σ.1 5 10 ≤ 12 := hW.1.2.2.1
  have hK4 : 0 ≤ σ.1 16 0 ∧ σ.1 16 0 ≤ 40 := hW.1.2.2.2
  have hpp := hP.2.2.1
  refine zx_aloadN dX4_takeWatermarkStatement_0 rfl rfl ?_
  refine zx_sipush dX4_takeWatermarkStatement_1 rfl ?_
  refine zx_sipush dX4_takeWatermarkStatement_4 rfl ?_
  refine zy_cvR [zi 1450, zi 1999] (sX6_takeNumber (S := S) hfl hz (by first | assumption | omega) (by first | exact hz _ _ | assumption | exact zr_b _ | exact zcmp_r _ _ | (unfold zr at *; omega)) (by first | exact hz _ _ | assumption | exact zr_b _ | exact zcmp_r _ _ | (unfold zr at *; omega))) dX4_takeWatermarkStatement_7 (by decide) rfl cw_RX4_113 okX6_takeNumber rfl (Nat.le_of_ble_eq_true rfl) ⟨Nat.le_of_ble_eq_true rfl, Nat.le_of_ble_eq_true rfl, Nat.le_of_ble_eq_true rfl, Nat.le_of_ble_eq_true rfl⟩ (fun τ7 hr7 => ?_)
  have hz7 : zOK τ7 := hr7.1
  refine zy_top (b := if (w1 t n S).2.1 = 0 then pV t n (S).1 else 0) (rfl) ?_
  have hq7 : PC t n (w1 t n S) τ7 := hr7.2.2
  have hz7b : zr (if (w1 t n S).2.1 = 0 then pV t n (S).1 else 0) := by split; (rename_i z; have := (pNum_s z).2.1; unfold zr; omega); (unfold zr; omega)
  refine zy_istoreN [zf 4 3, zf 6 1, zi (if (w1 t n S).2.1 = 0 then pV t n (S).1 else 0), zu] dX4_takeWatermarkStatement_10 rfl (Nat.le_of_ble_eq_true rfl) (Nat.le_of_ble_eq_true rfl) rfl rfl ?_
  refine zx_aloadN dX4_takeWatermarkStatement_11 rfl rfl ?_
  refine zx_iloadN dX4_takeWatermarkStatement_12 rfl rfl ?_
  refine zx_sipush dX4_takeWatermarkStatement_13 rfl ?_
  refine zy_cvR [zi (if (w1 t n S).2.1 = 0 then pV t n (S).1 else 0), zi 1999] (sX6_takeNumber (S := (w1 t n S)) hfl hz7 hq7 (by first | exact hz7 _ _ | assumption | exact zr_b _ | exact zcmp_r _ _ | (unfold zr at *; omega)) (by first | exact hz7 _ _ | assumption | exact zr_b _ | exact zcmp_r _ _ | (unfold zr at *; omega))) dX4_takeWatermarkStatement_16 (by decide) rfl cw_RX4_113 okX6_takeNumber rfl (Nat.le_of_ble_eq_true rfl) ⟨Nat.le_of_ble_eq_true rfl, Nat.le_of_ble_eq_true rfl, Nat.le_of_ble_eq_true rfl, Nat.le_of_ble_eq_true rfl⟩ (fun τ16 hr16 => ?_)
  have hz16 : zOK τ16 := hr16.1
  refine zy_top (b := if (w2 t n S).2.1 = 0 then pV t n (w1 t n S).1 else 0) (by rw [show pNum t n (w1 t n S) (if (w1 t n S).2.1 = 0 then pV t n (S).1 else 0) 1999 = w2 t n S from pNum_lo (fun q => ⟨if_pos q, rfl⟩)]) ?_
  have e16 : pNum t n (w1 t n S) (if (w1 t n S).2.1 = 0 then pV t n (S).1 else 0) 1999 = w2 t n S := pNum_lo (fun q => ⟨if_pos q, rfl⟩)
  have hq16 : PC t n (w2 t n S) τ16 := by rw [← e16]; exact hr16.2.2
  refine zy_istoreN [zf 4 3, zf 6 1, zi (if (w1 t n S).2.1 = 0 then pV t n (S).1 else 0), zi (if (w2 t n S).2.1 = 0 then pV t n (w1 t n S).1 else 0)] dX4_takeWatermarkStatement_19 rfl (Nat.le_of_ble_eq_true rfl) (Nat.le_of_ble_eq_true rfl) rfl rfl ?_
  refine zx_aloadN dX4_takeWatermarkStatement_20 rfl rfl ?_
  refine zy_cvR [] (sX6_takeSemicolon (S := (w2 t n S)) hfl hz16 hq16) dX4_takeWatermarkStatement_21 (by decide) rfl cw_RX4_117 okX6_takeSemicolon rfl (Nat.le_of_ble_eq_true rfl) ⟨Nat.le_of_ble_eq_true rfl, Nat.le_of_ble_eq_true rfl, Nat.le_of_ble_eq_true rfl, Nat.le_of_ble_eq_true rfl⟩ (fun τ21 hr21 => ?_)
  have hz21 : zOK τ21 := hr21.1
  refine zy_top (b := zb ((w3 t n S).2.1 = 0)) (rfl) ?_
  have hq21 : PC t n (w3 t n S) τ21 := hr21.2.2
  have hfr : zSame (fun q => q = 1) σ τ21 := (zSame_tr (zSame_tr hr7.2.1 hr16.2.1 (fun _ q => q.elim id id)) hr21.2.1 (fun _ q => q.elim id id))
  have hpe := bk_same hfr
  have hWp := WF_eq (pEq_z hpe) hW
  have hbp : bbK τ21 4 := bb_pt (fun o ho i => hpe o ho i) hb
  have f50 : τ21.1 5 0 = σ.1 5 0 := hpe 1 (by omega) 0
  have f57 : τ21.1 5 7 = σ.1 5 7 := hpe 1 (by omega) 7
  have f510 : τ21.1 5 10 = σ.1 5 10 := hpe 1 (by omega) 10
  have f16 : τ21.1 16 0 = σ.1 16 0 := hpe 12 (by omega) 0
  refine zx_if_eq (tgt := 39) (by first | exact hz21 _ _ | assumption | exact zr_b _ | exact zcmp_r _ _ | (unfold zr at *; omega)) dX4_takeWatermarkStatement_24 (by decide) (fun h24 => ?_) (fun h24 => ?_)
  · have h24 := zb_0.mp h24
    refine zx_vret rfl dX4_takeWatermarkStatement_39 ?_
    rw [hQ]
    refine ⟨rfl, ?_⟩
    first
    | exact ⟨hz21, ⟨fun q hq i => hfr.1 q (by dsimp only at hq ⊢; omega) i, hfr.2⟩, hq21, hWp, hbp, by rw [if_neg (by assumption)]; exact pEq_l hpe⟩
    | (have hal := pEq_tr (pEq_aM hpe) (adM_c (τ := τ21) (x := pV t n S.1) (y := pV t n (w1 t n S).1) (by omega))
       have hWa := WF_adM hW h8 ⟨s0.2.1.1, s1.2.1⟩
       refine ⟨hz21, ⟨fun q hq i => by have hq2 := hq; dsimp only at hq2; simp only [zput_e]; (repeat' split) <;> first | omega | exact hfr.1 q (by dsimp only; omega) i, hfr.2⟩, ?_, WF_eq (pEq_z hal) hWa, bb_pt2 (fun i => by simp only [zput_e]; (repeat' split) <;> first | rfl | omega) (fun i => by simp only [zput_e]; (repeat' split) <;> first | rfl | omega) hbp, by rw [if_pos h24]; exact pEq_l hal⟩
       · obtain ⟨a1, a2, a3, a4, a5, a6⟩ := hq21
         exact ⟨a1, a2, a3, a4, a5, a6⟩)
  · have h24 := zb_n.mp h24
    have s2 := (pSem_s (t := t) (n := n) (S := w2 t n S) h24).1
    have s1 := pNum_s (t := t) (n := n) (S := w1 t n S) s2
    have s0 := pNum_s (t := t) (n := n) (S := S) s1.1
    refine zx_aloadN dX4_takeWatermarkStatement_27 rfl rfl ?_
    refine zy_getR (q' := 4) fl_RX4_12 rfl dX4_takeWatermarkStatement_28 rfl ?_
    refine zy_getR (q' := 5) fl_RX4_34 rfl dX4_takeWatermarkStatement_31 rfl ?_
    refine zx_iloadN dX4_takeWatermarkStatement_34 rfl rfl ?_
    refine zy_top (b := pV t n S.1) (if_pos s1.1) ?_
    refine zx_iloadN dX4_takeWatermarkStatement_35 rfl rfl ?_
    refine zy_top (b := pV t n (w1 t n S).1) (if_pos s2) ?_
    refine zy_cvv [zi (pV t n S.1), zi (pV t n (w1 t n S).1)] (sX0_addWatermark  hfl hz21 (by unfold zr; omega) (by unfold zr; omega) (by omega)) dX4_takeWatermarkStatement_36 (by decide) rfl cw_RX4_124 okX0_addWatermark rfl (Nat.le_of_ble_eq_true rfl) ⟨Nat.le_of_ble_eq_true rfl, Nat.le_of_ble_eq_true rfl, Nat.le_of_ble_eq_true rfl, Nat.le_of_ble_eq_true rfl⟩ ?_
    refine zx_vret rfl dX4_takeWatermarkStatement_39 ?_
    rw [hQ]
    refine ⟨rfl, ?_⟩
    first
    | exact ⟨(by refine zOK_put (zOK_put (zOK_put hz21 ?_) ?_) ?_ <;> first | assumption | (unfold zr; omega)), ⟨fun q hq i => hfr.1 q (by dsimp only at hq ⊢; omega) i, hfr.2⟩, hq21, hWp, hbp, by rw [if_neg (by assumption)]; exact pEq_l hpe⟩
    | (have hal := pEq_tr (pEq_aM hpe) (adM_c (τ := τ21) (x := pV t n S.1) (y := pV t n (w1 t n S).1) (by omega))
       have hWa := WF_adM hW h8 ⟨s0.2.1.1, s1.2.1⟩
       refine ⟨(by refine zOK_put (zOK_put (zOK_put hz21 ?_) ?_) ?_ <;> first | assumption | (unfold zr; omega)), ⟨fun q hq i => by have hq2 := hq; dsimp only at hq2; simp only [zput_e]; (repeat' split) <;> first | omega | exact hfr.1 q (by dsimp only; omega) i, hfr.2⟩, ?_, WF_eq (pEq_z hal) hWa, bb_pt2 (fun i => by simp only [zput_e]; (repeat' split) <;> first | rfl | omega) (fun i => by simp only [zput_e]; (repeat' split) <;> first | rfl | omega) hbp, by rw [if_pos h24]; exact pEq_l hal⟩
       · obtain ⟨a1, a2, a3, a4, a5, a6⟩ := hq21
         exact ⟨a1, a2, a3, a4, a5, a6⟩)
set_option maxRecDepth 20000 in
set_option maxHeartbeats 2000000 in
theorem sX4_takeStatementOfPrinter_1 {l : Launch} {w : zW} (hfl : l.stackTraces = false) {σ : zS} {t : Nat → Int} {n : Nat} {S : zP} {x : Int} (hz : zOK σ) (hW : WF (bk σ 4)) (hb : bbK σ 4) (hP : PC t n S σ) (hs : x = 1) : Sp l w mX4_takeStatementOfPrinter 3 0 [zf 4 3, zf 6 1, zi x] σ (zqv (none) (fun τ => zOK τ ∧ zSame (fun q => q = 1 ∨ (4 ≤ q ∧ q ≤ 23)) σ τ ∧ PC t n (o3 t n (bk σ 4) 0 31 S) τ ∧ WF (bk τ 4) ∧ bbK τ 4 ∧ lEq (if (o3 t n (bk σ 4) 0 31 S).2.1 = 0 then ov (bk σ 4) 6 (nmP t n (bk σ 4) S) (zor (bk σ 4 6 (nmP t n (bk σ 4) S)) (zshl 1 (pV t n (o1 t n (bk σ 4) S).1))) else bk σ 4) (bk τ 4))) := by
  obtain ⟨Q, hQ⟩ : ∃ Q : zQ, Q = (zqv (none) (fun τ => zOK τ ∧ zSame (fun q => q = 1 ∨ (4 ≤ q ∧ q ≤ 23)) σ τ ∧ PC t n (o3 t n (bk σ 4) 0 31 S) τ ∧ WF (bk τ 4) ∧ bbK τ 4 ∧ lEq (if (o3 t n (bk σ 4) 0 31 S).2.1 = 0 then ov (bk σ 4) 6 (nmP t n (bk σ 4) S) (zor (bk σ 4 6 (nmP t n (bk σ 4) S)) (zshl 1 (pV t n (o1 t n (bk σ 4) S).1))) else bk σ 4) (bk τ 4))) := ⟨_, rfl⟩
  rw [← hQ]
  refine zx_enter hfl (by decide) rfl 4 rfl ?_
  show zX l w mX4_takeStatementOfPrinter (zMQ w 3 0 Q) 0 [zf 4 3, zf 6 1, zi x, zu, zu, zu, zu] [] 0 σ
  have hP4 : 0 ≤ σ.1 5 0 ∧ σ.1 5 0 ≤ 8 := hW.1.1
  have hM4 : 0 ≤ σ.1 5 7 ∧ σ.1 5 7 ≤ 8 := hW.1.2.1
  have hE4 : 0 ≤ σ.1 5 10 ∧ σ.1 5 10 ≤ 12 := hW.1.2.2.1
  have hK4 : 0 ≤ σ.1 16 0 ∧ σ.1 16 0 ≤ 40 := hW.1.2.2.2
  have hpp := hP.2.2.1
  have hfr0 := fz_r (σ.1 6) hP4 (nmv t n S)
  refine zx_aloadN dX4_takeStatementOfPrinter_0 rfl rfl ?_
  refine zx_aloadN dX4_takeStatementOfPrinter_1 rfl rfl ?_
  refine zy_getR (q' := 4) fl_RX4_12 rfl dX4_takeStatementOfPrinter_2 rfl ?_
  refine zy_getR (q' := 5) fl_RX4_34 rfl dX4_takeStatementOfPrinter_5 rfl ?_
  refine zy_cvR [zf 0 5] (sX6_takePrinter (S := S) (a := 5) hfl hz (by first | assumption | omega) (by first | assumption | omega)) dX4_takeStatementOfPrinter_8 (by decide) rfl cw_RX4_128 okX6_takePrinter rfl (Nat.le_of_ble_eq_true rfl) ⟨Nat.le_of_ble_eq_true rfl, Nat.le_of_ble_eq_true rfl, Nat.le_of_ble_eq_true rfl, Nat.le_of_ble_eq_true rfl⟩ (fun τ8 hr8 => ?_)
  refine zy_top (b := fz (σ.1 6) (σ.1 5 0) (nmv t n S)) rfl ?_
  have hz8 : zOK τ8 := hr8.1
  have hq8 : PC t n (o1 t n (bk σ 4) S) τ8 := hr8.2.2
  refine zy_istoreN [zf 4 3, zf 6 1, zi x, zi (fz (σ.1 6) (σ.1 5 0) (nmv t n S)), zu, zu, zu] dX4_takeStatementOfPrinter_11 rfl (Nat.le_of_ble_eq_true rfl) (Nat.le_of_ble_eq_true rfl) rfl rfl ?_
  refine zx_iloadN dX4_takeStatementOfPrinter_12 rfl rfl ?_
  refine zy_top (b := 1) (hs) ?_
  refine zx_iconst dX4_takeStatementOfPrinter_13 ?_
  refine zx_icmp_ne (tgt := 23) (by first | exact hz8 _ _ | assumption | exact zr_b _ | exact zcmp_r _ _ | (unfold zr at *; omega)) (by first | exact hz8 _ _ | assumption | exact zr_b _ | exact zcmp_r _ _ | (unfold zr at *; omega)) dX4_takeStatementOfPrinter_14 (by decide) (fun h14 => ?_) (fun h14 => ?_)
  · refine zx_iconst dX4_takeStatementOfPrinter_23 ?_
    refine zy_istore [zf 4 3, zf 6 1, zi x, zi (fz (σ.1 6) (σ.1 5 0) (nmv t n S)), zi 0, zu, zu] dX4_takeStatementOfPrinter_24 (Nat.le_of_ble_eq_true rfl) (Nat.le_of_ble_eq_true rfl) rfl rfl ?_
    refine zx_iloadN dX4_takeStatementOfPrinter_26 rfl rfl ?_
    refine zy_top (b := 1) (hs) ?_
    refine zx_iconst dX4_takeStatementOfPrinter_27 ?_
    refine zx_icmp_ne (tgt := 37) (by first | exact hz8 _ _ | assumption | exact zr_b _ | exact zcmp_r _ _ | (unfold zr at *; omega)) (by first | exact hz8 _ _ | assumption | exact zr_b _ | exact zcmp_r _ _ | (unfold zr at *; omega)) dX4_takeStatementOfPrinter_28 (by decide) (fun h28 => ?_) (fun h28 => ?_)
    · refine zx_iloadN dX4_takeStatementOfPrinter_37 rfl rfl ?_
      refine zy_top (b := 1) (hs) ?_
      refine zx_iconst dX4_takeStatementOfPrinter_38 ?_
      refine zx_icmp_ne (tgt := 47) (by first | exact hz8 _ _ | assumption | exact zr_b _ | exact zcmp_r _ _ | (unfold zr at *; omega)) (by first | exact hz8 _ _ | assumption | exact zr_b _ | exact zcmp_r _ _ | (unfold zr at *; omega)) dX4_takeStatementOfPrinter_39 (by decide) (fun h39 => ?_) (fun h39 => ?_)
      · exact absurd h39 (by decide)
      · refine zx_bipush dX4_takeStatementOfPrinter_42 rfl ?_
        refine zx_goto (tgt := 49) dX4_takeStatementOfPrinter_44 (by decide) ?_
        refine zy_istore [zf 4 3, zf 6 1, zi x, zi (fz (σ.1 6) (σ.1 5 0) (nmv t n S)), zi 0, zi 31, zu] dX4_takeStatementOfPrinter_49 (Nat.le_of_ble_eq_true rfl) (Nat.le_of_ble_eq_true rfl) rfl rfl ?_
        refine zx_aloadN dX4_takeStatementOfPrinter_51 rfl rfl ?_
        refine zx_iload dX4_takeStatementOfPrinter_52 rfl ?_
        refine zx_iload dX4_takeStatementOfPrinter_54 rfl ?_
        refine zy_cvR [zi 0, zi 31] (sX6_takeNumber (S := (o1 t n (bk σ 4) S)) hfl hz8 hq8 (by first | exact hz8 _ _ | assumption | exact zr_b _ | exact zcmp_r _ _ | (unfold zr at *; omega)) (by first | exact hz8 _ _ | assumption | exact zr_b _ | exact zcmp_r _ _ | (unfold zr at *; omega))) dX4_takeStatementOfPrinter_56 (by decide) rfl cw_RX4_113 okX6_takeNumber rfl (Nat.le_of_ble_eq_true rfl) ⟨Nat.le_of_ble_eq_true rfl, Nat.le_of_ble_eq_true rfl, Nat.le_of_ble_eq_true rfl, Nat.le_of_ble_eq_true rfl⟩ (fun τ56 hr56 => ?_)
        have hz56 : zOK τ56 := hr56.1
        refine zy_top (b := if (o2 t n (bk σ 4) 0 31 S).2.1 = 0 then pV t n (o1 t n (bk σ 4) S).1 else 0) (rfl) ?_
        have hq56 : PC t n (o2 t n (bk σ 4) 0 31 S) τ56 := hr56.2.2
        refine zy_istore [zf 4 3, zf 6 1, zi x, zi (fz (σ.1 6) (σ.1 5 0) (nmv t n S)), zi 0, zi 31, zi (if (o2 t n (bk σ 4) 0 31 S).2.1 = 0 then pV t n (o1 t n (bk σ 4) S).1 else 0)] dX4_takeStatementOfPrinter_59 (Nat.le_of_ble_eq_true rfl) (Nat.le_of_ble_eq_true rfl) rfl rfl ?_
        refine zx_aloadN dX4_takeStatementOfPrinter_61 rfl rfl ?_
        refine zy_cvR [] (sX6_takeSemicolon (S := (o2 t n (bk σ 4) 0 31 S)) hfl hz56 hq56) dX4_takeStatementOfPrinter_62 (by decide) rfl cw_RX4_117 okX6_takeSemicolon rfl (Nat.le_of_ble_eq_true rfl) ⟨Nat.le_of_ble_eq_true rfl, Nat.le_of_ble_eq_true rfl, Nat.le_of_ble_eq_true rfl, Nat.le_of_ble_eq_true rfl⟩ (fun τ62 hr62 => ?_)
        have hz62 : zOK τ62 := hr62.1
        refine zy_top (b := zb ((o3 t n (bk σ 4) 0 31 S).2.1 = 0)) (rfl) ?_
        have hq62 : PC t n (o3 t n (bk σ 4) 0 31 S) τ62 := hr62.2.2
        have hfr : zSame (fun q => q = 1) σ τ62 := (zSame_tr (zSame_tr hr8.2.1 hr56.2.1 (fun _ q => q.elim id id)) hr62.2.1 (fun _ q => q.elim id id))
        have hpe := bk_same hfr
        have hWp := WF_eq (pEq_z hpe) hW
        have hbp : bbK τ62 4 := bb_pt (fun o ho i => hpe o ho i) hb
        have f50 : τ62.1 5 0 = σ.1 5 0 := hpe 1 (by omega) 0
        have f57 : τ62.1 5 7 = σ.1 5 7 := hpe 1 (by omega) 7
        have f510 : τ62.1 5 10 = σ.1 5 10 := hpe 1 (by omega) 10
        have f16 : τ62.1 16 0 = σ.1 16 0 := hpe 12 (by omega) 0
        refine zx_if_ne (tgt := 69) (by first | exact hz62 _ _ | assumption | exact zr_b _ | exact zcmp_r _ _ | (unfold zr at *; omega)) dX4_takeStatementOfPrinter_65 (by decide) (fun h65 => ?_) (fun h65 => ?_)
        · have h65 := zb_n.mp h65
          have s2 := (pSem_s (t := t) (n := n) (S := o2 t n (bk σ 4) 0 31 S) h65).1
          have s1 := pNum_s (t := t) (n := n) (S := o1 t n (bk σ 4) S) s2
          have s0 := pPrn_s (t := t) (n := n) (f := bk σ 4 2) (P := bk σ 4 1 0) (S := S) s1.1
          have hnn : ¬ fz (σ.1 6) (σ.1 5 0) (nmv t n S) = -1 := s0.2.2.1
          have hNP : fz (σ.1 6) (σ.1 5 0) (nmv t n S) = ((nmP t n (bk σ 4) S : Nat) : Int) := by show _ = (((fz (σ.1 6) (σ.1 5 0) (nmv t n S)).toNat : Nat) : Int); omega
          have hnp : ((nmP t n (bk σ 4) S : Nat) : Int) < σ.1 5 0 := by rw [← hNP]; omega
          refine zx_iloadN dX4_takeStatementOfPrinter_69 rfl rfl ?_
          refine zy_top (b := 1) (hs) ?_
          refine zx_iconst dX4_takeStatementOfPrinter_70 ?_
          refine zx_icmp_ne (tgt := 90) (by first | exact hz62 _ _ | assumption | exact zr_b _ | exact zcmp_r _ _ | (unfold zr at *; omega)) (by first | exact hz62 _ _ | assumption | exact zr_b _ | exact zcmp_r _ _ | (unfold zr at *; omega)) dX4_takeStatementOfPrinter_71 (by decide) (fun h71 => ?_) (fun h71 => ?_)
          · exact absurd h71 (by decide)
          · refine zx_aloadN dX4_takeStatementOfPrinter_74 rfl rfl ?_
            refine zy_getR (q' := 4) fl_RX4_12 rfl dX4_takeStatementOfPrinter_75 rfl ?_
            refine zy_getR (q' := 5) fl_RX4_34 rfl dX4_takeStatementOfPrinter_78 rfl ?_
            refine zx_iloadN dX4_takeStatementOfPrinter_81 rfl rfl ?_
            refine zy_top (b := ((nmP t n (bk σ 4) S : Nat) : Int)) (hNP) ?_
            refine zx_iload dX4_takeStatementOfPrinter_82 rfl ?_
            refine zy_top (b := pV t n (o1 t n (bk σ 4) S).1) (if_pos s2) ?_
            refine zy_cvv [zi ((nmP t n (bk σ 4) S : Nat) : Int), zi (pV t n (o1 t n (bk σ 4) S).1)] (sX0_giveDevice  hfl hz62 (by rw [f50]; exact hnp) (by omega) (by omega)) dX4_takeStatementOfPrinter_84 (by decide) rfl cw_RX4_131 okX0_giveDevice rfl (Nat.le_of_ble_eq_true rfl) ⟨Nat.le_of_ble_eq_true rfl, Nat.le_of_ble_eq_true rfl, Nat.le_of_ble_eq_true rfl, Nat.le_of_ble_eq_true rfl⟩ ?_
            refine zx_goto (tgt := 124) dX4_takeStatementOfPrinter_87 (by decide) ?_
            refine zx_vret rfl dX4_takeStatementOfPrinter_124 ?_
            rw [hQ]
            refine ⟨rfl, ?_⟩
            first
            | exact ⟨(zOK_put hz62 (zr_t _)), ⟨fun q hq i => hfr.1 q (by dsimp only at hq ⊢; omega) i, hfr.2⟩, hq62, hWp, hbp, by rw [if_neg (by assumption)]; exact pEq_l hpe⟩
            | (have hal : pEq (ov (bk σ 4) 6 (nmP t n (bk σ 4) S) (zor (bk σ 4 6 (nmP t n (bk σ 4) S)) (zshl 1 (pV t n (o1 t n (bk σ 4) S).1)))) (bk (zput τ62 10 (nmP t n (bk σ 4) S) (zor (τ62.1 10 (nmP t n (bk σ 4) S)) (zshl 1 (pV t n (o1 t n (bk σ 4) S).1)))) 4) := pEq_tr (fun o ho i => by show ov (bk τ62 4) 6 (nmP t n (bk σ 4) S) (zor (bk τ62 4 6 (nmP t n (bk σ 4) S)) _) o i = _; unfold ov; rw [hpe 6 (by omega)]; split; rfl; exact hpe o ho i) (put_ov (σ := τ62) (k := 4) (o := 6))
               have hWa := WF_ov7 (p := nmP t n (bk σ 4) S) (v := zor (bk σ 4 6 (nmP t n (bk σ 4) S)) (zshl 1 (pV t n (o1 t n (bk σ 4) S).1))) hW (Or.inl rfl)
               refine ⟨(zOK_put hz62 (zr_t _)), ⟨fun q hq i => by have hq2 := hq; dsimp only at hq2; simp only [zput_e]; (repeat' split) <;> first | omega | exact hfr.1 q (by dsimp only; omega) i, hfr.2⟩, ?_, WF_eq (pEq_z hal) hWa, bb_pt2 (fun i => by simp only [zput_e]; (repeat' split) <;> first | rfl | omega) (fun i => by simp only [zput_e]; (repeat' split) <;> first | rfl | omega) hbp, by rw [if_pos h65]; exact pEq_l hal⟩
               · obtain ⟨a1, a2, a3, a4, a5, a6⟩ := hq62
                 exact ⟨a1, a2, a3, a4, a5, a6⟩)
        · have h65 := zb_0.mp h65
          refine zx_vret rfl dX4_takeStatementOfPrinter_68 ?_
          rw [hQ]
          refine ⟨rfl, ?_⟩
          first
          | exact ⟨hz62, ⟨fun q hq i => hfr.1 q (by dsimp only at hq ⊢; omega) i, hfr.2⟩, hq62, hWp, hbp, by rw [if_neg (by assumption)]; exact pEq_l hpe⟩
          | (have hal : pEq (ov (bk σ 4) 6 (nmP t n (bk σ 4) S) (zor (bk σ 4 6 (nmP t n (bk σ 4) S)) (zshl 1 (pV t n (o1 t n (bk σ 4) S).1)))) (bk (zput τ62 10 (nmP t n (bk σ 4) S) (zor (τ62.1 10 (nmP t n (bk σ 4) S)) (zshl 1 (pV t n (o1 t n (bk σ 4) S).1)))) 4) := pEq_tr (fun o ho i => by show ov (bk τ62 4) 6 (nmP t n (bk σ 4) S) (zor (bk τ62 4 6 (nmP t n (bk σ 4) S)) _) o i = _; unfold ov; rw [hpe 6 (by omega)]; split; rfl; exact hpe o ho i) (put_ov (σ := τ62) (k := 4) (o := 6))
             have hWa := WF_ov7 (p := nmP t n (bk σ 4) S) (v := zor (bk σ 4 6 (nmP t n (bk σ 4) S)) (zshl 1 (pV t n (o1 t n (bk σ 4) S).1))) hW (Or.inl rfl)
             refine ⟨hz62, ⟨fun q hq i => by have hq2 := hq; dsimp only at hq2; simp only [zput_e]; (repeat' split) <;> first | omega | exact hfr.1 q (by dsimp only; omega) i, hfr.2⟩, ?_, WF_eq (pEq_z hal) hWa, bb_pt2 (fun i => by simp only [zput_e]; (repeat' split) <;> first | rfl | omega) (fun i => by simp only [zput_e]; (repeat' split) <;> first | rfl | omega) hbp, by rw [if_pos h65]; exact pEq_l hal⟩
             · obtain ⟨a1, a2, a3, a4, a5, a6⟩ := hq62
               exact ⟨a1, a2, a3, a4, a5, a6⟩)
    · exact absurd h28 (by decide)
  · exact absurd h14 (by decide)
set_option maxRecDepth 20000 in
set_option maxHeartbeats 2000000 in
theorem sX4_takeStatementOfPrinter_2 {l : Launch} {w : zW} (hfl : l.stackTraces = false) {σ : zS} {t : Nat → Int} {n : Nat} {S : zP} {x : Int} (hz : zOK σ) (hW : WF (bk σ 4)) (hb : bbK σ 4) (hP : PC t n S σ) (hs : x = 2) : Sp l w mX4_takeStatementOfPrinter 3 0 [zf 4 3, zf 6 1, zi x] σ (zqv (none) (fun τ => zOK τ ∧ zSame (fun q => q = 1 ∨ (4 ≤ q ∧ q ≤ 23)) σ τ ∧ PC t n (o3 t n (bk σ 4) 0 15 S) τ ∧ WF (bk τ 4) ∧ bbK τ 4 ∧ lEq (if (o3 t n (bk σ 4) 0 15 S).2.1 = 0 then ov (bk σ 4) 7 (nmP t n (bk σ 4) S) (zor (bk σ 4 7 (nmP t n (bk σ 4) S)) (zshl 1 (pV t n (o1 t n (bk σ 4) S).1))) else bk σ 4) (bk τ 4))) := by
  obtain ⟨Q, hQ⟩ : ∃ Q : zQ, Q = (zqv (none) (fun τ => zOK τ ∧ zSame (fun q => q = 1 ∨ (4 ≤ q ∧ q ≤ 23)) σ τ ∧ PC t n (o3 t n (bk σ 4) 0 15 S) τ ∧ WF (bk τ 4) ∧ bbK τ 4 ∧ lEq (if (o3 t n (bk σ 4) 0 15 S).2.1 = 0 then ov (bk σ 4) 7 (nmP t n (bk σ 4) S) (zor (bk σ 4 7 (nmP t n (bk σ 4) S)) (zshl 1 (pV t n (o1 t n (bk σ 4) S).1))) else bk σ 4) (bk τ 4))) := ⟨_, rfl⟩
  rw [← hQ]
  refine zx_enter hfl (by decide) rfl 4 rfl ?_
  show zX l w mX4_takeStatementOfPrinter (zMQ w 3 0 Q) 0 [zf 4 3, zf 6 1, zi x, zu, zu, zu, zu] [] 0 σ
  have hP4 : 0 ≤ σ.1 5 0 ∧ σ.1 5 0 ≤ 8 := hW.1.1
  have hM4 : 0 ≤ σ.1 5 7 ∧ σ.1 5 7 ≤ 8 := hW.1.2.1
  have hE4 : 0 ≤ σ.1 5 10 ∧ σ.1 5 10 ≤ 12 := hW.1.2.2.1
  have hK4 : 0 ≤ σ.1 16 0 ∧ σ.1 16 0 ≤ 40 := hW.1.2.2.2
  have hpp := hP.2.2.1
  have hfr0 := fz_r (σ.1 6) hP4 (nmv t n S)
  refine zx_aloadN dX4_takeStatementOfPrinter_0 rfl rfl ?_
  refine zx_aloadN dX4_takeStatementOfPrinter_1 rfl rfl ?_
  refine zy_getR (q' := 4) fl_RX4_12 rfl dX4_takeStatementOfPrinter_2 rfl ?_
  refine zy_getR (q' := 5) fl_RX4_34 rfl dX4_takeStatementOfPrinter_5 rfl ?_
  refine zy_cvR [zf 0 5] (sX6_takePrinter (S := S) (a := 5) hfl hz (by first | assumption | omega) (by first | assumption | omega)) dX4_takeStatementOfPrinter_8 (by decide) rfl cw_RX4_128 okX6_takePrinter rfl (Nat.le_of_ble_eq_true rfl) ⟨Nat.le_of_ble_eq_true rfl, Nat.le_of_ble_eq_true rfl, Nat.le_of_ble_eq_true rfl, Nat.le_of_ble_eq_true rfl⟩ (fun τ8 hr8 => ?_)
  refine zy_top (b := fz (σ.1 6) (σ.1 5 0) (nmv t n S)) rfl ?_
  have hz8 : zOK τ8 := hr8.1
  have hq8 : PC t n (o1 t n (bk σ 4) S) τ8 := hr8.2.2
  refine zy_istoreN [zf 4 3, zf 6 1, zi x, zi (fz (σ.1 6) (σ.1 5 0) (nmv t n S)), zu, zu, zu] dX4_takeStatementOfPrinter_11 rfl (Nat.le_of_ble_eq_true rfl) (Nat.le_of_ble_eq_true rfl) rfl rfl ?_
  refine zx_iloadN dX4_takeStatementOfPrinter_12 rfl rfl ?_
  refine zy_top (b := 2) (hs) ?_
  refine zx_iconst dX4_takeStatementOfPrinter_13 ?_
  refine zx_icmp_ne (tgt := 23) (by first | exact hz8 _ _ | assumption | exact zr_b _ | exact zcmp_r _ _ | (unfold zr at *; omega)) (by first | exact hz8 _ _ | assumption | exact zr_b _ | exact zcmp_r _ _ | (unfold zr at *; omega)) dX4_takeStatementOfPrinter_14 (by decide) (fun h14 => ?_) (fun h14 => ?_)
  · refine zx_iconst dX4_takeStatementOfPrinter_23 ?_
    refine zy_istore [zf 4 3, zf 6 1, zi x, zi (fz (σ.1 6) (σ.1 5 0) (nmv t n S)), zi 0, zu, zu] dX4_takeStatementOfPrinter_24 (Nat.le_of_ble_eq_true rfl) (Nat.le_of_ble_eq_true rfl) rfl rfl ?_
    refine zx_iloadN dX4_takeStatementOfPrinter_26 rfl rfl ?_
    refine zy_top (b := 2) (hs) ?_
    refine zx_iconst dX4_takeStatementOfPrinter_27 ?_
    refine zx_icmp_ne (tgt := 37) (by first | exact hz8 _ _ | assumption | exact zr_b _ | exact zcmp_r _ _ | (unfold zr at *; omega)) (by first | exact hz8 _ _ | assumption | exact zr_b _ | exact zcmp_r _ _ | (unfold zr at *; omega)) dX4_takeStatementOfPrinter_28 (by decide) (fun h28 => ?_) (fun h28 => ?_)
    · refine zx_iloadN dX4_takeStatementOfPrinter_37 rfl rfl ?_
      refine zy_top (b := 2) (hs) ?_
      refine zx_iconst dX4_takeStatementOfPrinter_38 ?_
      refine zx_icmp_ne (tgt := 47) (by first | exact hz8 _ _ | assumption | exact zr_b _ | exact zcmp_r _ _ | (unfold zr at *; omega)) (by first | exact hz8 _ _ | assumption | exact zr_b _ | exact zcmp_r _ _ | (unfold zr at *; omega)) dX4_takeStatementOfPrinter_39 (by decide) (fun h39 => ?_) (fun h39 => ?_)
      · refine zx_bipush dX4_takeStatementOfPrinter_47 rfl ?_
        refine zy_istore [zf 4 3, zf 6 1, zi x, zi (fz (σ.1 6) (σ.1 5 0) (nmv t n S)), zi 0, zi 15, zu] dX4_takeStatementOfPrinter_49 (Nat.le_of_ble_eq_true rfl) (Nat.le_of_ble_eq_true rfl) rfl rfl ?_
        refine zx_aloadN dX4_takeStatementOfPrinter_51 rfl rfl ?_
        refine zx_iload dX4_takeStatementOfPrinter_52 rfl ?_
        refine zx_iload dX4_takeStatementOfPrinter_54 rfl ?_
        refine zy_cvR [zi 0, zi 15] (sX6_takeNumber (S := (o1 t n (bk σ 4) S)) hfl hz8 hq8 (by first | exact hz8 _ _ | assumption | exact zr_b _ | exact zcmp_r _ _ | (unfold zr at *; omega)) (by first | exact hz8 _ _ | assumption | exact zr_b _ | exact zcmp_r _ _ | (unfold zr at *; omega))) dX4_takeStatementOfPrinter_56 (by decide) rfl cw_RX4_113 okX6_takeNumber rfl (Nat.le_of_ble_eq_true rfl) ⟨Nat.le_of_ble_eq_true rfl, Nat.le_of_ble_eq_true rfl, Nat.le_of_ble_eq_true rfl, Nat.le_of_ble_eq_true rfl⟩ (fun τ56 hr56 => ?_)
        have hz56 : zOK τ56 := hr56.1
        refine zy_top (b := if (o2 t n (bk σ 4) 0 15 S).2.1 = 0 then pV t n (o1 t n (bk σ 4) S).1 else 0) (rfl) ?_
        have hq56 : PC t n (o2 t n (bk σ 4) 0 15 S) τ56 := hr56.2.2
        refine zy_istore [zf 4 3, zf 6 1, zi x, zi (fz (σ.1 6) (σ.1 5 0) (nmv t n S)), zi 0, zi 15, zi (if (o2 t n (bk σ 4) 0 15 S).2.1 = 0 then pV t n (o1 t n (bk σ 4) S).1 else 0)] dX4_takeStatementOfPrinter_59 (Nat.le_of_ble_eq_true rfl) (Nat.le_of_ble_eq_true rfl) rfl rfl ?_
        refine zx_aloadN dX4_takeStatementOfPrinter_61 rfl rfl ?_
        refine zy_cvR [] (sX6_takeSemicolon (S := (o2 t n (bk σ 4) 0 15 S)) hfl hz56 hq56) dX4_takeStatementOfPrinter_62 (by decide) rfl cw_RX4_117 okX6_takeSemicolon rfl (Nat.le_of_ble_eq_true rfl) ⟨Nat.le_of_ble_eq_true rfl, Nat.le_of_ble_eq_true rfl, Nat.le_of_ble_eq_true rfl, Nat.le_of_ble_eq_true rfl⟩ (fun τ62 hr62 => ?_)
        have hz62 : zOK τ62 := hr62.1
        refine zy_top (b := zb ((o3 t n (bk σ 4) 0 15 S).2.1 = 0)) (rfl) ?_
        have hq62 : PC t n (o3 t n (bk σ 4) 0 15 S) τ62 := hr62.2.2
        have hfr : zSame (fun q => q = 1) σ τ62 := (zSame_tr (zSame_tr hr8.2.1 hr56.2.1 (fun _ q => q.elim id id)) hr62.2.1 (fun _ q => q.elim id id))
        have hpe := bk_same hfr
        have hWp := WF_eq (pEq_z hpe) hW
        have hbp : bbK τ62 4 := bb_pt (fun o ho i => hpe o ho i) hb
        have f50 : τ62.1 5 0 = σ.1 5 0 := hpe 1 (by omega) 0
        have f57 : τ62.1 5 7 = σ.1 5 7 := hpe 1 (by omega) 7
        have f510 : τ62.1 5 10 = σ.1 5 10 := hpe 1 (by omega) 10
        have f16 : τ62.1 16 0 = σ.1 16 0 := hpe 12 (by omega) 0
        refine zx_if_ne (tgt := 69) (by first | exact hz62 _ _ | assumption | exact zr_b _ | exact zcmp_r _ _ | (unfold zr at *; omega)) dX4_takeStatementOfPrinter_65 (by decide) (fun h65 => ?_) (fun h65 => ?_)
        · have h65 := zb_n.mp h65
          have s2 := (pSem_s (t := t) (n := n) (S := o2 t n (bk σ 4) 0 15 S) h65).1
          have s1 := pNum_s (t := t) (n := n) (S := o1 t n (bk σ 4) S) s2
          have s0 := pPrn_s (t := t) (n := n) (f := bk σ 4 2) (P := bk σ 4 1 0) (S := S) s1.1
          have hnn : ¬ fz (σ.1 6) (σ.1 5 0) (nmv t n S) = -1 := s0.2.2.1
          have hNP : fz (σ.1 6) (σ.1 5 0) (nmv t n S) = ((nmP t n (bk σ 4) S : Nat) : Int) := by show _ = (((fz (σ.1 6) (σ.1 5 0) (nmv t n S)).toNat : Nat) : Int); omega
          have hnp : ((nmP t n (bk σ 4) S : Nat) : Int) < σ.1 5 0 := by rw [← hNP]; omega
          refine zx_iloadN dX4_takeStatementOfPrinter_69 rfl rfl ?_
          refine zy_top (b := 2) (hs) ?_
          refine zx_iconst dX4_takeStatementOfPrinter_70 ?_
          refine zx_icmp_ne (tgt := 90) (by first | exact hz62 _ _ | assumption | exact zr_b _ | exact zcmp_r _ _ | (unfold zr at *; omega)) (by first | exact hz62 _ _ | assumption | exact zr_b _ | exact zcmp_r _ _ | (unfold zr at *; omega)) dX4_takeStatementOfPrinter_71 (by decide) (fun h71 => ?_) (fun h71 => ?_)
          · refine zx_iloadN dX4_takeStatementOfPrinter_90 rfl rfl ?_
            refine zy_top (b := 2) (hs) ?_
            refine zx_iconst dX4_takeStatementOfPrinter_91 ?_
            refine zx_icmp_ne (tgt := 111) (by first | exact hz62 _ _ | assumption | exact zr_b _ | exact zcmp_r _ _ | (unfold zr at *; omega)) (by first | exact hz62 _ _ | assumption | exact zr_b _ | exact zcmp_r _ _ | (unfold zr at *; omega)) dX4_takeStatementOfPrinter_92 (by decide) (fun h92 => ?_) (fun h92 => ?_)
            · exact absurd h92 (by decide)
            · refine zx_aloadN dX4_takeStatementOfPrinter_95 rfl rfl ?_
              refine zy_getR (q' := 4) fl_RX4_12 rfl dX4_takeStatementOfPrinter_96 rfl ?_
              refine zy_getR (q' := 5) fl_RX4_34 rfl dX4_takeStatementOfPrinter_99 rfl ?_
              refine zx_iloadN dX4_takeStatementOfPrinter_102 rfl rfl ?_
              refine zy_top (b := ((nmP t n (bk σ 4) S : Nat) : Int)) (hNP) ?_
              refine zx_iload dX4_takeStatementOfPrinter_103 rfl ?_
              refine zy_top (b := pV t n (o1 t n (bk σ 4) S).1) (if_pos s2) ?_
              refine zy_cvv [zi ((nmP t n (bk σ 4) S : Nat) : Int), zi (pV t n (o1 t n (bk σ 4) S).1)] (sX0_giveTypeface  hfl hz62 (by rw [f50]; exact hnp) (by omega) (by omega)) dX4_takeStatementOfPrinter_105 (by decide) rfl cw_RX4_134 okX0_giveTypeface rfl (Nat.le_of_ble_eq_true rfl) ⟨Nat.le_of_ble_eq_true rfl, Nat.le_of_ble_eq_true rfl, Nat.le_of_ble_eq_true rfl, Nat.le_of_ble_eq_true rfl⟩ ?_
              refine zx_goto (tgt := 124) dX4_takeStatementOfPrinter_108 (by decide) ?_
              refine zx_vret rfl dX4_takeStatementOfPrinter_124 ?_
              rw [hQ]
              refine ⟨rfl, ?_⟩
              first
              | exact ⟨(zOK_put hz62 (zr_t _)), ⟨fun q hq i => hfr.1 q (by dsimp only at hq ⊢; omega) i, hfr.2⟩, hq62, hWp, hbp, by rw [if_neg (by assumption)]; exact pEq_l hpe⟩
              | (have hal : pEq (ov (bk σ 4) 7 (nmP t n (bk σ 4) S) (zor (bk σ 4 7 (nmP t n (bk σ 4) S)) (zshl 1 (pV t n (o1 t n (bk σ 4) S).1)))) (bk (zput τ62 11 (nmP t n (bk σ 4) S) (zor (τ62.1 11 (nmP t n (bk σ 4) S)) (zshl 1 (pV t n (o1 t n (bk σ 4) S).1)))) 4) := pEq_tr (fun o ho i => by show ov (bk τ62 4) 7 (nmP t n (bk σ 4) S) (zor (bk τ62 4 7 (nmP t n (bk σ 4) S)) _) o i = _; unfold ov; rw [hpe 7 (by omega)]; split; rfl; exact hpe o ho i) (put_ov (σ := τ62) (k := 4) (o := 7))
                 have hWa := WF_ov7 (p := nmP t n (bk σ 4) S) (v := zor (bk σ 4 7 (nmP t n (bk σ 4) S)) (zshl 1 (pV t n (o1 t n (bk σ 4) S).1))) hW (Or.inr rfl)
                 refine ⟨(zOK_put hz62 (zr_t _)), ⟨fun q hq i => by have hq2 := hq; dsimp only at hq2; simp only [zput_e]; (repeat' split) <;> first | omega | exact hfr.1 q (by dsimp only; omega) i, hfr.2⟩, ?_, WF_eq (pEq_z hal) hWa, bb_pt2 (fun i => by simp only [zput_e]; (repeat' split) <;> first | rfl | omega) (fun i => by simp only [zput_e]; (repeat' split) <;> first | rfl | omega) hbp, by rw [if_pos h65]; exact pEq_l hal⟩
                 · obtain ⟨a1, a2, a3, a4, a5, a6⟩ := hq62
                   exact ⟨a1, a2, a3, a4, a5, a6⟩)
          · exact absurd h71 (by decide)
        · have h65 := zb_0.mp h65
          refine zx_vret rfl dX4_takeStatementOfPrinter_68 ?_
          rw [hQ]
          refine ⟨rfl, ?_⟩
          first
          | exact ⟨hz62, ⟨fun q hq i => hfr.1 q (by dsimp only at hq ⊢; omega) i, hfr.2⟩, hq62, hWp, hbp, by rw [if_neg (by assumption)]; exact pEq_l hpe⟩
          | (have hal : pEq (ov (bk σ 4) 7 (nmP t n (bk σ 4) S) (zor (bk σ 4 7 (nmP t n (bk σ 4) S)) (zshl 1 (pV t n (o1 t n (bk σ 4) S).1)))) (bk (zput τ62 11 (nmP t n (bk σ 4) S) (zor (τ62.1 11 (nmP t n (bk σ 4) S)) (zshl 1 (pV t n (o1 t n (bk σ 4) S).1)))) 4) := pEq_tr (fun o ho i => by show ov (bk τ62 4) 7 (nmP t n (bk σ 4) S) (zor (bk τ62 4 7 (nmP t n (bk σ 4) S)) _) o i = _; unfold ov; rw [hpe 7 (by omega)]; split; rfl; exact hpe o ho i) (put_ov (σ := τ62) (k := 4) (o := 7))
             have hWa := WF_ov7 (p := nmP t n (bk σ 4) S) (v := zor (bk σ 4 7 (nmP t n (bk σ 4) S)) (zshl 1 (pV t n (o1 t n (bk σ 4) S).1))) hW (Or.inr rfl)
             refine ⟨hz62, ⟨fun q hq i => by have hq2 := hq; dsimp only at hq2; simp only [zput_e]; (repeat' split) <;> first | omega | exact hfr.1 q (by dsimp only; omega) i, hfr.2⟩, ?_, WF_eq (pEq_z hal) hWa, bb_pt2 (fun i => by simp only [zput_e]; (repeat' split) <;> first | rfl | omega) (fun i => by simp only [zput_e]; (repeat' split) <;> first | rfl | omega) hbp, by rw [if_pos h65]; exact pEq_l hal⟩
             · obtain ⟨a1, a2, a3, a4, a5, a6⟩ := hq62
               exact ⟨a1, a2, a3, a4, a5, a6⟩)
      · exact absurd h39 (by decide)
    · exact absurd h28 (by decide)
  · exact absurd h14 (by decide)
set_option maxRecDepth 20000 in
set_option maxHeartbeats 2000000 in
theorem sX4_takeStatementOfPrinter_4 {l : Launch} {w : zW} (hfl : l.stackTraces = false) {σ : zS} {t : Nat → Int} {n : Nat} {S : zP} {x : Int} (hz : zOK σ) (hW : WF (bk σ 4)) (hb : bbK σ 4) (hP : PC t n S σ) (hs : x = 4) (h8 : σ.1 5 10 < 12) : Sp l w mX4_takeStatementOfPrinter 3 0 [zf 4 3, zf 6 1, zi x] σ (zqv (none) (fun τ => zOK τ ∧ zSame (fun q => q = 1 ∨ (4 ≤ q ∧ q ≤ 23)) σ τ ∧ PC t n (o3 t n (bk σ 4) 1450 1999 S) τ ∧ WF (bk τ 4) ∧ bbK τ 4 ∧ lEq (if (o3 t n (bk σ 4) 1450 1999 S).2.1 = 0 then adE (bk σ 4) (nmP t n (bk σ 4) S : Nat) (pV t n (o1 t n (bk σ 4) S).1) else bk σ 4) (bk τ 4))) := by
  obtain ⟨Q, hQ⟩ : ∃ Q : zQ, Q = (zqv (none) (fun τ => zOK τ ∧ zSame (fun q => q = 1 ∨ (4 ≤ q ∧ q ≤ 23)) σ τ ∧ PC t n (o3 t n (bk σ 4) 1450 1999 S) τ ∧ WF (bk τ 4) ∧ bbK τ 4 ∧ lEq (if (o3 t n (bk σ 4) 1450 1999 S).2.1 = 0 then adE (bk σ 4) (nmP t n (bk σ 4) S : Nat) (pV t n (o1 t n (bk σ 4) S).1) else bk σ 4) (bk τ 4))) := ⟨_, rfl⟩
  rw [← hQ]
  refine zx_enter hfl (by decide) rfl 4 rfl ?_
  show zX l w mX4_takeStatementOfPrinter (zMQ w 3 0 Q) 0 [zf 4 3, zf 6 1, zi x, zu, zu, zu, zu] [] 0 σ
  have hP4 : 0 ≤ σ.1 5 0 ∧ σ.1 5 0 ≤ 8 := hW.1.1
  have hM4 : 0 ≤ σ.1 5 7 ∧ σ.1 5 7 ≤ 8 := hW.1.2.1
  have hE4 : 0 ≤ σ.1 5 10 ∧ σ.1 5 10 ≤ 12 := hW.1.2.2.1
  have hK4 : 0 ≤ σ.1 16 0 ∧ σ.1 16 0 ≤ 40 := hW.1.2.2.2
  have hpp := hP.2.2.1
  have hfr0 := fz_r (σ.1 6) hP4 (nmv t n S)
  refine zx_aloadN dX4_takeStatementOfPrinter_0 rfl rfl ?_
  refine zx_aloadN dX4_takeStatementOfPrinter_1 rfl rfl ?_
  refine zy_getR (q' := 4) fl_RX4_12 rfl dX4_takeStatementOfPrinter_2 rfl ?_
  refine zy_getR (q' := 5) fl_RX4_34 rfl dX4_takeStatementOfPrinter_5 rfl ?_
  refine zy_cvR [zf 0 5] (sX6_takePrinter (S := S) (a := 5) hfl hz (by first | assumption | omega) (by first | assumption | omega)) dX4_takeStatementOfPrinter_8 (by decide) rfl cw_RX4_128 okX6_takePrinter rfl (Nat.le_of_ble_eq_true rfl) ⟨Nat.le_of_ble_eq_true rfl, Nat.le_of_ble_eq_true rfl, Nat.le_of_ble_eq_true rfl, Nat.le_of_ble_eq_true rfl⟩ (fun τ8 hr8 => ?_)
  refine zy_top (b := fz (σ.1 6) (σ.1 5 0) (nmv t n S)) rfl ?_
  have hz8 : zOK τ8 := hr8.1
  have hq8 : PC t n (o1 t n (bk σ 4) S) τ8 := hr8.2.2
  refine zy_istoreN [zf 4 3, zf 6 1, zi x, zi (fz (σ.1 6) (σ.1 5 0) (nmv t n S)), zu, zu, zu] dX4_takeStatementOfPrinter_11 rfl (Nat.le_of_ble_eq_true rfl) (Nat.le_of_ble_eq_true rfl) rfl rfl ?_
  refine zx_iloadN dX4_takeStatementOfPrinter_12 rfl rfl ?_
  refine zy_top (b := 4) (hs) ?_
  refine zx_iconst dX4_takeStatementOfPrinter_13 ?_
  refine zx_icmp_ne (tgt := 23) (by first | exact hz8 _ _ | assumption | exact zr_b _ | exact zcmp_r _ _ | (unfold zr at *; omega)) (by first | exact hz8 _ _ | assumption | exact zr_b _ | exact zcmp_r _ _ | (unfold zr at *; omega)) dX4_takeStatementOfPrinter_14 (by decide) (fun h14 => ?_) (fun h14 => ?_)
  · exact absurd h14 (by decide)
  · refine zx_sipush dX4_takeStatementOfPrinter_17 rfl ?_
    refine zx_goto (tgt := 24) dX4_takeStatementOfPrinter_20 (by decide) ?_
    refine zy_istore [zf 4 3, zf 6 1, zi x, zi (fz (σ.1 6) (σ.1 5 0) (nmv t n S)), zi 1450, zu, zu] dX4_takeStatementOfPrinter_24 (Nat.le_of_ble_eq_true rfl) (Nat.le_of_ble_eq_true rfl) rfl rfl ?_
    refine zx_iloadN dX4_takeStatementOfPrinter_26 rfl rfl ?_
    refine zy_top (b := 4) (hs) ?_
    refine zx_iconst dX4_takeStatementOfPrinter_27 ?_
    refine zx_icmp_ne (tgt := 37) (by first | exact hz8 _ _ | assumption | exact zr_b _ | exact zcmp_r _ _ | (unfold zr at *; omega)) (by first | exact hz8 _ _ | assumption | exact zr_b _ | exact zcmp_r _ _ | (unfold zr at *; omega)) dX4_takeStatementOfPrinter_28 (by decide) (fun h28 => ?_) (fun h28 => ?_)
    · exact absurd h28 (by decide)
    · refine zx_sipush dX4_takeStatementOfPrinter_31 rfl ?_
      refine zx_goto (tgt := 49) dX4_takeStatementOfPrinter_34 (by decide) ?_
      refine zy_istore [zf 4 3, zf 6 1, zi x, zi (fz (σ.1 6) (σ.1 5 0) (nmv t n S)), zi 1450, zi 1999, zu] dX4_takeStatementOfPrinter_49 (Nat.le_of_ble_eq_true rfl) (Nat.le_of_ble_eq_true rfl) rfl rfl ?_
      refine zx_aloadN dX4_takeStatementOfPrinter_51 rfl rfl ?_
      refine zx_iload dX4_takeStatementOfPrinter_52 rfl ?_
      refine zx_iload dX4_takeStatementOfPrinter_54 rfl ?_
      refine zy_cvR [zi 1450, zi 1999] (sX6_takeNumber (S := (o1 t n (bk σ 4) S)) hfl hz8 hq8 (by first | exact hz8 _ _ | assumption | exact zr_b _ | exact zcmp_r _ _ | (unfold zr at *; omega)) (by first | exact hz8 _ _ | assumption | exact zr_b _ | exact zcmp_r _ _ | (unfold zr at *; omega))) dX4_takeStatementOfPrinter_56 (by decide) rfl cw_RX4_113 okX6_takeNumber rfl (Nat.le_of_ble_eq_true rfl) ⟨Nat.le_of_ble_eq_true rfl, Nat.le_of_ble_eq_true rfl, Nat.le_of_ble_eq_true rfl, Nat.le_of_ble_eq_true rfl⟩ (fun τ56 hr56 => ?_)
      have hz56 : zOK τ56 := hr56.1
      refine zy_top (b := if (o2 t n (bk σ 4) 1450 1999 S).2.1 = 0 then pV t n (o1 t n (bk σ 4) S).1 else 0) (rfl) ?_
      have hq56 : PC t n (o2 t n (bk σ 4) 1450 1999 S) τ56 := hr56.2.2
      refine zy_istore [zf 4 3, zf 6 1, zi x, zi (fz (σ.1 6) (σ.1 5 0) (nmv t n S)), zi 1450, zi 1999, zi (if (o2 t n (bk σ 4) 1450 1999 S).2.1 = 0 then pV t n (o1 t n (bk σ 4) S).1 else 0)] dX4_takeStatementOfPrinter_59 (Nat.le_of_ble_eq_true rfl) (Nat.le_of_ble_eq_true rfl) rfl rfl ?_
      refine zx_aloadN dX4_takeStatementOfPrinter_61 rfl rfl ?_
      refine zy_cvR [] (sX6_takeSemicolon (S := (o2 t n (bk σ 4) 1450 1999 S)) hfl hz56 hq56) dX4_takeStatementOfPrinter_62 (by decide) rfl cw_RX4_117 okX6_takeSemicolon rfl (Nat.le_of_ble_eq_true rfl) ⟨Nat.le_of_ble_eq_true rfl, Nat.le_of_ble_eq_true rfl, Nat.le_of_ble_eq_true rfl, Nat.le_of_ble_eq_true rfl⟩ (fun τ62 hr62 => ?_)
      have hz62 : zOK τ62 := hr62.1
      refine zy_top (b := zb ((o3 t n (bk σ 4) 1450 1999 S).2.1 = 0)) (rfl) ?_
      have hq62 : PC t n (o3 t n (bk σ 4) 1450 1999 S) τ62 := hr62.2.2
      have hfr : zSame (fun q => q = 1) σ τ62 := (zSame_tr (zSame_tr hr8.2.1 hr56.2.1 (fun _ q => q.elim id id)) hr62.2.1 (fun _ q => q.elim id id))
      have hpe := bk_same hfr
      have hWp := WF_eq (pEq_z hpe) hW
      have hbp : bbK τ62 4 := bb_pt (fun o ho i => hpe o ho i) hb
      have f50 : τ62.1 5 0 = σ.1 5 0 := hpe 1 (by omega) 0
      have f57 : τ62.1 5 7 = σ.1 5 7 := hpe 1 (by omega) 7
      have f510 : τ62.1 5 10 = σ.1 5 10 := hpe 1 (by omega) 10
      have f16 : τ62.1 16 0 = σ.1 16 0 := hpe 12 (by omega) 0
      refine zx_if_ne (tgt := 69) (by first | exact hz62 _ _ | assumption | exact zr_b _ | exact zcmp_r _ _ | (unfold zr at *; omega)) dX4_takeStatementOfPrinter_65 (by decide) (fun h65 => ?_) (fun h65 => ?_)
      · have h65 := zb_n.mp h65
        have s2 := (pSem_s (t := t) (n := n) (S := o2 t n (bk σ 4) 1450 1999 S) h65).1
        have s1 := pNum_s (t := t) (n := n) (S := o1 t n (bk σ 4) S) s2
        have s0 := pPrn_s (t := t) (n := n) (f := bk σ 4 2) (P := bk σ 4 1 0) (S := S) s1.1
        have hnn : ¬ fz (σ.1 6) (σ.1 5 0) (nmv t n S) = -1 := s0.2.2.1
        have hNP : fz (σ.1 6) (σ.1 5 0) (nmv t n S) = ((nmP t n (bk σ 4) S : Nat) : Int) := by show _ = (((fz (σ.1 6) (σ.1 5 0) (nmv t n S)).toNat : Nat) : Int); omega
        have hnp : ((nmP t n (bk σ 4) S : Nat) : Int) < σ.1 5 0 := by rw [← hNP]; omega
        refine zx_iloadN dX4_takeStatementOfPrinter_69 rfl rfl ?_
        refine zy_top (b := 4) (hs) ?_
        refine zx_iconst dX4_takeStatementOfPrinter_70 ?_
        refine zx_icmp_ne (tgt := 90) (by first | exact hz62 _ _ | assumption | exact zr_b _ | exact zcmp_r _ _ | (unfold zr at *; omega)) (by first | exact hz62 _ _ | assumption | exact zr_b _ | exact zcmp_r _ _ | (unfold zr at *; omega)) dX4_takeStatementOfPrinter_71 (by decide) (fun h71 => ?_) (fun h71 => ?_)
        · refine zx_iloadN dX4_takeStatementOfPrinter_90 rfl rfl ?_
          refine zy_top (b := 4) (hs) ?_
          refine zx_iconst dX4_takeStatementOfPrinter_91 ?_
          refine zx_icmp_ne (tgt := 111) (by first | exact hz62 _ _ | assumption | exact zr_b _ | exact zcmp_r _ _ | (unfold zr at *; omega)) (by first | exact hz62 _ _ | assumption | exact zr_b _ | exact zcmp_r _ _ | (unfold zr at *; omega)) dX4_takeStatementOfPrinter_92 (by decide) (fun h92 => ?_) (fun h92 => ?_)
          · refine zx_aloadN dX4_takeStatementOfPrinter_111 rfl rfl ?_
            refine zy_getR (q' := 4) fl_RX4_12 rfl dX4_takeStatementOfPrinter_112 rfl ?_
            refine zy_getR (q' := 5) fl_RX4_34 rfl dX4_takeStatementOfPrinter_115 rfl ?_
            refine zx_iloadN dX4_takeStatementOfPrinter_118 rfl rfl ?_
            refine zy_top (b := ((nmP t n (bk σ 4) S : Nat) : Int)) (hNP) ?_
            refine zx_iload dX4_takeStatementOfPrinter_119 rfl ?_
            refine zy_top (b := pV t n (o1 t n (bk σ 4) S).1) (if_pos s2) ?_
            refine zy_cvv [zi ((nmP t n (bk σ 4) S : Nat) : Int), zi (pV t n (o1 t n (bk σ 4) S).1)] (sX0_addEdition  hfl hz62 (by unfold zr; omega) (by unfold zr; omega) (by omega)) dX4_takeStatementOfPrinter_121 (by decide) rfl cw_RX4_137 okX0_addEdition rfl (Nat.le_of_ble_eq_true rfl) ⟨Nat.le_of_ble_eq_true rfl, Nat.le_of_ble_eq_true rfl, Nat.le_of_ble_eq_true rfl, Nat.le_of_ble_eq_true rfl⟩ ?_
            refine zx_vret rfl dX4_takeStatementOfPrinter_124 ?_
            rw [hQ]
            refine ⟨rfl, ?_⟩
            first
            | exact ⟨(by refine zOK_put (zOK_put (zOK_put hz62 ?_) ?_) ?_ <;> first | assumption | (unfold zr; omega)), ⟨fun q hq i => hfr.1 q (by dsimp only at hq ⊢; omega) i, hfr.2⟩, hq62, hWp, hbp, by rw [if_neg (by assumption)]; exact pEq_l hpe⟩
            | (have hal := pEq_tr (pEq_aE hpe) (adE_c (τ := τ62) (x := ((nmP t n (bk σ 4) S : Nat) : Int)) (y := pV t n (o1 t n (bk σ 4) S).1) (by omega))
               have hWa := WF_adE hW h8 ⟨by omega, hnp⟩ s1.2.1
               refine ⟨(by refine zOK_put (zOK_put (zOK_put hz62 ?_) ?_) ?_ <;> first | assumption | (unfold zr; omega)), ⟨fun q hq i => by have hq2 := hq; dsimp only at hq2; simp only [zput_e]; (repeat' split) <;> first | omega | exact hfr.1 q (by dsimp only; omega) i, hfr.2⟩, ?_, WF_eq (pEq_z hal) hWa, bb_pt2 (fun i => by simp only [zput_e]; (repeat' split) <;> first | rfl | omega) (fun i => by simp only [zput_e]; (repeat' split) <;> first | rfl | omega) hbp, by rw [if_pos h65]; exact pEq_l hal⟩
               · obtain ⟨a1, a2, a3, a4, a5, a6⟩ := hq62
                 exact ⟨a1, a2, a3, a4, a5, a6⟩)
          · exact absurd h92 (by decide)
        · exact absurd h71 (by decide)
      · have h65 := zb_0.mp h65
        refine zx_vret rfl dX4_takeStatementOfPrinter_68 ?_
        rw [hQ]
        refine ⟨rfl, ?_⟩
        first
        | exact ⟨hz62, ⟨fun q hq i => hfr.1 q (by dsimp only at hq ⊢; omega) i, hfr.2⟩, hq62, hWp, hbp, by rw [if_neg (by assumption)]; exact pEq_l hpe⟩
        | (have hal := pEq_tr (pEq_aE hpe) (adE_c (τ := τ62) (x := ((nmP t n (bk σ 4) S : Nat) : Int)) (y := pV t n (o1 t n (bk σ 4) S).1) (by omega))
           have hWa := WF_adE hW h8 ⟨by omega, hnp⟩ s1.2.1
           refine ⟨hz62, ⟨fun q hq i => by have hq2 := hq; dsimp only at hq2; simp only [zput_e]; (repeat' split) <;> first | omega | exact hfr.1 q (by dsimp only; omega) i, hfr.2⟩, ?_, WF_eq (pEq_z hal) hWa, bb_pt2 (fun i => by simp only [zput_e]; (repeat' split) <;> first | rfl | omega) (fun i => by simp only [zput_e]; (repeat' split) <;> first | rfl | omega) hbp, by rw [if_pos h65]; exact pEq_l hal⟩
           · obtain ⟨a1, a2, a3, a4, a5, a6⟩ := hq62
             exact ⟨a1, a2, a3, a4, a5, a6⟩)
set_option maxRecDepth 20000 in
set_option maxHeartbeats 2000000 in
theorem sX4_takeClueStatement {l : Launch} {w : zW} (hfl : l.stackTraces = false) {σ : zS} {t : Nat → Int} {n : Nat} {S : zP}  (hz : zOK σ) (hW : WF (bk σ 4)) (hb : bbK σ 4) (hP : PC t n S σ) (h8 : σ.1 16 0 < 40) : Sp l w mX4_takeClueStatement 6 0 [zf 4 3, zf 6 1] σ (zqv (none) (fun τ => zOK τ ∧ zSame (fun q => q = 1 ∨ (4 ≤ q ∧ q ≤ 23)) σ τ ∧ PC t n (u5 t n (bk σ 4) S) τ ∧ WF (bk τ 4) ∧ bbK τ 4 ∧ lEq (if (u5 t n (bk σ 4) S).2.1 = 0 then adB (bk σ 4) (pV t n S.1) (kdv t n (u1 t n S).1) (pV t n (u2 t n S).1) (pV t n (u3 t n (bk σ 4) S).1) else bk σ 4) (bk τ 4))) := by
  obtain ⟨Q, hQ⟩ : ∃ Q : zQ, Q = (zqv (none) (fun τ => zOK τ ∧ zSame (fun q => q = 1 ∨ (4 ≤ q ∧ q ≤ 23)) σ τ ∧ PC t n (u5 t n (bk σ 4) S) τ ∧ WF (bk τ 4) ∧ bbK τ 4 ∧ lEq (if (u5 t n (bk σ 4) S).2.1 = 0 then adB (bk σ 4) (pV t n S.1) (kdv t n (u1 t n S).1) (pV t n (u2 t n S).1) (pV t n (u3 t n (bk σ 4) S).1) else bk σ 4) (bk τ 4))) := ⟨_, rfl⟩
  rw [← hQ]
  refine zx_enter hfl (by decide) rfl 4 rfl ?_
  show zX l w mX4_takeClueStatement (zMQ w 6 0 Q) 0 [zf 4 3, zf 6 1, zu, zu, zu, zu] [] 0 σ
  have hP4 : 0 ≤ σ.1 5 0 ∧ σ.1 5 0 ≤ 8 := hW.1.1
  have hM4 : 0 ≤ σ.1 5 7 ∧ σ.1 5 7 ≤ 8 := hW.1.2.1
  have hE4 : 0 ≤ σ.1 5 10 ∧ σ.1 5 10 ≤ 12 := hW.1.2.2.1
  have hK4 : 0 ≤ σ.1 16 0 ∧ σ.1 16 0 ≤ 40 := hW.1.2.2.2
  have hpp := hP.2.2.1
  refine zx_aloadN dX4_takeClueStatement_0 rfl rfl ?_
  refine zx_iconst dX4_takeClueStatement_1 ?_
  refine zx_sipush dX4_takeClueStatement_2 rfl ?_
  refine zy_cvR [zi 1, zi 999] (sX6_takeNumber (S := S) hfl hz (by first | assumption | omega) (by first | exact hz _ _ | assumption | exact zr_b _ | exact zcmp_r _ _ | (unfold zr at *; omega)) (by first | exact hz _ _ | assumption | exact zr_b _ | exact zcmp_r _ _ | (unfold zr at *; omega))) dX4_takeClueStatement_5 (by decide) rfl cw_RX4_113 okX6_takeNumber rfl (Nat.le_of_ble_eq_true rfl) ⟨Nat.le_of_ble_eq_true rfl, Nat.le_of_ble_eq_true rfl, Nat.le_of_ble_eq_true rfl, Nat.le_of_ble_eq_true rfl⟩ (fun τ5 hr5 => ?_)
  have hz5 : zOK τ5 := hr5.1
  refine zy_top (b := if (u1 t n S).2.1 = 0 then pV t n (S).1 else 0) (rfl) ?_
  have hq5 : PC t n (u1 t n S) τ5 := hr5.2.2
  refine zy_istoreN [zf 4 3, zf 6 1, zi (if (u1 t n S).2.1 = 0 then pV t n (S).1 else 0), zu, zu, zu] dX4_takeClueStatement_8 rfl (Nat.le_of_ble_eq_true rfl) (Nat.le_of_ble_eq_true rfl) rfl rfl ?_
  refine zx_aloadN dX4_takeClueStatement_9 rfl rfl ?_
  refine zy_cvR [] (sX6_takeKind (S := (u1 t n S)) hfl hz5 hq5) dX4_takeClueStatement_10 (by decide) rfl cw_RX4_140 okX6_takeKind rfl (Nat.le_of_ble_eq_true rfl) ⟨Nat.le_of_ble_eq_true rfl, Nat.le_of_ble_eq_true rfl, Nat.le_of_ble_eq_true rfl, Nat.le_of_ble_eq_true rfl⟩ (fun τ10 hr10 => ?_)
  have hz10 : zOK τ10 := hr10.1
  have hq10 : PC t n (u2 t n S) τ10 := hr10.2.2
  have hke : -1 ≤ (if (u1 t n S).2.1 = 0 then kdv t n (u1 t n S).1 else -1) ∧ (if (u1 t n S).2.1 = 0 then kdv t n (u1 t n S).1 else -1) ≤ 4 := by split; exact kdv_r _ _ _; omega
  have hzk : zr (if (u1 t n S).2.1 = 0 then kdv t n (u1 t n S).1 else -1) := by unfold zr; omega
  have f10 : τ10.1 5 7 = σ.1 5 7 := (hr10.2.1.1 5 (by dsimp only; omega) 7).trans (hr5.2.1.1 5 (by dsimp only; omega) 7)
  refine zy_istoreN [zf 4 3, zf 6 1, zi (if (u1 t n S).2.1 = 0 then pV t n (S).1 else 0), zi (if (u1 t n S).2.1 = 0 then kdv t n (u1 t n S).1 else -1), zu, zu] dX4_takeClueStatement_13 rfl (Nat.le_of_ble_eq_true rfl) (Nat.le_of_ble_eq_true rfl) rfl rfl ?_
  refine zx_aloadN dX4_takeClueStatement_14 rfl rfl ?_
  refine zx_iloadN dX4_takeClueStatement_15 rfl rfl ?_
  refine zy_cs [zi (if (u1 t n S).2.1 = 0 then kdv t n (u1 t n S).1 else -1)] (sX0_lowestValue  hfl hz10 (by first | exact hz10 _ _ | assumption | exact zr_b _ | exact zcmp_r _ _ | (unfold zr at *; omega))) dX4_takeClueStatement_16 cw_RX4_144 okX0_lowestValue rfl (Nat.le_of_ble_eq_true rfl) ⟨Nat.le_of_ble_eq_true rfl, Nat.le_of_ble_eq_true rfl, Nat.le_of_ble_eq_true rfl, Nat.le_of_ble_eq_true rfl⟩ ?_
  have zlo : zr (if (if (u1 t n S).2.1 = 0 then kdv t n (u1 t n S).1 else -1) = 4 then 1450 else 0) := by split <;> (unfold zr; omega)
  refine zx_aloadN dX4_takeClueStatement_19 rfl rfl ?_
  refine zy_getR (q' := 4) fl_RX4_12 rfl dX4_takeClueStatement_20 rfl ?_
  refine zy_getR (q' := 5) fl_RX4_34 rfl dX4_takeClueStatement_23 rfl ?_
  refine zx_iloadN dX4_takeClueStatement_26 rfl rfl ?_
  refine zy_cv [zi (if (u1 t n S).2.1 = 0 then kdv t n (u1 t n S).1 else -1)] (sX0_highestValue  hfl hz10 (by first | exact hz10 _ _ | assumption | exact zr_b _ | exact zcmp_r _ _ | (unfold zr at *; omega))) dX4_takeClueStatement_27 (by decide) rfl cw_RX4_148 okX0_highestValue rfl (Nat.le_of_ble_eq_true rfl) ⟨Nat.le_of_ble_eq_true rfl, Nat.le_of_ble_eq_true rfl, Nat.le_of_ble_eq_true rfl, Nat.le_of_ble_eq_true rfl⟩ ?_
  have zhi : zr (if (if (u1 t n S).2.1 = 0 then kdv t n (u1 t n S).1 else -1) = 0 then 31 else if (if (u1 t n S).2.1 = 0 then kdv t n (u1 t n S).1 else -1) = 1 then 15 else if (if (u1 t n S).2.1 = 0 then kdv t n (u1 t n S).1 else -1) = 2 then τ10.1 5 7 - 1 else if (if (u1 t n S).2.1 = 0 then kdv t n (u1 t n S).1 else -1) = 3 then 9 else 1999) := by (repeat' split) <;> (unfold zr; omega)
  have e30 : pNum t n (u2 t n S) (if (if (u1 t n S).2.1 = 0 then kdv t n (u1 t n S).1 else -1) = 4 then 1450 else 0) (if (if (u1 t n S).2.1 = 0 then kdv t n (u1 t n S).1 else -1) = 0 then 31 else if (if (u1 t n S).2.1 = 0 then kdv t n (u1 t n S).1 else -1) = 1 then 15 else if (if (u1 t n S).2.1 = 0 then kdv t n (u1 t n S).1 else -1) = 2 then τ10.1 5 7 - 1 else if (if (u1 t n S).2.1 = 0 then kdv t n (u1 t n S).1 else -1) = 3 then 9 else 1999) = u3 t n (bk σ 4) S := by
    unfold u3
    refine pNum_lo (fun q => ?_)
    have hk := pKd_s (t := t) (n := n) (S := u1 t n S) q
    rw [if_pos hk.1, f10]
    exact ⟨rfl, rfl⟩
  refine zy_cvR [zi (if (if (u1 t n S).2.1 = 0 then kdv t n (u1 t n S).1 else -1) = 4 then 1450 else 0), zi (if (if (u1 t n S).2.1 = 0 then kdv t n (u1 t n S).1 else -1) = 0 then 31 else if (if (u1 t n S).2.1 = 0 then kdv t n (u1 t n S).1 else -1) = 1 then 15 else if (if (u1 t n S).2.1 = 0 then kdv t n (u1 t n S).1 else -1) = 2 then τ10.1 5 7 - 1 else if (if (u1 t n S).2.1 = 0 then kdv t n (u1 t n S).1 else -1) = 3 then 9 else 1999)] (sX6_takeNumber (S := (u2 t n S)) hfl hz10 hq10 (by first | exact hz10 _ _ | assumption | exact zr_b _ | exact zcmp_r _ _ | (unfold zr at *; omega)) (by first | exact hz10 _ _ | assumption | exact zr_b _ | exact zcmp_r _ _ | (unfold zr at *; omega))) dX4_takeClueStatement_30 (by decide) rfl cw_RX4_113 okX6_takeNumber rfl (Nat.le_of_ble_eq_true rfl) ⟨Nat.le_of_ble_eq_true rfl, Nat.le_of_ble_eq_true rfl, Nat.le_of_ble_eq_true rfl, Nat.le_of_ble_eq_true rfl⟩ (fun τ30 hr30 => ?_)
  have hz30 : zOK τ30 := hr30.1
  refine zy_top (b := if (u3 t n (bk σ 4) S).2.1 = 0 then pV t n (u2 t n S).1 else 0) (by rw [e30]) ?_
  have hq30 : PC t n (u3 t n (bk σ 4) S) τ30 := by rw [← e30]; exact hr30.2.2
  refine zy_istore [zf 4 3, zf 6 1, zi (if (u1 t n S).2.1 = 0 then pV t n (S).1 else 0), zi (if (u1 t n S).2.1 = 0 then kdv t n (u1 t n S).1 else -1), zi (if (u3 t n (bk σ 4) S).2.1 = 0 then pV t n (u2 t n S).1 else 0), zu] dX4_takeClueStatement_33 (Nat.le_of_ble_eq_true rfl) (Nat.le_of_ble_eq_true rfl) rfl rfl ?_
  refine zx_aloadN dX4_takeClueStatement_35 rfl rfl ?_
  refine zx_iconst dX4_takeClueStatement_36 ?_
  refine zx_bipush dX4_takeClueStatement_37 rfl ?_
  refine zy_cvR [zi 1, zi 9] (sX6_takeNumber (S := (u3 t n (bk σ 4) S)) hfl hz30 hq30 (by first | exact hz30 _ _ | assumption | exact zr_b _ | exact zcmp_r _ _ | (unfold zr at *; omega)) (by first | exact hz30 _ _ | assumption | exact zr_b _ | exact zcmp_r _ _ | (unfold zr at *; omega))) dX4_takeClueStatement_39 (by decide) rfl cw_RX4_113 okX6_takeNumber rfl (Nat.le_of_ble_eq_true rfl) ⟨Nat.le_of_ble_eq_true rfl, Nat.le_of_ble_eq_true rfl, Nat.le_of_ble_eq_true rfl, Nat.le_of_ble_eq_true rfl⟩ (fun τ39 hr39 => ?_)
  have hz39 : zOK τ39 := hr39.1
  refine zy_top (b := if (u4 t n (bk σ 4) S).2.1 = 0 then pV t n (u3 t n (bk σ 4) S).1 else 0) (rfl) ?_
  have hq39 : PC t n (u4 t n (bk σ 4) S) τ39 := hr39.2.2
  refine zy_istore [zf 4 3, zf 6 1, zi (if (u1 t n S).2.1 = 0 then pV t n (S).1 else 0), zi (if (u1 t n S).2.1 = 0 then kdv t n (u1 t n S).1 else -1), zi (if (u3 t n (bk σ 4) S).2.1 = 0 then pV t n (u2 t n S).1 else 0), zi (if (u4 t n (bk σ 4) S).2.1 = 0 then pV t n (u3 t n (bk σ 4) S).1 else 0)] dX4_takeClueStatement_42 (Nat.le_of_ble_eq_true rfl) (Nat.le_of_ble_eq_true rfl) rfl rfl ?_
  refine zx_aloadN dX4_takeClueStatement_44 rfl rfl ?_
  refine zy_cvR [] (sX6_takeSemicolon (S := (u4 t n (bk σ 4) S)) hfl hz39 hq39) dX4_takeClueStatement_45 (by decide) rfl cw_RX4_117 okX6_takeSemicolon rfl (Nat.le_of_ble_eq_true rfl) ⟨Nat.le_of_ble_eq_true rfl, Nat.le_of_ble_eq_true rfl, Nat.le_of_ble_eq_true rfl, Nat.le_of_ble_eq_true rfl⟩ (fun τ45 hr45 => ?_)
  have hz45 : zOK τ45 := hr45.1
  refine zy_top (b := zb ((u5 t n (bk σ 4) S).2.1 = 0)) (rfl) ?_
  have hq45 : PC t n (u5 t n (bk σ 4) S) τ45 := hr45.2.2
  have hfr : zSame (fun q => q = 1) σ τ45 := (zSame_tr (zSame_tr (zSame_tr (zSame_tr hr5.2.1 hr10.2.1 (fun _ q => q.elim id id)) hr30.2.1 (fun _ q => q.elim id id)) hr39.2.1 (fun _ q => q.elim id id)) hr45.2.1 (fun _ q => q.elim id id))
  have hpe := bk_same hfr
  have hWp := WF_eq (pEq_z hpe) hW
  have hbp : bbK τ45 4 := bb_pt (fun o ho i => hpe o ho i) hb
  have f50 : τ45.1 5 0 = σ.1 5 0 := hpe 1 (by omega) 0
  have f57 : τ45.1 5 7 = σ.1 5 7 := hpe 1 (by omega) 7
  have f510 : τ45.1 5 10 = σ.1 5 10 := hpe 1 (by omega) 10
  have f16 : τ45.1 16 0 = σ.1 16 0 := hpe 12 (by omega) 0
  refine zx_if_eq (tgt := 67) (by first | exact hz45 _ _ | assumption | exact zr_b _ | exact zcmp_r _ _ | (unfold zr at *; omega)) dX4_takeClueStatement_48 (by decide) (fun h48 => ?_) (fun h48 => ?_)
  · have h48 := zb_0.mp h48
    refine zx_vret rfl dX4_takeClueStatement_67 ?_
    rw [hQ]
    refine ⟨rfl, ?_⟩
    first
    | exact ⟨hz45, ⟨fun q hq i => hfr.1 q (by dsimp only at hq ⊢; omega) i, hfr.2⟩, hq45, hWp, hbp, by rw [if_neg (by assumption)]; exact pEq_l hpe⟩
    | (have ha := add_ok (k := 4) hWp hr64 (by show τ45.1 16 0 < 40; omega) s1.2.1 hwk2 s3.2.1
       have hg := hr64
       obtain ⟨-, sg, -, -, -, -, -, g5, g6, -⟩ := hg
       refine ⟨hz45, ⟨fun q hq i => (sg.1 q (by dsimp only at hq ⊢; omega) i).trans (hfr.1 q (by dsimp only at hq ⊢; omega) i), sg.2.trans hfr.2⟩, ?_, ha.1, fun i hi => ?_, by rw [if_pos h48]; exact lEq_tr (pEq_l (pEq_ad hpe)) ha.2⟩
       · obtain ⟨a1, a2, a3, a4, a5, a6⟩ := hq45
         have e : ∀ q, q < 16 → ∀ i, τ64.1 q i = τ45.1 q i := fun q hq i => sg.1 q (by dsimp only; omega) i
         refine ⟨fun i => (e 2 (by omega) i).trans (a1 i), ?_, a3, ?_, fun z => ?_, fun z => ?_⟩
         · rw [e 1 (by omega)]; exact a2
         · rw [e 1 (by omega), e 1 (by omega)]; exact a4
         · rw [e 1 (by omega), e 1 (by omega), e 1 (by omega)]; exact a5 z
         · rw [e 1 (by omega)]; exact a6 z
       · have b := hbp i hi
         have e5 := g5 i
         have e6 := g6 i
         constructor
         · show τ64.1 (16 + 5) i = 0 ∨ τ64.1 (16 + 5) i = 1
           rw [e5]; split
           · exact Or.inl rfl
           · exact b.1
         · show τ64.1 (16 + 6) i = 0 ∨ τ64.1 (16 + 6) i = 1
           rw [e6]; split
           · exact Or.inl rfl
           · exact b.2)
  · have h48 := zb_n.mp h48
    have s4 := (pSem_s (t := t) (n := n) (S := u4 t n (bk σ 4) S) h48).1
    have s3 := pNum_s (t := t) (n := n) (S := u3 t n (bk σ 4) S) s4
    have s2 := pNum_s (t := t) (n := n) (S := u2 t n S) s3.1
    have sk := pKd_s (t := t) (n := n) (S := u1 t n S) s2.1
    have s1 := pNum_s (t := t) (n := n) (S := S) sk.1
    have hkr := kdv_r t n (u1 t n S).1
    have hwk : WFk (bk σ 4) (kdv t n (u1 t n S).1) (pV t n (u2 t n S).1) := kdv_WFk ⟨by omega, hkr.2⟩ s2.2.1 hM4.2
    have hwk2 : WFk (bk τ45 4) (kdv t n (u1 t n S).1) (pV t n (u2 t n S).1) := by unfold WFk at *; rw [show bk τ45 4 1 7 = bk σ 4 1 7 from f57]; exact hwk
    have hv15 : 0 ≤ pV t n (u2 t n S).1 ∧ pV t n (u2 t n S).1 ≤ 1999 := ⟨hwk.2.2.1, hwk.2.2.2.1⟩
    have hO : ∀ i : Nat, (i : Int) < τ45.1 16 0 → 0 ≤ τ45.1 23 i ∧ τ45.1 23 i < τ45.1 16 0 := hWp.2.2.2.2.2.1
    refine zx_aloadN dX4_takeClueStatement_51 rfl rfl ?_
    refine zy_getR (q' := 4) fl_RX4_12 rfl dX4_takeClueStatement_52 rfl ?_
    refine zy_getR (q' := 16) fl_RX4_88 rfl dX4_takeClueStatement_55 rfl ?_
    refine zx_iloadN dX4_takeClueStatement_58 rfl rfl ?_
    refine zy_top (b := pV t n S.1) (if_pos sk.1) ?_
    refine zx_iloadN dX4_takeClueStatement_59 rfl rfl ?_
    refine zy_top (b := kdv t n (u1 t n S).1) (if_pos sk.1) ?_
    refine zx_iload dX4_takeClueStatement_60 rfl ?_
    refine zy_top (b := pV t n (u2 t n S).1) (if_pos s3.1) ?_
    refine zx_iload dX4_takeClueStatement_62 rfl ?_
    refine zy_top (b := pV t n (u3 t n (bk σ 4) S).1) (if_pos s4) ?_
    refine zy_cvvR [zi (pV t n S.1), zi (kdv t n (u1 t n S).1), zi (pV t n (u2 t n S).1), zi (pV t n (u3 t n (bk σ 4) S).1)] (sX2_add  hfl hz45 (by unfold zr; omega) (by unfold zr; omega) (by unfold zr; omega) (by unfold zr; omega) (by omega) hO) dX4_takeClueStatement_64 (by decide) rfl cw_RX4_151 okX2_add rfl (Nat.le_of_ble_eq_true rfl) ⟨Nat.le_of_ble_eq_true rfl, Nat.le_of_ble_eq_true rfl, Nat.le_of_ble_eq_true rfl, Nat.le_of_ble_eq_true rfl⟩ (fun τ64 hr64 => ?_)
    have hz64 : zOK τ64 := hr64.1
    refine zx_vret rfl dX4_takeClueStatement_67 ?_
    rw [hQ]
    refine ⟨rfl, ?_⟩
    first
    | exact ⟨hz64, ⟨fun q hq i => hfr.1 q (by dsimp only at hq ⊢; omega) i, hfr.2⟩, hq45, hWp, hbp, by rw [if_neg (by assumption)]; exact pEq_l hpe⟩
    | (have ha := add_ok (k := 4) hWp hr64 (by show τ45.1 16 0 < 40; omega) s1.2.1 hwk2 s3.2.1
       have hg := hr64
       obtain ⟨-, sg, -, -, -, -, -, g5, g6, -⟩ := hg
       refine ⟨hz64, ⟨fun q hq i => (sg.1 q (by dsimp only at hq ⊢; omega) i).trans (hfr.1 q (by dsimp only at hq ⊢; omega) i), sg.2.trans hfr.2⟩, ?_, ha.1, fun i hi => ?_, by rw [if_pos h48]; exact lEq_tr (pEq_l (pEq_ad hpe)) ha.2⟩
       · obtain ⟨a1, a2, a3, a4, a5, a6⟩ := hq45
         have e : ∀ q, q < 16 → ∀ i, τ64.1 q i = τ45.1 q i := fun q hq i => sg.1 q (by dsimp only; omega) i
         refine ⟨fun i => (e 2 (by omega) i).trans (a1 i), ?_, a3, ?_, fun z => ?_, fun z => ?_⟩
         · rw [e 1 (by omega)]; exact a2
         · rw [e 1 (by omega), e 1 (by omega)]; exact a4
         · rw [e 1 (by omega), e 1 (by omega), e 1 (by omega)]; exact a5 z
         · rw [e 1 (by omega)]; exact a6 z
       · have b := hbp i hi
         have e5 := g5 i
         have e6 := g6 i
         constructor
         · show τ64.1 (16 + 5) i = 0 ∨ τ64.1 (16 + 5) i = 1
           rw [e5]; split
           · exact Or.inl rfl
           · exact b.1
         · show τ64.1 (16 + 6) i = 0 ∨ τ64.1 (16 + 6) i = 1
           rw [e6]; split
           · exact Or.inl rfl
           · exact b.2)

