abbrev mX10_tries : zM := (yX10_tries, cX10_tries, 1, none, [])
theorem okX10_tries : zMok mX10_tries 0 := ⟨by decide, by decide, by decide +kernel⟩
theorem dX10_tries_0 : decode cX10_tries 0 = .ok (.aload_n 0, 1) := by decide +kernel
theorem dX10_tries_1 : decode cX10_tries 1 = .ok (.getfield 7, 3) := by decide +kernel
theorem dX10_tries_4 : decode cX10_tries 4 = .ok (.iconst 0, 1) := by decide +kernel
theorem dX10_tries_5 : decode cX10_tries 5 = .ok (.aload_n 0, 1) := by decide +kernel
theorem dX10_tries_6 : decode cX10_tries 6 = .ok (.getfield 19, 3) := by decide +kernel
theorem fl_RX10_19 : zFl RX10 19 10 3 := ⟨RX10, TX10, 28, rfl, by decide, zmem1 1656 (by decide +kernel) rfl, rfl⟩
theorem dX10_tries_9 : decode cX10_tries 9 = .ok (.iconst 0, 1) := by decide +kernel
theorem dX10_tries_10 : decode cX10_tries 10 = .ok (.invokestatic 70, 3) := by decide +kernel
theorem cw_RX10_70 : zCwS RX10 70 mX10_copies := zall [1514, 1515, 128, 1516] (by decide +kernel) (by decide +kernel)
theorem dX10_tries_13 : decode cX10_tries 13 = .ok (.return_, 1) := by decide +kernel
abbrev mX10_laidBack : zM := (yX10_laidBack, cX10_laidBack, 2, (some .int), [])
theorem okX10_laidBack : zMok mX10_laidBack 1 := ⟨by decide, by decide, by decide +kernel⟩
theorem dX10_laidBack_0 : decode cX10_laidBack 0 = .ok (.aload_n 0, 1) := by decide +kernel
theorem dX10_laidBack_1 : decode cX10_laidBack 1 = .ok (.getfield 19, 3) := by decide +kernel
theorem dX10_laidBack_4 : decode cX10_laidBack 4 = .ok (.iconst 0, 1) := by decide +kernel
theorem dX10_laidBack_5 : decode cX10_laidBack 5 = .ok (.aload_n 0, 1) := by decide +kernel
theorem dX10_laidBack_6 : decode cX10_laidBack 6 = .ok (.getfield 7, 3) := by decide +kernel
theorem dX10_laidBack_9 : decode cX10_laidBack 9 = .ok (.iconst 0, 1) := by decide +kernel
theorem dX10_laidBack_10 : decode cX10_laidBack 10 = .ok (.invokestatic 70, 3) := by decide +kernel
theorem dX10_laidBack_13 : decode cX10_laidBack 13 = .ok (.iload_n 1, 1) := by decide +kernel
theorem dX10_laidBack_14 : decode cX10_laidBack 14 = .ok (.ireturn, 1) := by decide +kernel
abbrev mX10_printerAfter : zM := (yX10_printerAfter, cX10_printerAfter, 3, (some .int), [])
theorem okX10_printerAfter : zMok mX10_printerAfter 1 := ⟨by decide, by decide, by decide +kernel⟩
theorem dX10_printerAfter_0 : decode cX10_printerAfter 0 = .ok (.aload_n 0, 1) := by decide +kernel
theorem dX10_printerAfter_1 : decode cX10_printerAfter 1 = .ok (.iload_n 1, 1) := by decide +kernel
theorem dX10_printerAfter_2 : decode cX10_printerAfter 2 = .ok (.invokestatic 430, 3) := by decide +kernel
theorem cw_RX10_430 : zCwS RX10 430 mX10_areMore := zall [2123, 2124, 128, 2125] (by decide +kernel) (by decide +kernel)
theorem dX10_printerAfter_5 : decode cX10_printerAfter 5 = .ok (.invokevirtual 220, 3) := by decide +kernel
theorem dX10_printerAfter_8 : decode cX10_printerAfter 8 = .ok (.ifCond .ne 5, 3) := by decide +kernel
theorem dX10_printerAfter_11 : decode cX10_printerAfter 11 = .ok (.iconst 0, 1) := by decide +kernel
theorem dX10_printerAfter_12 : decode cX10_printerAfter 12 = .ok (.ireturn, 1) := by decide +kernel
theorem dX10_printerAfter_13 : decode cX10_printerAfter 13 = .ok (.aload_n 0, 1) := by decide +kernel
theorem dX10_printerAfter_14 : decode cX10_printerAfter 14 = .ok (.invokevirtual 433, 3) := by decide +kernel
theorem cw_RX10_433 : zCwV RX10 433 mX10_tries := zall [2127, 2129, 101, 128, 2130] (by decide +kernel) (by decide +kernel)
theorem dX10_printerAfter_17 : decode cX10_printerAfter 17 = .ok (.aload_n 0, 1) := by decide +kernel
theorem dX10_printerAfter_18 : decode cX10_printerAfter 18 = .ok (.iload_n 1, 1) := by decide +kernel
theorem dX10_printerAfter_19 : decode cX10_printerAfter 19 = .ok (.invokevirtual 202, 3) := by decide +kernel
theorem cw_RX10_202 : zCwV RX10 202 mX10_reads := zall [1804, 1806, 61, 128, 1807] (by decide +kernel) (by decide +kernel)
theorem dX10_printerAfter_22 : decode cX10_printerAfter 22 = .ok (.istore_n 2, 1) := by decide +kernel
theorem dX10_printerAfter_23 : decode cX10_printerAfter 23 = .ok (.aload_n 0, 1) := by decide +kernel
theorem dX10_printerAfter_24 : decode cX10_printerAfter 24 = .ok (.aload_n 0, 1) := by decide +kernel
theorem dX10_printerAfter_25 : decode cX10_printerAfter 25 = .ok (.invokevirtual 160, 3) := by decide +kernel
theorem dX10_printerAfter_28 : decode cX10_printerAfter 28 = .ok (.invokevirtual 436, 3) := by decide +kernel
theorem cw_RX10_436 : zCwV RX10 436 mX10_laidBack := zall [2131, 2133, 102, 128, 2134] (by decide +kernel) (by decide +kernel)
theorem dX10_printerAfter_31 : decode cX10_printerAfter 31 = .ok (.ireturn, 1) := by decide +kernel
abbrev mX10_yearAfter : zM := (yX10_yearAfter, cX10_yearAfter, 3, (some .int), [])
theorem okX10_yearAfter : zMok mX10_yearAfter 1 := ⟨by decide, by decide, by decide +kernel⟩
theorem dX10_yearAfter_0 : decode cX10_yearAfter 0 = .ok (.aload_n 0, 1) := by decide +kernel
theorem dX10_yearAfter_1 : decode cX10_yearAfter 1 = .ok (.iload_n 1, 1) := by decide +kernel
theorem dX10_yearAfter_2 : decode cX10_yearAfter 2 = .ok (.invokestatic 430, 3) := by decide +kernel
theorem dX10_yearAfter_5 : decode cX10_yearAfter 5 = .ok (.invokevirtual 220, 3) := by decide +kernel
theorem dX10_yearAfter_8 : decode cX10_yearAfter 8 = .ok (.ifCond .ne 5, 3) := by decide +kernel
theorem dX10_yearAfter_11 : decode cX10_yearAfter 11 = .ok (.iconst 0, 1) := by decide +kernel
theorem dX10_yearAfter_12 : decode cX10_yearAfter 12 = .ok (.ireturn, 1) := by decide +kernel
theorem dX10_yearAfter_13 : decode cX10_yearAfter 13 = .ok (.aload_n 0, 1) := by decide +kernel
theorem dX10_yearAfter_14 : decode cX10_yearAfter 14 = .ok (.invokevirtual 433, 3) := by decide +kernel
theorem dX10_yearAfter_17 : decode cX10_yearAfter 17 = .ok (.aload_n 0, 1) := by decide +kernel
theorem dX10_yearAfter_18 : decode cX10_yearAfter 18 = .ok (.iload_n 1, 1) := by decide +kernel
theorem dX10_yearAfter_19 : decode cX10_yearAfter 19 = .ok (.invokevirtual 202, 3) := by decide +kernel
theorem dX10_yearAfter_22 : decode cX10_yearAfter 22 = .ok (.istore_n 2, 1) := by decide +kernel
theorem dX10_yearAfter_23 : decode cX10_yearAfter 23 = .ok (.aload_n 0, 1) := by decide +kernel
theorem dX10_yearAfter_24 : decode cX10_yearAfter 24 = .ok (.aload_n 0, 1) := by decide +kernel
theorem dX10_yearAfter_25 : decode cX10_yearAfter 25 = .ok (.invokevirtual 166, 3) := by decide +kernel
theorem dX10_yearAfter_28 : decode cX10_yearAfter 28 = .ok (.invokevirtual 436, 3) := by decide +kernel
theorem dX10_yearAfter_31 : decode cX10_yearAfter 31 = .ok (.ireturn, 1) := by decide +kernel
abbrev mX10_cluesUntilChange : zM := (yX10_cluesUntilChange, cX10_cluesUntilChange, 3, (some .int), [])
theorem okX10_cluesUntilChange : zMok mX10_cluesUntilChange 0 := ⟨by decide, by decide, by decide +kernel⟩
theorem dX10_cluesUntilChange_0 : decode cX10_cluesUntilChange 0 = .ok (.aload_n 0, 1) := by decide +kernel
theorem dX10_cluesUntilChange_1 : decode cX10_cluesUntilChange 1 = .ok (.iconst 0, 1) := by decide +kernel
theorem dX10_cluesUntilChange_2 : decode cX10_cluesUntilChange 2 = .ok (.putfield 67, 3) := by decide +kernel
theorem dX10_cluesUntilChange_5 : decode cX10_cluesUntilChange 5 = .ok (.aload_n 0, 1) := by decide +kernel
theorem dX10_cluesUntilChange_6 : decode cX10_cluesUntilChange 6 = .ok (.invokevirtual 160, 3) := by decide +kernel
theorem dX10_cluesUntilChange_9 : decode cX10_cluesUntilChange 9 = .ok (.istore_n 1, 1) := by decide +kernel
theorem dX10_cluesUntilChange_10 : decode cX10_cluesUntilChange 10 = .ok (.aload_n 0, 1) := by decide +kernel
theorem dX10_cluesUntilChange_11 : decode cX10_cluesUntilChange 11 = .ok (.invokevirtual 433, 3) := by decide +kernel
theorem dX10_cluesUntilChange_14 : decode cX10_cluesUntilChange 14 = .ok (.iconst 1, 1) := by decide +kernel
theorem dX10_cluesUntilChange_15 : decode cX10_cluesUntilChange 15 = .ok (.istore_n 2, 1) := by decide +kernel
theorem dX10_cluesUntilChange_16 : decode cX10_cluesUntilChange 16 = .ok (.aload_n 0, 1) := by decide +kernel
theorem dX10_cluesUntilChange_17 : decode cX10_cluesUntilChange 17 = .ok (.iconst 1, 1) := by decide +kernel
theorem dX10_cluesUntilChange_18 : decode cX10_cluesUntilChange 18 = .ok (.invokevirtual 202, 3) := by decide +kernel
theorem dX10_cluesUntilChange_21 : decode cX10_cluesUntilChange 21 = .ok (.iconst 1, 1) := by decide +kernel
theorem dX10_cluesUntilChange_22 : decode cX10_cluesUntilChange 22 = .ok (.if_icmp .ne 23, 3) := by decide +kernel
theorem dX10_cluesUntilChange_45 : decode cX10_cluesUntilChange 45 = .ok (.aload_n 0, 1) := by decide +kernel
theorem dX10_cluesUntilChange_46 : decode cX10_cluesUntilChange 46 = .ok (.iconst (-1), 1) := by decide +kernel
theorem dX10_cluesUntilChange_47 : decode cX10_cluesUntilChange 47 = .ok (.invokevirtual 436, 3) := by decide +kernel
theorem dX10_cluesUntilChange_50 : decode cX10_cluesUntilChange 50 = .ok (.ireturn, 1) := by decide +kernel
theorem dX10_cluesUntilChange_25 : decode cX10_cluesUntilChange 25 = .ok (.aload_n 0, 1) := by decide +kernel
theorem dX10_cluesUntilChange_26 : decode cX10_cluesUntilChange 26 = .ok (.invokevirtual 160, 3) := by decide +kernel
theorem dX10_cluesUntilChange_29 : decode cX10_cluesUntilChange 29 = .ok (.iload_n 1, 1) := by decide +kernel
theorem dX10_cluesUntilChange_30 : decode cX10_cluesUntilChange 30 = .ok (.if_icmp .eq 9, 3) := by decide +kernel
theorem dX10_cluesUntilChange_39 : decode cX10_cluesUntilChange 39 = .ok (.iinc 2 1, 3) := by decide +kernel
theorem dX10_cluesUntilChange_42 : decode cX10_cluesUntilChange 42 = .ok (.goto (-26), 3) := by decide +kernel
theorem dX10_cluesUntilChange_33 : decode cX10_cluesUntilChange 33 = .ok (.aload_n 0, 1) := by decide +kernel
theorem dX10_cluesUntilChange_34 : decode cX10_cluesUntilChange 34 = .ok (.iload_n 2, 1) := by decide +kernel
theorem dX10_cluesUntilChange_35 : decode cX10_cluesUntilChange 35 = .ok (.invokevirtual 436, 3) := by decide +kernel
theorem dX10_cluesUntilChange_38 : decode cX10_cluesUntilChange 38 = .ok (.ireturn, 1) := by decide +kernel
abbrev mX10_isDecisive : zM := (yX10_isDecisive, cX10_isDecisive, 4, (some .boolean), [])
theorem okX10_isDecisive : zMok mX10_isDecisive 2 := ⟨by decide, by decide, by decide +kernel⟩
theorem dX10_isDecisive_0 : decode cX10_isDecisive 0 = .ok (.aload_n 0, 1) := by decide +kernel
theorem dX10_isDecisive_1 : decode cX10_isDecisive 1 = .ok (.iload_n 1, 1) := by decide +kernel
theorem dX10_isDecisive_2 : decode cX10_isDecisive 2 = .ok (.iconst 5, 1) := by decide +kernel
theorem dX10_isDecisive_3 : decode cX10_isDecisive 3 = .ok (.iconst 1, 1) := by decide +kernel
theorem dX10_isDecisive_4 : decode cX10_isDecisive 4 = .ok (.invokevirtual 175, 3) := by decide +kernel
theorem dX10_isDecisive_7 : decode cX10_isDecisive 7 = .ok (.aload_n 0, 1) := by decide +kernel
theorem dX10_isDecisive_8 : decode cX10_isDecisive 8 = .ok (.invokevirtual 160, 3) := by decide +kernel
theorem dX10_isDecisive_11 : decode cX10_isDecisive 11 = .ok (.iload_n 2, 1) := by decide +kernel
theorem dX10_isDecisive_12 : decode cX10_isDecisive 12 = .ok (.if_icmp .eq 7, 3) := by decide +kernel
theorem dX10_isDecisive_19 : decode cX10_isDecisive 19 = .ok (.iconst 0, 1) := by decide +kernel
theorem dX10_isDecisive_20 : decode cX10_isDecisive 20 = .ok (.istore_n 3, 1) := by decide +kernel
theorem dX10_isDecisive_21 : decode cX10_isDecisive 21 = .ok (.aload_n 0, 1) := by decide +kernel
theorem dX10_isDecisive_22 : decode cX10_isDecisive 22 = .ok (.iload_n 1, 1) := by decide +kernel
theorem dX10_isDecisive_23 : decode cX10_isDecisive 23 = .ok (.iconst 5, 1) := by decide +kernel
theorem dX10_isDecisive_24 : decode cX10_isDecisive 24 = .ok (.iconst 0, 1) := by decide +kernel
theorem dX10_isDecisive_25 : decode cX10_isDecisive 25 = .ok (.invokevirtual 175, 3) := by decide +kernel
theorem dX10_isDecisive_28 : decode cX10_isDecisive 28 = .ok (.iload_n 3, 1) := by decide +kernel
theorem dX10_isDecisive_29 : decode cX10_isDecisive 29 = .ok (.ireturn, 1) := by decide +kernel
theorem dX10_isDecisive_15 : decode cX10_isDecisive 15 = .ok (.iconst 1, 1) := by decide +kernel
theorem dX10_isDecisive_16 : decode cX10_isDecisive 16 = .ok (.goto 4, 3) := by decide +kernel
abbrev mX10_decisiveClue : zM := (yX10_decisiveClue, cX10_decisiveClue, 3, (some .int), [])
theorem okX10_decisiveClue : zMok mX10_decisiveClue 0 := ⟨by decide, by decide, by decide +kernel⟩
theorem dX10_decisiveClue_0 : decode cX10_decisiveClue 0 = .ok (.aload_n 0, 1) := by decide +kernel
theorem dX10_decisiveClue_1 : decode cX10_decisiveClue 1 = .ok (.iconst 0, 1) := by decide +kernel
theorem dX10_decisiveClue_2 : decode cX10_decisiveClue 2 = .ok (.putfield 67, 3) := by decide +kernel
theorem dX10_decisiveClue_5 : decode cX10_decisiveClue 5 = .ok (.aload_n 0, 1) := by decide +kernel
theorem dX10_decisiveClue_6 : decode cX10_decisiveClue 6 = .ok (.invokevirtual 160, 3) := by decide +kernel
theorem dX10_decisiveClue_9 : decode cX10_decisiveClue 9 = .ok (.istore_n 1, 1) := by decide +kernel
theorem dX10_decisiveClue_10 : decode cX10_decisiveClue 10 = .ok (.iconst 0, 1) := by decide +kernel
theorem dX10_decisiveClue_11 : decode cX10_decisiveClue 11 = .ok (.istore_n 2, 1) := by decide +kernel
theorem dX10_decisiveClue_12 : decode cX10_decisiveClue 12 = .ok (.iload_n 2, 1) := by decide +kernel
theorem dX10_decisiveClue_13 : decode cX10_decisiveClue 13 = .ok (.aload_n 0, 1) := by decide +kernel
theorem dX10_decisiveClue_14 : decode cX10_decisiveClue 14 = .ok (.getfield 7, 3) := by decide +kernel
theorem dX10_decisiveClue_17 : decode cX10_decisiveClue 17 = .ok (.iconst 3, 1) := by decide +kernel
theorem dX10_decisiveClue_18 : decode cX10_decisiveClue 18 = .ok (.iaload, 1) := by decide +kernel
theorem dX10_decisiveClue_19 : decode cX10_decisiveClue 19 = .ok (.if_icmp .ge 28, 3) := by decide +kernel
theorem dX10_decisiveClue_47 : decode cX10_decisiveClue 47 = .ok (.iconst (-1), 1) := by decide +kernel
theorem dX10_decisiveClue_48 : decode cX10_decisiveClue 48 = .ok (.ireturn, 1) := by decide +kernel
theorem dX10_decisiveClue_22 : decode cX10_decisiveClue 22 = .ok (.aload_n 0, 1) := by decide +kernel
theorem dX10_decisiveClue_23 : decode cX10_decisiveClue 23 = .ok (.iload_n 2, 1) := by decide +kernel
theorem dX10_decisiveClue_24 : decode cX10_decisiveClue 24 = .ok (.invokevirtual 121, 3) := by decide +kernel
theorem dX10_decisiveClue_27 : decode cX10_decisiveClue 27 = .ok (.ifCond .eq 14, 3) := by decide +kernel
theorem dX10_decisiveClue_41 : decode cX10_decisiveClue 41 = .ok (.iinc 2 1, 3) := by decide +kernel
theorem dX10_decisiveClue_44 : decode cX10_decisiveClue 44 = .ok (.goto (-32), 3) := by decide +kernel
theorem dX10_decisiveClue_30 : decode cX10_decisiveClue 30 = .ok (.aload_n 0, 1) := by decide +kernel
theorem dX10_decisiveClue_31 : decode cX10_decisiveClue 31 = .ok (.iload_n 2, 1) := by decide +kernel
theorem dX10_decisiveClue_32 : decode cX10_decisiveClue 32 = .ok (.iload_n 1, 1) := by decide +kernel
theorem dX10_decisiveClue_33 : decode cX10_decisiveClue 33 = .ok (.invokevirtual 439, 3) := by decide +kernel
theorem cw_RX10_439 : zCwV RX10 439 mX10_isDecisive := zall [2147, 2149, 103, 128, 2150] (by decide +kernel) (by decide +kernel)
theorem dX10_decisiveClue_36 : decode cX10_decisiveClue 36 = .ok (.ifCond .eq 5, 3) := by decide +kernel
theorem dX10_decisiveClue_39 : decode cX10_decisiveClue 39 = .ok (.iload_n 2, 1) := by decide +kernel
theorem dX10_decisiveClue_40 : decode cX10_decisiveClue 40 = .ok (.ireturn, 1) := by decide +kernel
abbrev mX10_rankingErrors : zM := (yX10_rankingErrors, cX10_rankingErrors, 3, (some .int), [])
theorem okX10_rankingErrors : zMok mX10_rankingErrors 0 := ⟨by decide, by decide, by decide +kernel⟩
theorem dX10_rankingErrors_0 : decode cX10_rankingErrors 0 = .ok (.aload_n 0, 1) := by decide +kernel
theorem dX10_rankingErrors_1 : decode cX10_rankingErrors 1 = .ok (.iconst 0, 1) := by decide +kernel
theorem dX10_rankingErrors_2 : decode cX10_rankingErrors 2 = .ok (.putfield 67, 3) := by decide +kernel
theorem dX10_rankingErrors_5 : decode cX10_rankingErrors 5 = .ok (.aload_n 0, 1) := by decide +kernel
theorem dX10_rankingErrors_6 : decode cX10_rankingErrors 6 = .ok (.invokevirtual 151, 3) := by decide +kernel
theorem dX10_rankingErrors_9 : decode cX10_rankingErrors 9 = .ok (.iconst 0, 1) := by decide +kernel
theorem dX10_rankingErrors_10 : decode cX10_rankingErrors 10 = .ok (.istore_n 1, 1) := by decide +kernel
theorem dX10_rankingErrors_11 : decode cX10_rankingErrors 11 = .ok (.iconst 0, 1) := by decide +kernel
theorem dX10_rankingErrors_12 : decode cX10_rankingErrors 12 = .ok (.istore_n 2, 1) := by decide +kernel
theorem dX10_rankingErrors_13 : decode cX10_rankingErrors 13 = .ok (.iload_n 2, 1) := by decide +kernel
theorem dX10_rankingErrors_14 : decode cX10_rankingErrors 14 = .ok (.iconst 1, 1) := by decide +kernel
theorem dX10_rankingErrors_15 : decode cX10_rankingErrors 15 = .ok (.iadd, 1) := by decide +kernel
theorem dX10_rankingErrors_16 : decode cX10_rankingErrors 16 = .ok (.aload_n 0, 1) := by decide +kernel
theorem dX10_rankingErrors_17 : decode cX10_rankingErrors 17 = .ok (.getfield 7, 3) := by decide +kernel
theorem dX10_rankingErrors_20 : decode cX10_rankingErrors 20 = .ok (.iconst 0, 1) := by decide +kernel
theorem dX10_rankingErrors_21 : decode cX10_rankingErrors 21 = .ok (.iaload, 1) := by decide +kernel
theorem dX10_rankingErrors_22 : decode cX10_rankingErrors 22 = .ok (.if_icmp .ge 39, 3) := by decide +kernel
theorem dX10_rankingErrors_61 : decode cX10_rankingErrors 61 = .ok (.aload_n 0, 1) := by decide +kernel
theorem dX10_rankingErrors_62 : decode cX10_rankingErrors 62 = .ok (.invokevirtual 166, 3) := by decide +kernel
theorem dX10_rankingErrors_65 : decode cX10_rankingErrors 65 = .ok (.istore_n 2, 1) := by decide +kernel
theorem dX10_rankingErrors_66 : decode cX10_rankingErrors 66 = .ok (.iload_n 1, 1) := by decide +kernel
theorem dX10_rankingErrors_67 : decode cX10_rankingErrors 67 = .ok (.aload_n 0, 1) := by decide +kernel
theorem dX10_rankingErrors_68 : decode cX10_rankingErrors 68 = .ok (.invokevirtual 416, 3) := by decide +kernel
theorem dX10_rankingErrors_71 : decode cX10_rankingErrors 71 = .ok (.aload_n 0, 1) := by decide +kernel
theorem dX10_rankingErrors_72 : decode cX10_rankingErrors 72 = .ok (.aload_n 0, 1) := by decide +kernel
theorem dX10_rankingErrors_73 : decode cX10_rankingErrors 73 = .ok (.getfield 163, 3) := by decide +kernel
theorem dX10_rankingErrors_76 : decode cX10_rankingErrors 76 = .ok (.iload_n 2, 1) := by decide +kernel
theorem dX10_rankingErrors_77 : decode cX10_rankingErrors 77 = .ok (.invokevirtual 419, 3) := by decide +kernel
theorem dX10_rankingErrors_80 : decode cX10_rankingErrors 80 = .ok (.aload_n 0, 1) := by decide +kernel
theorem dX10_rankingErrors_81 : decode cX10_rankingErrors 81 = .ok (.iload_n 2, 1) := by decide +kernel
theorem dX10_rankingErrors_82 : decode cX10_rankingErrors 82 = .ok (.invokevirtual 442, 3) := by decide +kernel
theorem cw_RX10_442 : zCwV RX10 442 mX10_openWeight := zall [2155, 2157, 104, 128, 2158] (by decide +kernel) (by decide +kernel)
theorem dX10_rankingErrors_85 : decode cX10_rankingErrors 85 = .ok (.iadd, 1) := by decide +kernel
theorem dX10_rankingErrors_86 : decode cX10_rankingErrors 86 = .ok (.if_icmp .eq 7, 3) := by decide +kernel
theorem dX10_rankingErrors_93 : decode cX10_rankingErrors 93 = .ok (.iconst 0, 1) := by decide +kernel
theorem dX10_rankingErrors_94 : decode cX10_rankingErrors 94 = .ok (.invokestatic 94, 3) := by decide +kernel
theorem dX10_rankingErrors_97 : decode cX10_rankingErrors 97 = .ok (.iadd, 1) := by decide +kernel
theorem dX10_rankingErrors_98 : decode cX10_rankingErrors 98 = .ok (.ireturn, 1) := by decide +kernel
theorem dX10_rankingErrors_25 : decode cX10_rankingErrors 25 = .ok (.iload_n 1, 1) := by decide +kernel
theorem dX10_rankingErrors_26 : decode cX10_rankingErrors 26 = .ok (.aload_n 0, 1) := by decide +kernel
theorem dX10_rankingErrors_27 : decode cX10_rankingErrors 27 = .ok (.aload_n 0, 1) := by decide +kernel
theorem dX10_rankingErrors_28 : decode cX10_rankingErrors 28 = .ok (.iload_n 2, 1) := by decide +kernel
theorem dX10_rankingErrors_29 : decode cX10_rankingErrors 29 = .ok (.invokevirtual 154, 3) := by decide +kernel
theorem dX10_rankingErrors_32 : decode cX10_rankingErrors 32 = .ok (.aload_n 0, 1) := by decide +kernel
theorem dX10_rankingErrors_33 : decode cX10_rankingErrors 33 = .ok (.iload_n 2, 1) := by decide +kernel
theorem dX10_rankingErrors_34 : decode cX10_rankingErrors 34 = .ok (.iconst 1, 1) := by decide +kernel
theorem dX10_rankingErrors_35 : decode cX10_rankingErrors 35 = .ok (.iadd, 1) := by decide +kernel
theorem dX10_rankingErrors_36 : decode cX10_rankingErrors 36 = .ok (.invokevirtual 154, 3) := by decide +kernel
theorem dX10_rankingErrors_39 : decode cX10_rankingErrors 39 = .ok (.invokevirtual 148, 3) := by decide +kernel
theorem dX10_rankingErrors_42 : decode cX10_rankingErrors 42 = .ok (.ifCond .ne 7, 3) := by decide +kernel
theorem dX10_rankingErrors_49 : decode cX10_rankingErrors 49 = .ok (.iconst 0, 1) := by decide +kernel
theorem dX10_rankingErrors_50 : decode cX10_rankingErrors 50 = .ok (.invokestatic 94, 3) := by decide +kernel
theorem dX10_rankingErrors_53 : decode cX10_rankingErrors 53 = .ok (.iadd, 1) := by decide +kernel
theorem dX10_rankingErrors_54 : decode cX10_rankingErrors 54 = .ok (.istore_n 1, 1) := by decide +kernel
theorem dX10_rankingErrors_55 : decode cX10_rankingErrors 55 = .ok (.iinc 2 1, 3) := by decide +kernel
theorem dX10_rankingErrors_58 : decode cX10_rankingErrors 58 = .ok (.goto (-45), 3) := by decide +kernel
abbrev mX10_confidence : zM := (yX10_confidence, cX10_confidence, 2, (some .double), [])
theorem okX10_confidence : zMok mX10_confidence 0 := ⟨by decide, by decide, by decide +kernel⟩
theorem dX10_confidence_0 : decode cX10_confidence 0 = .ok (.aload_n 0, 1) := by decide +kernel
theorem dX10_confidence_1 : decode cX10_confidence 1 = .ok (.iconst 0, 1) := by decide +kernel
theorem dX10_confidence_2 : decode cX10_confidence 2 = .ok (.putfield 67, 3) := by decide +kernel
theorem dX10_confidence_5 : decode cX10_confidence 5 = .ok (.aload_n 0, 1) := by decide +kernel
theorem dX10_confidence_6 : decode cX10_confidence 6 = .ok (.invokevirtual 416, 3) := by decide +kernel
theorem dX10_confidence_9 : decode cX10_confidence 9 = .ok (.istore_n 1, 1) := by decide +kernel
theorem dX10_confidence_10 : decode cX10_confidence 10 = .ok (.iload_n 1, 1) := by decide +kernel
theorem dX10_confidence_11 : decode cX10_confidence 11 = .ok (.ifCond .ne 7, 3) := by decide +kernel
theorem dX10_confidence_18 : decode cX10_confidence 18 = .ok (.aload_n 0, 1) := by decide +kernel
theorem dX10_confidence_19 : decode cX10_confidence 19 = .ok (.invokevirtual 208, 3) := by decide +kernel
theorem dX10_confidence_22 : decode cX10_confidence 22 = .ok (.i2d, 1) := by decide +kernel
theorem dX10_confidence_23 : decode cX10_confidence 23 = .ok (.iload_n 1, 1) := by decide +kernel
theorem dX10_confidence_24 : decode cX10_confidence 24 = .ok (.i2d, 1) := by decide +kernel
theorem dX10_confidence_25 : decode cX10_confidence 25 = .ok (.ddiv, 1) := by decide +kernel
theorem dX10_confidence_26 : decode cX10_confidence 26 = .ok (.dreturn, 1) := by decide +kernel
theorem dX10_confidence_14 : decode cX10_confidence 14 = .ok (.dconst 0, 1) := by decide +kernel
theorem dX10_confidence_15 : decode cX10_confidence 15 = .ok (.goto 11, 3) := by decide +kernel
/-! the other program's predictions -/
theorem mfr_cpo {σ τ : zS} {q a v b n : Nat} (h : cpo σ τ q a v b n) (hv : v ≠ 261) : mfr σ τ (fun k => k = v) (fun _ => False) :=
  ⟨fun k hk _ i => h.1 k hk i, fun i _ => h.1 261 (fun e => hv e.symm) i, h.2.1⟩
theorem tb_ok {D : zBk} (w : WF D) {σ τ1 τ2 τ3 : zS} {A F : Nat → Prop} (hR : Rel D (σ.1 262)) (h0 : cpo σ τ1 262 0 265 0 380) (h1 : mfr τ1 τ2 A F) (hA : ∀ k, A k → k = 262 ∨ k = 267 ∨ k = 268) (hF : ∀ i, F i → qF i ∧ i ≠ 6) (h2 : cpo τ2 τ3 265 0 262 0 380) : QP D σ τ3 ∧ τ3.1 261 6 = σ.1 261 6 := by
  have e265 : ∀ i, τ2.1 265 i = τ1.1 265 i := fun i => h1.1 265 (fun q => by have := hA _ q; omega) (by omega) i
  have row : ∀ i, i < 380 → τ3.1 262 i = σ.1 262 i := fun i hi => by
    have a := h2.2.2.1 i hi
    have b := h0.2.2.1 i hi
    rw [Nat.zero_add] at a b
    rw [a, e265, b]
  refine ⟨⟨⟨fun k hk hk2 i => ?_, fun i hi => ?_, ?_⟩, Rel_same w hR row⟩, ?_⟩
  · unfold qA at hk
    rw [h2.1 k (by omega) i, h1.1 k (fun q => by have := hA _ q; omega) hk2 i, h0.1 k (by omega) i]
  · rw [h2.1 261 (by omega) i, h1.2.1 i (fun q => hi (hF i q).1), h0.1 261 (by omega) i]
  · exact h2.2.1.trans (h1.2.2.trans h0.2.1)
  · rw [h2.1 261 (by omega) 6, h1.2.1 6 (fun q => (hF 6 q).2 rfl), h0.1 261 (by omega) 6]
theorem U_cons {D : zBk} {p : Nat} (h : ∀ q, q < p → ¬ D 17 (D 19 q).toNat = 0) : U D p = 0 := by
  unfold U
  rw [zs_congr (g := fun _ => 0) (fun i hi => zb_f (h i hi)), zs_zero]
theorem rd_one {D : zBk} (w : WF D) {n : Int} (hn : 0 ≤ n) : (U (rdB D n) (D 12 0).toNat = 0 ∧ U D (D 12 0).toNat ≤ n) ∨ (1 ≤ U (rdB D n) (D 12 0).toNat ∧ n + 1 ≤ U D (D 12 0).toNat ∧ lEq (rdB (rdB D n) 1) (rdB D (n + 1))) := by
  have wn := WF_rdB w n
  have hk : (rdB D n) 12 0 = D 12 0 := rfl
  by_cases h : nxU (rdB D n) = -1
  · obtain ⟨h1, h2⟩ := rd_end w hn h
    refine Or.inl ⟨U_cons (fun q hq => ?_), h2⟩
    have ho := w.2.2.2.2.2.1 q (by omega)
    rw [rdB_s, rdB_k D n (by decide : (19 : Nat) ≠ 17)]
    rw [zb_0]
    exact fun z => z (h1 _ (by omega))
  · obtain ⟨h1, h2, h3⟩ := rd_step w hn h
    rcases nxU_cases wn with ⟨q1, q2⟩ | ⟨p, hp, q1, q2, q3, q4⟩
    · exact absurd q1 h
    · have hp2 : (p : Int) < D 12 0 := hp
      refine Or.inr ⟨?_, h2, ⟨⟨rfl, rfl, rfl, rfl⟩, fun a _ o o1 o2 => ?_, fun q _ => ⟨rfl, rfl⟩, fun q _ => ⟨rfl, rfl⟩, fun c hc o o1 o2 => ?_⟩⟩
      · have e := U_mono (rdB D n) (show p + 1 ≤ (D 12 0).toNat by omega)
        rw [U_s, zb_t q3] at e
        have := (U_b (rdB D n) p).1
        omega
      · rw [rdB_k _ _ (by omega), rdB_k _ _ (by omega), rdB_k _ _ (by omega)]
      · by_cases e : o = 17
        · subst e
          rw [rdB_s, rdB_s]
          have hc2 : (c : Int) < D 12 0 := hc
          refine (zb_c ?_).symm
          rw [h3 c hc2, q1]
          obtain ⟨q, hq, e⟩ := WFo_sj w.2.2.2.2.2 hc2
          subst e
          have hR := Rd_at wn.2.2.2.2.2 (x := 1) (p := q) hq
          have e19 : ∀ i, (rdB D n) 19 i = D 19 i := fun i => rdB_k D n (by decide) i
          rw [e19, rdB_s, zb_0] at hR
          rw [hR, e19]
          constructor
          · intro z
            rcases Nat.lt_trichotomy q p with t | t | t
            · have z2 := q4 q t
              rw [e19, rdB_s] at z2
              exact Or.inl (zb_n.mp z2)
            · subst t; exact Or.inr rfl
            · have z2 := U_mono (rdB D n) (show p + 1 ≤ q from t)
              rw [U_s, zb_t q3] at z2
              have := (U_b (rdB D n) p).1
              rcases z with z | z
              · exact Or.inl (Classical.not_not.mp z)
              · omega
          · rintro (z | z)
            · exact Or.inl (fun y => y z)
            · have := WFo_inj w.2.2.2.2.2 hq hp2 z
              subst this
              refine Or.inr ?_
              rw [U_cons q4]; omega
        · rw [rdB_k _ _ e, rdB_k _ _ e, rdB_k _ _ e]
theorem rk_ah {D : zBk} {r : Nat} (h : (r : Int) + 1 < D 1 0) : ∃ a b : Nat, rkP D (Ht D) (r : Int) = (a : Int) ∧ rkP D (Ht D) ((r : Int) + 1) = (b : Int) ∧ (a : Int) < D 1 0 ∧ (b : Int) < D 1 0 ∧ ahd D (Ht D) a b := by
  obtain ⟨o, ho⟩ := rk_ex D (Ht D)
  have e1 : rkP D (Ht D) ((r : Nat) : Int) = _ := ordOK_at ho (i := r) (by omega)
  have e2 : rkP D (Ht D) ((r + 1 : Nat) : Int) = _ := ordOK_at ho (i := r + 1) (by omega)
  have b1 := ho.1 r (by omega)
  have b2 := ho.1 (r + 1) (by omega)
  exact ⟨_, _, e1, e2, by omega, by omega, ho.2.1 r (r + 1) (by omega) (by omega)⟩
theorem ov_back {D : zBk} {o c : Nat} {v u : Int} (h : D o c = u) : lEq (ov (ov D o c v) o c u) D := by
  have e : ov (ov D o c v) o c u = D := by
    funext o' i'
    unfold ov
    by_cases q : o' = o ∧ i' = c
    · rw [if_pos q, q.1, q.2, h]
    · rw [if_neg q, if_neg q]
  rw [e]
  exact ⟨⟨rfl, rfl, rfl, rfl⟩, fun _ _ _ _ _ => rfl, fun _ _ => ⟨rfl, rfl⟩, fun _ _ => ⟨rfl, rfl⟩, fun _ _ _ _ _ => rfl⟩

set_option maxRecDepth 20000 in
set_option maxHeartbeats 2000000 in
theorem sX10_tries {l : Launch} {w : zW} (hfl : l.stackTraces = false) {σ : zS}  (hz : zOK σ)  : Sp l w mX10_tries 1 0 [zf 10 261] σ (zqv (none) (fun τ => zOK τ ∧ cpo σ τ 262 0 265 0 380)) := by
  obtain ⟨Q, hQ⟩ : ∃ Q : zQ, Q = (zqv (none) (fun τ => zOK τ ∧ cpo σ τ 262 0 265 0 380)) := ⟨_, rfl⟩
  rw [← hQ]
  refine zx_enter hfl (by decide) rfl 0 rfl ?_
  show zX l w mX10_tries (zMQ w 1 0 Q) 0 [zf 10 261] [] 0 σ
  refine zx_aloadN dX10_tries_0 rfl rfl ?_
  refine zy_getR (q' := 262) fl_RX10_7 rfl dX10_tries_1 rfl ?_
  refine zx_iconst dX10_tries_4 ?_
  refine zx_aloadN dX10_tries_5 rfl rfl ?_
  refine zy_getR (q' := 265) fl_RX10_19 rfl dX10_tries_6 rfl ?_
  refine zx_iconst dX10_tries_9 ?_
  refine zy_csvR [zf 29 262, zi 0, zf 29 265, zi 0] (sX10_copies_a (q := 262) (a := 0) (v := 265) (b := 0) hfl hz (by first | assumption | omega) (by first | assumption | omega) (by decide)) dX10_tries_10 cw_RX10_70 okX10_copies rfl (Nat.le_of_ble_eq_true rfl) ⟨Nat.le_of_ble_eq_true rfl, Nat.le_of_ble_eq_true rfl, Nat.le_of_ble_eq_true rfl, Nat.le_of_ble_eq_true rfl⟩ (fun τ10 hr10 => ?_)
  have hz10 : zOK τ10 := hr10.1
  refine zx_vret rfl dX10_tries_13 ?_
  rw [hQ]
  refine ⟨rfl, ?_⟩
  exact hr10
set_option maxRecDepth 20000 in
set_option maxHeartbeats 2000000 in
theorem sX10_laidBack {l : Launch} {w : zW} (hfl : l.stackTraces = false) {σ : zS} {x : Int} (hz : zOK σ)  : Sp l w mX10_laidBack 1 0 [zf 10 261, zi x] σ (zqv (some (zi x)) (fun τ => zOK τ ∧ cpo σ τ 265 0 262 0 380)) := by
  obtain ⟨Q, hQ⟩ : ∃ Q : zQ, Q = (zqv (some (zi x)) (fun τ => zOK τ ∧ cpo σ τ 265 0 262 0 380)) := ⟨_, rfl⟩
  rw [← hQ]
  refine zx_enter hfl (by decide) rfl 0 rfl ?_
  show zX l w mX10_laidBack (zMQ w 1 0 Q) 0 [zf 10 261, zi x] [] 0 σ
  refine zx_aloadN dX10_laidBack_0 rfl rfl ?_
  refine zy_getR (q' := 265) fl_RX10_19 rfl dX10_laidBack_1 rfl ?_
  refine zx_iconst dX10_laidBack_4 ?_
  refine zx_aloadN dX10_laidBack_5 rfl rfl ?_
  refine zy_getR (q' := 262) fl_RX10_7 rfl dX10_laidBack_6 rfl ?_
  refine zx_iconst dX10_laidBack_9 ?_
  refine zy_csvR [zf 29 265, zi 0, zf 29 262, zi 0] (sX10_copies_a (q := 265) (a := 0) (v := 262) (b := 0) hfl hz (by first | assumption | omega) (by first | assumption | omega) (by decide)) dX10_laidBack_10 cw_RX10_70 okX10_copies rfl (Nat.le_of_ble_eq_true rfl) ⟨Nat.le_of_ble_eq_true rfl, Nat.le_of_ble_eq_true rfl, Nat.le_of_ble_eq_true rfl, Nat.le_of_ble_eq_true rfl⟩ (fun τ10 hr10 => ?_)
  have hz10 : zOK τ10 := hr10.1
  refine zx_iloadN dX10_laidBack_13 rfl rfl ?_
  refine zx_iret rfl rfl dX10_laidBack_14 ?_
  rw [hQ]
  refine ⟨congrArg (fun z : Int => (Sum.inl (some (zi z)) : Option zV ⊕ String)) ?_, ?_⟩
  · first | rfl | assumption | omega
  exact hr10
set_option maxRecDepth 20000 in
set_option maxHeartbeats 2000000 in
theorem sX10_printerAfter_t1 {l : Launch} {w : zW} (hfl : l.stackTraces = false) {σ : zS} {D : zBk} {x : Int} (hz : zOK σ) (hW : WF D) (hR : Rel D (σ.1 262)) (hP1 : 1 ≤ D 1 0) (hx : zr x) (hw0 : ¬ (0 ≤ x ∧ x ≤ 40)) : Sp l w mX10_printerAfter 10 0 [zf 10 261, zi x] σ (zqv (some (zi 0)) (fun τ => zOK τ ∧ QP D σ τ ∧ τ.1 261 6 = 1)) := by
  obtain ⟨Q, hQ⟩ : ∃ Q : zQ, Q = (zqv (some (zi 0)) (fun τ => zOK τ ∧ QP D σ τ ∧ τ.1 261 6 = 1)) := ⟨_, rfl⟩
  rw [← hQ]
  refine zx_enter hfl (by decide) rfl 1 rfl ?_
  show zX l w mX10_printerAfter (zMQ w 10 0 Q) 0 [zf 10 261, zi x, zu] [] 0 σ
  have hP : 0 ≤ D 1 0 ∧ D 1 0 ≤ 8 := hW.1.1
  have hM : 0 ≤ D 1 7 ∧ D 1 7 ≤ 8 := hW.1.2.1
  have hE : 0 ≤ D 1 10 ∧ D 1 10 ≤ 12 := hW.1.2.2.1
  have hK : 0 ≤ D 12 0 ∧ D 12 0 ≤ 40 := hW.1.2.2.2
  have r0 : σ.1 262 0 = D 1 0 := hR.1.1
  have r1 : σ.1 262 1 = D 1 7 := hR.1.2.1
  have r2 : σ.1 262 2 = D 1 10 := hR.1.2.2.1
  have r3 : σ.1 262 3 = D 12 0 := hR.1.2.2.2
  refine zx_aloadN dX10_printerAfter_0 rfl rfl ?_
  refine zx_iloadN dX10_printerAfter_1 rfl rfl ?_
  refine zy_cs [zi x] (sX10_areMore  hfl hz (by first | exact hz _ _ | assumption | exact zr_b _ | exact zcmp_r _ _ | (unfold zr at *; omega))) dX10_printerAfter_2 cw_RX10_430 okX10_areMore rfl (Nat.le_of_ble_eq_true rfl) ⟨Nat.le_of_ble_eq_true rfl, Nat.le_of_ble_eq_true rfl, Nat.le_of_ble_eq_true rfl, Nat.le_of_ble_eq_true rfl⟩ ?_
  refine zy_cv [zi (zb (0 ≤ x ∧ x ≤ 40))] (sX10_passes (A := (0 ≤ x ∧ x ≤ 40)) hfl hz ) dX10_printerAfter_5 (by decide) rfl cw_RX10_220 okX10_passes rfl (Nat.le_of_ble_eq_true rfl) ⟨Nat.le_of_ble_eq_true rfl, Nat.le_of_ble_eq_true rfl, Nat.le_of_ble_eq_true rfl, Nat.le_of_ble_eq_true rfl⟩ ?_
  refine zx_if_ne (tgt := 13) (by first | exact hz _ _ | assumption | exact zr_b _ | exact zcmp_r _ _ | (unfold zr at *; omega)) dX10_printerAfter_8 (by decide) (fun h8 => ?_) (fun h8 => ?_)
  · have h8 := zb_n.mp h8
    first | exact absurd (by assumption) hw0 | (exfalso; omega)
  · have h8 := zb_0.mp h8
    refine zx_iconst dX10_printerAfter_11 ?_
    refine zx_iret rfl rfl dX10_printerAfter_12 ?_
    rw [hQ]
    refine ⟨congrArg (fun z : Int => (Sum.inl (some (zi z)) : Option zV ⊕ String)) ?_, ?_⟩
    · rfl
    exact ⟨(zOK_put hz (zr_b _)), QP_th hR, (zput_s _ _ _ _).trans (zb_t hw0)⟩
set_option maxRecDepth 20000 in
set_option maxHeartbeats 2000000 in
theorem sX10_printerAfter {l : Launch} {w : zW} (hfl : l.stackTraces = false) {σ : zS} {D : zBk} {x : Int} (hz : zOK σ) (hW : WF D) (hR : Rel D (σ.1 262)) (hP1 : 1 ≤ D 1 0) (hx : zr x) (hw0 : 0 ≤ x ∧ x ≤ 40) : Sp l w mX10_printerAfter 10 0 [zf 10 261, zi x] σ (zqv (some (zi ((wP D (Hd D x (-1)) : Nat) : Int))) (fun τ => zOK τ ∧ QP D σ τ ∧ τ.1 261 6 = 0)) := by
  obtain ⟨Q, hQ⟩ : ∃ Q : zQ, Q = (zqv (some (zi ((wP D (Hd D x (-1)) : Nat) : Int))) (fun τ => zOK τ ∧ QP D σ τ ∧ τ.1 261 6 = 0)) := ⟨_, rfl⟩
  rw [← hQ]
  refine zx_enter hfl (by decide) rfl 1 rfl ?_
  show zX l w mX10_printerAfter (zMQ w 10 0 Q) 0 [zf 10 261, zi x, zu] [] 0 σ
  have hP : 0 ≤ D 1 0 ∧ D 1 0 ≤ 8 := hW.1.1
  have hM : 0 ≤ D 1 7 ∧ D 1 7 ≤ 8 := hW.1.2.1
  have hE : 0 ≤ D 1 10 ∧ D 1 10 ≤ 12 := hW.1.2.2.1
  have hK : 0 ≤ D 12 0 ∧ D 12 0 ≤ 40 := hW.1.2.2.2
  have r0 : σ.1 262 0 = D 1 0 := hR.1.1
  have r1 : σ.1 262 1 = D 1 7 := hR.1.2.1
  have r2 : σ.1 262 2 = D 1 10 := hR.1.2.2.1
  have r3 : σ.1 262 3 = D 12 0 := hR.1.2.2.2
  have hWx := WF_rdB hW x
  have hwl := wP_l (H := Ht (rdB D x)) hWx (show 1 ≤ rdB D x 1 0 from hP1)
  have hyb := wY_b hWx (show 1 ≤ rdB D x 1 0 from hP1)
  rw [wP_rd] at hwl
  rw [wY_rd] at hyb
  have hwl2 : ((wP D (Hd D x (-1)) : Nat) : Int) < D 1 0 := hwl
  refine zx_aloadN dX10_printerAfter_0 rfl rfl ?_
  refine zx_iloadN dX10_printerAfter_1 rfl rfl ?_
  refine zy_cs [zi x] (sX10_areMore  hfl hz (by first | exact hz _ _ | assumption | exact zr_b _ | exact zcmp_r _ _ | (unfold zr at *; omega))) dX10_printerAfter_2 cw_RX10_430 okX10_areMore rfl (Nat.le_of_ble_eq_true rfl) ⟨Nat.le_of_ble_eq_true rfl, Nat.le_of_ble_eq_true rfl, Nat.le_of_ble_eq_true rfl, Nat.le_of_ble_eq_true rfl⟩ ?_
  refine zy_cv [zi (zb (0 ≤ x ∧ x ≤ 40))] (sX10_passes (A := (0 ≤ x ∧ x ≤ 40)) hfl hz ) dX10_printerAfter_5 (by decide) rfl cw_RX10_220 okX10_passes rfl (Nat.le_of_ble_eq_true rfl) ⟨Nat.le_of_ble_eq_true rfl, Nat.le_of_ble_eq_true rfl, Nat.le_of_ble_eq_true rfl, Nat.le_of_ble_eq_true rfl⟩ ?_
  refine zx_if_ne (tgt := 13) (by first | exact hz _ _ | assumption | exact zr_b _ | exact zcmp_r _ _ | (unfold zr at *; omega)) dX10_printerAfter_8 (by decide) (fun h8 => ?_) (fun h8 => ?_)
  · have h8 := zb_n.mp h8
    refine zx_aloadN dX10_printerAfter_13 rfl rfl ?_
    refine zy_cvvR [] (sX10_tries  hfl (zOK_put hz (zr_b _)) ) dX10_printerAfter_14 (by decide) rfl cw_RX10_433 okX10_tries rfl (Nat.le_of_ble_eq_true rfl) ⟨Nat.le_of_ble_eq_true rfl, Nat.le_of_ble_eq_true rfl, Nat.le_of_ble_eq_true rfl, Nat.le_of_ble_eq_true rfl⟩ (fun τ14 hr14 => ?_)
    have hz14 : zOK τ14 := hr14.1
    have hR14 : Rel D (τ14.1 262) := mfr_R (mfr_cpo hr14.2 (by decide)) (by decide) (Rel_put (by decide) hR)
    refine zx_aloadN dX10_printerAfter_17 rfl rfl ?_
    refine zx_iloadN dX10_printerAfter_18 rfl rfl ?_
    refine zy_cvR [zi x] (sX10_reads (D := D) hfl hz14 (by first | assumption | omega) hR14 (by first | assumption | omega)) dX10_printerAfter_19 (by decide) rfl cw_RX10_202 okX10_reads rfl (Nat.le_of_ble_eq_true rfl) ⟨Nat.le_of_ble_eq_true rfl, Nat.le_of_ble_eq_true rfl, Nat.le_of_ble_eq_true rfl, Nat.le_of_ble_eq_true rfl⟩ (fun τ19 hr19 => ?_)
    have hz19 : zOK τ19 := hr19.1
    refine zy_istoreN [zf 10 261, zi x, zi (min x (U D (D 12 0).toNat))] dX10_printerAfter_22 rfl (Nat.le_of_ble_eq_true rfl) (Nat.le_of_ble_eq_true rfl) rfl rfl ?_
    refine zx_aloadN dX10_printerAfter_23 rfl rfl ?_
    refine zx_aloadN dX10_printerAfter_24 rfl rfl ?_
    refine zy_cvR [] (sX10_verdict (D := (rdB D x)) hfl hz19 hWx hr19.2.2 (show 1 ≤ rdB D x 1 0 from hP1)) dX10_printerAfter_25 (by decide) rfl cw_RX10_160 okX10_verdict rfl (Nat.le_of_ble_eq_true rfl) ⟨Nat.le_of_ble_eq_true rfl, Nat.le_of_ble_eq_true rfl, Nat.le_of_ble_eq_true rfl, Nat.le_of_ble_eq_true rfl⟩ (fun τ25 hr25 => ?_)
    have hz25 : zOK τ25 := hr25.1
    refine zy_top (b := ((wP D (Hd D x (-1)) : Nat) : Int)) (by rw [wP_rd]) ?_
    refine zy_cvR [zi ((wP D (Hd D x (-1)) : Nat) : Int)] (sX10_laidBack  hfl hz25 ) dX10_printerAfter_28 (by decide) rfl cw_RX10_436 okX10_laidBack rfl (Nat.le_of_ble_eq_true rfl) ⟨Nat.le_of_ble_eq_true rfl, Nat.le_of_ble_eq_true rfl, Nat.le_of_ble_eq_true rfl, Nat.le_of_ble_eq_true rfl⟩ (fun τ28 hr28 => ?_)
    have hz28 : zOK τ28 := hr28.1
    refine zx_iret rfl rfl dX10_printerAfter_31 ?_
    rw [hQ]
    refine ⟨congrArg (fun z : Int => (Sum.inl (some (zi z)) : Option zV ⊕ String)) ?_, ?_⟩
    · rfl
    have hm : mfr τ14 τ25 (fun k => k = 262 ∨ k = 267 ∨ k = 268) (fun i => (9 ≤ i ∧ i ≤ 11) ∨ i = 13) := mfr_tr hr19.2.1 hr25.2.1 (fun k q => by omega) (fun k q => by first | omega | (rcases q with q | q; exact absurd q id; omega))
    have ht := tb_ok hW (Rel_put (by decide) hR) hr14.2 hm (fun k q => q) (fun i q => by unfold qF; omega) hr28.2
    exact ⟨hz28, QP_tr (QP_th hR) ht.1, ht.2.trans ((zput_s _ _ _ _).trans (zb_f (fun q => q hw0)))⟩
  · have h8 := zb_0.mp h8
    first | exact absurd hw0 (by assumption) | (exfalso; omega)
set_option maxRecDepth 20000 in
set_option maxHeartbeats 2000000 in
theorem sX10_yearAfter_t1 {l : Launch} {w : zW} (hfl : l.stackTraces = false) {σ : zS} {D : zBk} {x : Int} (hz : zOK σ) (hW : WF D) (hR : Rel D (σ.1 262)) (hP1 : 1 ≤ D 1 0) (hx : zr x) (hw0 : ¬ (0 ≤ x ∧ x ≤ 40)) : Sp l w mX10_yearAfter 11 0 [zf 10 261, zi x] σ (zqv (some (zi 0)) (fun τ => zOK τ ∧ QP D σ τ ∧ τ.1 261 6 = 1)) := by
  obtain ⟨Q, hQ⟩ : ∃ Q : zQ, Q = (zqv (some (zi 0)) (fun τ => zOK τ ∧ QP D σ τ ∧ τ.1 261 6 = 1)) := ⟨_, rfl⟩
  rw [← hQ]
  refine zx_enter hfl (by decide) rfl 1 rfl ?_
  show zX l w mX10_yearAfter (zMQ w 11 0 Q) 0 [zf 10 261, zi x, zu] [] 0 σ
  have hP : 0 ≤ D 1 0 ∧ D 1 0 ≤ 8 := hW.1.1
  have hM : 0 ≤ D 1 7 ∧ D 1 7 ≤ 8 := hW.1.2.1
  have hE : 0 ≤ D 1 10 ∧ D 1 10 ≤ 12 := hW.1.2.2.1
  have hK : 0 ≤ D 12 0 ∧ D 12 0 ≤ 40 := hW.1.2.2.2
  have r0 : σ.1 262 0 = D 1 0 := hR.1.1
  have r1 : σ.1 262 1 = D 1 7 := hR.1.2.1
  have r2 : σ.1 262 2 = D 1 10 := hR.1.2.2.1
  have r3 : σ.1 262 3 = D 12 0 := hR.1.2.2.2
  refine zx_aloadN dX10_yearAfter_0 rfl rfl ?_
  refine zx_iloadN dX10_yearAfter_1 rfl rfl ?_
  refine zy_cs [zi x] (sX10_areMore  hfl hz (by first | exact hz _ _ | assumption | exact zr_b _ | exact zcmp_r _ _ | (unfold zr at *; omega))) dX10_yearAfter_2 cw_RX10_430 okX10_areMore rfl (Nat.le_of_ble_eq_true rfl) ⟨Nat.le_of_ble_eq_true rfl, Nat.le_of_ble_eq_true rfl, Nat.le_of_ble_eq_true rfl, Nat.le_of_ble_eq_true rfl⟩ ?_
  refine zy_cv [zi (zb (0 ≤ x ∧ x ≤ 40))] (sX10_passes (A := (0 ≤ x ∧ x ≤ 40)) hfl hz ) dX10_yearAfter_5 (by decide) rfl cw_RX10_220 okX10_passes rfl (Nat.le_of_ble_eq_true rfl) ⟨Nat.le_of_ble_eq_true rfl, Nat.le_of_ble_eq_true rfl, Nat.le_of_ble_eq_true rfl, Nat.le_of_ble_eq_true rfl⟩ ?_
  refine zx_if_ne (tgt := 13) (by first | exact hz _ _ | assumption | exact zr_b _ | exact zcmp_r _ _ | (unfold zr at *; omega)) dX10_yearAfter_8 (by decide) (fun h8 => ?_) (fun h8 => ?_)
  · have h8 := zb_n.mp h8
    first | exact absurd (by assumption) hw0 | (exfalso; omega)
  · have h8 := zb_0.mp h8
    refine zx_iconst dX10_yearAfter_11 ?_
    refine zx_iret rfl rfl dX10_yearAfter_12 ?_
    rw [hQ]
    refine ⟨congrArg (fun z : Int => (Sum.inl (some (zi z)) : Option zV ⊕ String)) ?_, ?_⟩
    · rfl
    exact ⟨(zOK_put hz (zr_b _)), QP_th hR, (zput_s _ _ _ _).trans (zb_t hw0)⟩
set_option maxRecDepth 20000 in
set_option maxHeartbeats 2000000 in
theorem sX10_yearAfter {l : Launch} {w : zW} (hfl : l.stackTraces = false) {σ : zS} {D : zBk} {x : Int} (hz : zOK σ) (hW : WF D) (hR : Rel D (σ.1 262)) (hP1 : 1 ≤ D 1 0) (hx : zr x) (hw0 : 0 ≤ x ∧ x ≤ 40) : Sp l w mX10_yearAfter 11 0 [zf 10 261, zi x] σ (zqv (some (zi (wY D (Hd D x (-1))))) (fun τ => zOK τ ∧ QP D σ τ ∧ τ.1 261 6 = 0)) := by
  obtain ⟨Q, hQ⟩ : ∃ Q : zQ, Q = (zqv (some (zi (wY D (Hd D x (-1))))) (fun τ => zOK τ ∧ QP D σ τ ∧ τ.1 261 6 = 0)) := ⟨_, rfl⟩
  rw [← hQ]
  refine zx_enter hfl (by decide) rfl 1 rfl ?_
  show zX l w mX10_yearAfter (zMQ w 11 0 Q) 0 [zf 10 261, zi x, zu] [] 0 σ
  have hP : 0 ≤ D 1 0 ∧ D 1 0 ≤ 8 := hW.1.1
  have hM : 0 ≤ D 1 7 ∧ D 1 7 ≤ 8 := hW.1.2.1
  have hE : 0 ≤ D 1 10 ∧ D 1 10 ≤ 12 := hW.1.2.2.1
  have hK : 0 ≤ D 12 0 ∧ D 12 0 ≤ 40 := hW.1.2.2.2
  have r0 : σ.1 262 0 = D 1 0 := hR.1.1
  have r1 : σ.1 262 1 = D 1 7 := hR.1.2.1
  have r2 : σ.1 262 2 = D 1 10 := hR.1.2.2.1
  have r3 : σ.1 262 3 = D 12 0 := hR.1.2.2.2
  have hWx := WF_rdB hW x
  have hwl := wP_l (H := Ht (rdB D x)) hWx (show 1 ≤ rdB D x 1 0 from hP1)
  have hyb := wY_b hWx (show 1 ≤ rdB D x 1 0 from hP1)
  rw [wP_rd] at hwl
  rw [wY_rd] at hyb
  have hwl2 : ((wP D (Hd D x (-1)) : Nat) : Int) < D 1 0 := hwl
  refine zx_aloadN dX10_yearAfter_0 rfl rfl ?_
  refine zx_iloadN dX10_yearAfter_1 rfl rfl ?_
  refine zy_cs [zi x] (sX10_areMore  hfl hz (by first | exact hz _ _ | assumption | exact zr_b _ | exact zcmp_r _ _ | (unfold zr at *; omega))) dX10_yearAfter_2 cw_RX10_430 okX10_areMore rfl (Nat.le_of_ble_eq_true rfl) ⟨Nat.le_of_ble_eq_true rfl, Nat.le_of_ble_eq_true rfl, Nat.le_of_ble_eq_true rfl, Nat.le_of_ble_eq_true rfl⟩ ?_
  refine zy_cv [zi (zb (0 ≤ x ∧ x ≤ 40))] (sX10_passes (A := (0 ≤ x ∧ x ≤ 40)) hfl hz ) dX10_yearAfter_5 (by decide) rfl cw_RX10_220 okX10_passes rfl (Nat.le_of_ble_eq_true rfl) ⟨Nat.le_of_ble_eq_true rfl, Nat.le_of_ble_eq_true rfl, Nat.le_of_ble_eq_true rfl, Nat.le_of_ble_eq_true rfl⟩ ?_
  refine zx_if_ne (tgt := 13) (by first | exact hz _ _ | assumption | exact zr_b _ | exact zcmp_r _ _ | (unfold zr at *; omega)) dX10_yearAfter_8 (by decide) (fun h8 => ?_) (fun h8 => ?_)
  · have h8 := zb_n.mp h8
    refine zx_aloadN dX10_yearAfter_13 rfl rfl ?_
    refine zy_cvvR [] (sX10_tries  hfl (zOK_put hz (zr_b _)) ) dX10_yearAfter_14 (by decide) rfl cw_RX10_433 okX10_tries rfl (Nat.le_of_ble_eq_true rfl) ⟨Nat.le_of_ble_eq_true rfl, Nat.le_of_ble_eq_true rfl, Nat.le_of_ble_eq_true rfl, Nat.le_of_ble_eq_true rfl⟩ (fun τ14 hr14 => ?_)
    have hz14 : zOK τ14 := hr14.1
    have hR14 : Rel D (τ14.1 262) := mfr_R (mfr_cpo hr14.2 (by decide)) (by decide) (Rel_put (by decide) hR)
    refine zx_aloadN dX10_yearAfter_17 rfl rfl ?_
    refine zx_iloadN dX10_yearAfter_18 rfl rfl ?_
    refine zy_cvR [zi x] (sX10_reads (D := D) hfl hz14 (by first | assumption | omega) hR14 (by first | assumption | omega)) dX10_yearAfter_19 (by decide) rfl cw_RX10_202 okX10_reads rfl (Nat.le_of_ble_eq_true rfl) ⟨Nat.le_of_ble_eq_true rfl, Nat.le_of_ble_eq_true rfl, Nat.le_of_ble_eq_true rfl, Nat.le_of_ble_eq_true rfl⟩ (fun τ19 hr19 => ?_)
    have hz19 : zOK τ19 := hr19.1
    refine zy_istoreN [zf 10 261, zi x, zi (min x (U D (D 12 0).toNat))] dX10_yearAfter_22 rfl (Nat.le_of_ble_eq_true rfl) (Nat.le_of_ble_eq_true rfl) rfl rfl ?_
    refine zx_aloadN dX10_yearAfter_23 rfl rfl ?_
    refine zx_aloadN dX10_yearAfter_24 rfl rfl ?_
    refine zy_cvR [] (sX10_yearOfVerdict (D := (rdB D x)) hfl hz19 hWx hr19.2.2 (show 1 ≤ rdB D x 1 0 from hP1)) dX10_yearAfter_25 (by decide) rfl cw_RX10_166 okX10_yearOfVerdict rfl (Nat.le_of_ble_eq_true rfl) ⟨Nat.le_of_ble_eq_true rfl, Nat.le_of_ble_eq_true rfl, Nat.le_of_ble_eq_true rfl, Nat.le_of_ble_eq_true rfl⟩ (fun τ25 hr25 => ?_)
    have hz25 : zOK τ25 := hr25.1
    refine zy_top (b := wY D (Hd D x (-1))) (by rw [wY_rd]) ?_
    refine zy_cvR [zi (wY D (Hd D x (-1)))] (sX10_laidBack  hfl hz25 ) dX10_yearAfter_28 (by decide) rfl cw_RX10_436 okX10_laidBack rfl (Nat.le_of_ble_eq_true rfl) ⟨Nat.le_of_ble_eq_true rfl, Nat.le_of_ble_eq_true rfl, Nat.le_of_ble_eq_true rfl, Nat.le_of_ble_eq_true rfl⟩ (fun τ28 hr28 => ?_)
    have hz28 : zOK τ28 := hr28.1
    refine zx_iret rfl rfl dX10_yearAfter_31 ?_
    rw [hQ]
    refine ⟨congrArg (fun z : Int => (Sum.inl (some (zi z)) : Option zV ⊕ String)) ?_, ?_⟩
    · rfl
    have hm : mfr τ14 τ25 (fun k => k = 262 ∨ k = 267 ∨ k = 268) (fun i => (9 ≤ i ∧ i ≤ 11) ∨ i = 13) := mfr_tr hr19.2.1 hr25.2.1 (fun k q => by omega) (fun k q => by first | omega | (rcases q with q | q; exact absurd q id; omega))
    have ht := tb_ok hW (Rel_put (by decide) hR) hr14.2 hm (fun k q => q) (fun i q => by unfold qF; omega) hr28.2
    exact ⟨hz28, QP_tr (QP_th hR) ht.1, ht.2.trans ((zput_s _ _ _ _).trans (zb_f (fun q => q hw0)))⟩
  · have h8 := zb_0.mp h8
    first | exact absurd hw0 (by assumption) | (exfalso; omega)
set_option maxRecDepth 20000 in
set_option maxHeartbeats 2000000 in
theorem sX10_cluesUntilChange {l : Launch} {w : zW} (hfl : l.stackTraces = false) {σ : zS} {D : zBk}  (hz : zOK σ) (hW : WF D) (hR : Rel D (σ.1 262)) (hP1 : 1 ≤ D 1 0) : Sp l w mX10_cluesUntilChange 10 0 [zf 10 261] σ (zqv (some (zi (cuc D))) (fun τ => zOK τ ∧ QP D σ τ ∧ τ.1 261 6 = 0)) := by
  obtain ⟨Q, hQ⟩ : ∃ Q : zQ, Q = (zqv (some (zi (cuc D))) (fun τ => zOK τ ∧ QP D σ τ ∧ τ.1 261 6 = 0)) := ⟨_, rfl⟩
  rw [← hQ]
  refine zx_enter hfl (by decide) rfl 2 rfl ?_
  show zX l w mX10_cluesUntilChange (zMQ w 10 0 Q) 0 [zf 10 261, zu, zu] [] 0 σ
  have hP : 0 ≤ D 1 0 ∧ D 1 0 ≤ 8 := hW.1.1
  have hM : 0 ≤ D 1 7 ∧ D 1 7 ≤ 8 := hW.1.2.1
  have hE : 0 ≤ D 1 10 ∧ D 1 10 ≤ 12 := hW.1.2.2.1
  have hK : 0 ≤ D 12 0 ∧ D 12 0 ≤ 40 := hW.1.2.2.2
  have r0 : σ.1 262 0 = D 1 0 := hR.1.1
  have r1 : σ.1 262 1 = D 1 7 := hR.1.2.1
  have r2 : σ.1 262 2 = D 1 10 := hR.1.2.2.1
  have r3 : σ.1 262 3 = D 12 0 := hR.1.2.2.2
  have hwl := wP_l (H := Ht D) hW hP1
  have hwb := wS_b hW
  have hyb := wY_b hW hP1
  have hUb := U_b D (D 12 0).toNat
  refine zx_aloadN dX10_cluesUntilChange_0 rfl rfl ?_
  refine zx_iconst dX10_cluesUntilChange_1 ?_
  refine zx_putI fl_RX10_67 rfl (Or.inl fp_10_6) dX10_cluesUntilChange_2 ?_
  refine zx_aloadN dX10_cluesUntilChange_5 rfl rfl ?_
  refine zy_cvR [] (sX10_verdict (D := D) hfl (zOK_put hz (by unfold zr; omega)) (by first | assumption | omega) (by first | assumption | (refine Rel_put (by decide) ?_; assumption) | (refine Rel_put (by decide) (Rel_put (by decide) ?_); assumption) | (refine Rel_put (by decide) (Rel_put (by decide) (Rel_put (by decide) ?_)); assumption)) (by first | assumption | omega)) dX10_cluesUntilChange_6 (by decide) rfl cw_RX10_160 okX10_verdict rfl (Nat.le_of_ble_eq_true rfl) ⟨Nat.le_of_ble_eq_true rfl, Nat.le_of_ble_eq_true rfl, Nat.le_of_ble_eq_true rfl, Nat.le_of_ble_eq_true rfl⟩ (fun τ6 hr6 => ?_)
  have hz6 : zOK τ6 := hr6.1
  have hR6 : Rel D (τ6.1 262) := mfr_R hr6.2.1 (by omega) (Rel_put (by decide) hR)
  refine zy_istoreN [zf 10 261, zi ((wP D (Ht D) : Nat) : Int), zu] dX10_cluesUntilChange_9 rfl (Nat.le_of_ble_eq_true rfl) (Nat.le_of_ble_eq_true rfl) rfl rfl ?_
  refine zx_aloadN dX10_cluesUntilChange_10 rfl rfl ?_
  refine zy_cvvR [] (sX10_tries  hfl hz6 ) dX10_cluesUntilChange_11 (by decide) rfl cw_RX10_433 okX10_tries rfl (Nat.le_of_ble_eq_true rfl) ⟨Nat.le_of_ble_eq_true rfl, Nat.le_of_ble_eq_true rfl, Nat.le_of_ble_eq_true rfl, Nat.le_of_ble_eq_true rfl⟩ (fun τ11 hr11 => ?_)
  have hz11 : zOK τ11 := hr11.1
  have hR11 : Rel D (τ11.1 262) := mfr_R (mfr_cpo hr11.2 (by decide)) (by decide) hR6
  refine zx_iconst dX10_cluesUntilChange_14 ?_
  refine zy_istoreN [zf 10 261, zi ((wP D (Ht D) : Nat) : Int), zi 1] dX10_cluesUntilChange_15 rfl (Nat.le_of_ble_eq_true rfl) (Nat.le_of_ble_eq_true rfl) rfl rfl ?_
  have L16 : ∀ (N : Nat) (τ : zS) (n : Nat), (zOK τ) → (1 ≤ n ∧ n ≤ 41) → (mfr τ11 τ (fun k => k = 262 ∨ k = 267 ∨ k = 268) (fun i => 9 ≤ i ∧ i ≤ 11)) → (Rel (rdB D ((n - 1 : Nat) : Int)) (τ.1 262)) → (∀ i, i + 1 < n → ¬ ¬ wP D (Hd D ((i + 1 : Nat) : Int) (-1)) = wP D (Ht D)) → (42 - n) < N → zX l w mX10_cluesUntilChange (zMQ w 10 0 Q) 16 [zf 10 261, zi ((wP D (Ht D) : Nat) : Int), zi ((n : Nat) : Int)] [] 0 τ := by
    intro N
    induction N with
    | zero => intro τ n _ _ _ _ _ _; exact absurd (by assumption) (Nat.not_lt_zero _)
    | succ N ih16 =>
      intro τ n hz hn h1 h2 hj hN
      have ho := rd_one hW (n := ((n - 1 : Nat) : Int)) (by omega)
      rw [show ((n - 1 : Nat) : Int) + 1 = ((n : Nat) : Int) by omega] at ho
      have hWm := WF_rdB hW ((n - 1 : Nat) : Int)
      have hWn := WF_rdB hW ((n : Nat) : Int)
      have hwn := wP_l (H := Ht (rdB D ((n : Nat) : Int))) hWn (show 1 ≤ rdB D ((n : Nat) : Int) 1 0 from hP1)
      rw [wP_rd] at hwn
      have hwn2 : ((wP D (Hd D ((n : Nat) : Int) (-1)) : Nat) : Int) < D 1 0 := hwn
      refine zx_aloadN dX10_cluesUntilChange_16 rfl rfl ?_
      refine zx_iconst dX10_cluesUntilChange_17 ?_
      refine zy_cvR [zi 1] (sX10_reads (D := (rdB D ((n - 1 : Nat) : Int))) hfl hz hWm h2 (by first | assumption | omega)) dX10_cluesUntilChange_18 (by decide) rfl cw_RX10_202 okX10_reads rfl (Nat.le_of_ble_eq_true rfl) ⟨Nat.le_of_ble_eq_true rfl, Nat.le_of_ble_eq_true rfl, Nat.le_of_ble_eq_true rfl, Nat.le_of_ble_eq_true rfl⟩ (fun τ18 hr18 => ?_)
      have hz18 : zOK τ18 := hr18.1
      refine zy_top (b := min 1 (U (rdB D ((n - 1 : Nat) : Int)) (D 12 0).toNat)) (rfl) ?_
      have hUm := U_b (rdB D ((n - 1 : Nat) : Int)) (D 12 0).toNat
      refine zx_iconst dX10_cluesUntilChange_21 ?_
      refine zx_icmp_ne (tgt := 45) (by first | exact hz18 _ _ | assumption | exact zr_b _ | exact zcmp_r _ _ | (unfold zr at *; omega)) (by first | exact hz18 _ _ | assumption | exact zr_b _ | exact zcmp_r _ _ | (unfold zr at *; omega)) dX10_cluesUntilChange_22 (by decide) (fun h22 => ?_) (fun h22 => ?_)
      · refine zx_aloadN dX10_cluesUntilChange_45 rfl rfl ?_
        refine zx_iconst dX10_cluesUntilChange_46 ?_
        refine zy_cvR [zi (-1)] (sX10_laidBack  hfl hz18 ) dX10_cluesUntilChange_47 (by decide) rfl cw_RX10_436 okX10_laidBack rfl (Nat.le_of_ble_eq_true rfl) ⟨Nat.le_of_ble_eq_true rfl, Nat.le_of_ble_eq_true rfl, Nat.le_of_ble_eq_true rfl, Nat.le_of_ble_eq_true rfl⟩ (fun τ47 hr47 => ?_)
        have hz47 : zOK τ47 := hr47.1
        refine zx_iret rfl rfl dX10_cluesUntilChange_50 ?_
        rw [hQ]
        refine ⟨congrArg (fun z : Int => (Sum.inl (some (zi z)) : Option zV ⊕ String)) ?_, ?_⟩
        · first
          | (have e := cuc_at (D := D) (i := n - 1) (by omega) (fun j hj2 => hj j (by omega)) (by rw [show n - 1 + 1 = n by omega]; omega)
             rw [e]; omega)
          | (rcases ho with q | q
             · exact (cuc_no (fun j hj2 => hj j (by omega))).symm
             · exfalso; omega)
        first
        | (have ht := tb_ok hW hR6 hr11.2 (mfr_tr h1 hm26 (fun k q => q.elim id id) (fun k q => q.elim id id)) (fun k q => q) (fun i q => by unfold qF; omega) hr35.2
           exact ⟨hz47, QP_tr (QP_a (QP_th hR) hr6.2.1 (by omega) (fun k q => by unfold qA; omega) (fun k q => by unfold qF; omega)) ht.1, ht.2.trans ((hr6.2.1.2.1 6 (by omega)).trans (zput_s _ _ _ _))⟩)
        | (have hm : mfr τ11 τ18 (fun k => k = 262 ∨ k = 267 ∨ k = 268) (fun i => 9 ≤ i ∧ i ≤ 11) := mfr_tr h1 hr18.2.1 (fun k q => by omega) (fun k q => by first | omega | (rcases q with q | q; omega; exact absurd q id))
           have ht := tb_ok hW hR6 hr11.2 hm (fun k q => q) (fun i q => by unfold qF; omega) hr47.2
           exact ⟨hz47, QP_tr (QP_a (QP_th hR) hr6.2.1 (by omega) (fun k q => by unfold qA; omega) (fun k q => by unfold qF; omega)) ht.1, ht.2.trans ((hr6.2.1.2.1 6 (by omega)).trans (zput_s _ _ _ _))⟩)
      · have ho2 := ho.resolve_left (fun q => by omega)
        have hRn := Rel_l ho2.2.2 hr18.2.2
        refine zx_aloadN dX10_cluesUntilChange_25 rfl rfl ?_
        refine zy_cvR [] (sX10_verdict (D := (rdB D ((n : Nat) : Int))) hfl hz18 hWn hRn (show 1 ≤ rdB D ((n : Nat) : Int) 1 0 from hP1)) dX10_cluesUntilChange_26 (by decide) rfl cw_RX10_160 okX10_verdict rfl (Nat.le_of_ble_eq_true rfl) ⟨Nat.le_of_ble_eq_true rfl, Nat.le_of_ble_eq_true rfl, Nat.le_of_ble_eq_true rfl, Nat.le_of_ble_eq_true rfl⟩ (fun τ26 hr26 => ?_)
        have hz26 : zOK τ26 := hr26.1
        refine zy_top (b := ((wP D (Hd D ((n : Nat) : Int) (-1)) : Nat) : Int)) (by rw [wP_rd]) ?_
        have hm26 : mfr τ τ26 (fun k => k = 262 ∨ k = 267 ∨ k = 268) (fun i => 9 ≤ i ∧ i ≤ 11) := mfr_tr hr18.2.1 hr26.2.1 (fun k q => by omega) (fun k q => by first | omega | (rcases q with q | q; exact absurd q id; omega))
        refine zx_iloadN dX10_cluesUntilChange_29 rfl rfl ?_
        refine zx_icmp_eq (tgt := 39) (by first | exact hz26 _ _ | assumption | exact zr_b _ | exact zcmp_r _ _ | (unfold zr at *; omega)) (by first | exact hz26 _ _ | assumption | exact zr_b _ | exact zcmp_r _ _ | (unfold zr at *; omega)) dX10_cluesUntilChange_30 (by decide) (fun h30 => ?_) (fun h30 => ?_)
        · refine zy_iinc (b := ((n + 1 : Nat) : Int)) [zf 10 261, zi ((wP D (Ht D) : Nat) : Int), zi ((n + 1 : Nat) : Int)] dX10_cluesUntilChange_39 rfl (by omega) (Nat.le_of_ble_eq_true rfl) rfl rfl ?_
          refine zx_goto (tgt := 16) dX10_cluesUntilChange_42 (by decide) ?_
          exact ih16 τ26 (n + 1) hz26 (by omega) (mfr_tr h1 hm26 (fun k q => by omega) (fun k q => by omega)) (by rw [Nat.add_sub_cancel]; exact mfr_R hr26.2.1 (by omega) hRn) (fun i hi => by
        by_cases e : i + 1 = n
        · rw [e]; exact fun q => q (by omega)
        · exact hj i (by omega)) (by omega)
        · refine zx_aloadN dX10_cluesUntilChange_33 rfl rfl ?_
          refine zx_iloadN dX10_cluesUntilChange_34 rfl rfl ?_
          refine zy_cvR [zi ((n : Nat) : Int)] (sX10_laidBack  hfl hz26 ) dX10_cluesUntilChange_35 (by decide) rfl cw_RX10_436 okX10_laidBack rfl (Nat.le_of_ble_eq_true rfl) ⟨Nat.le_of_ble_eq_true rfl, Nat.le_of_ble_eq_true rfl, Nat.le_of_ble_eq_true rfl, Nat.le_of_ble_eq_true rfl⟩ (fun τ35 hr35 => ?_)
          have hz35 : zOK τ35 := hr35.1
          refine zx_iret rfl rfl dX10_cluesUntilChange_38 ?_
          rw [hQ]
          refine ⟨congrArg (fun z : Int => (Sum.inl (some (zi z)) : Option zV ⊕ String)) ?_, ?_⟩
          · first
            | (have e := cuc_at (D := D) (i := n - 1) (by omega) (fun j hj2 => hj j (by omega)) (by rw [show n - 1 + 1 = n by omega]; omega)
               rw [e]; omega)
            | (rcases ho with q | q
               · exact (cuc_no (fun j hj2 => hj j (by omega))).symm
               · exfalso; omega)
          first
          | (have ht := tb_ok hW hR6 hr11.2 (mfr_tr h1 hm26 (fun k q => q.elim id id) (fun k q => q.elim id id)) (fun k q => q) (fun i q => by unfold qF; omega) hr35.2
             exact ⟨hz35, QP_tr (QP_a (QP_th hR) hr6.2.1 (by omega) (fun k q => by unfold qA; omega) (fun k q => by unfold qF; omega)) ht.1, ht.2.trans ((hr6.2.1.2.1 6 (by omega)).trans (zput_s _ _ _ _))⟩)
          | (have hm : mfr τ11 τ18 (fun k => k = 262 ∨ k = 267 ∨ k = 268) (fun i => 9 ≤ i ∧ i ≤ 11) := mfr_tr h1 hr18.2.1 (fun k q => by omega) (fun k q => by first | omega | (rcases q with q | q; omega; exact absurd q id))
             have ht := tb_ok hW hR6 hr11.2 hm (fun k q => q) (fun i q => by unfold qF; omega) hr47.2
             exact ⟨hz35, QP_tr (QP_a (QP_th hR) hr6.2.1 (by omega) (fun k q => by unfold qA; omega) (fun k q => by unfold qF; omega)) ht.1, ht.2.trans ((hr6.2.1.2.1 6 (by omega)).trans (zput_s _ _ _ _))⟩)
  exact L16 _ τ11 1 hz11 (by omega) (mfr_rf _ _ _) (Rel_l (rdB_0 hW) hR11) (fun i hi => by omega) (Nat.lt_succ_self _)
set_option maxRecDepth 20000 in
set_option maxHeartbeats 2000000 in
theorem sX10_isDecisive {l : Launch} {w : zW} (hfl : l.stackTraces = false) {σ : zS} {D : zBk} {c u : Nat} (hz : zOK σ) (hW : WF D) (hR : Rel D (σ.1 262)) (hc : (c : Int) < D 12 0) (hP1 : 1 ≤ D 1 0) (hH : Ht D c) (hu : (u : Int) < D 1 0) : Sp l w mX10_isDecisive 10 0 [zf 10 261, zi ((c : Nat) : Int), zi ((u : Nat) : Int)] σ (zqv (some (zi (zb (¬ wP D (Hd D 0 ((c : Nat) : Int)) = u)))) (fun τ => zOK τ ∧ mfr σ τ (fun k => k = 262 ∨ k = 267 ∨ k = 268) (fun i => 9 ≤ i ∧ i ≤ 11) ∧ Rel D (τ.1 262))) := by
  obtain ⟨Q, hQ⟩ : ∃ Q : zQ, Q = (zqv (some (zi (zb (¬ wP D (Hd D 0 ((c : Nat) : Int)) = u)))) (fun τ => zOK τ ∧ mfr σ τ (fun k => k = 262 ∨ k = 267 ∨ k = 268) (fun i => 9 ≤ i ∧ i ≤ 11) ∧ Rel D (τ.1 262))) := ⟨_, rfl⟩
  rw [← hQ]
  refine zx_enter hfl (by decide) rfl 1 rfl ?_
  show zX l w mX10_isDecisive (zMQ w 10 0 Q) 0 [zf 10 261, zi ((c : Nat) : Int), zi ((u : Nat) : Int), zu] [] 0 σ
  have hP : 0 ≤ D 1 0 ∧ D 1 0 ≤ 8 := hW.1.1
  have hM : 0 ≤ D 1 7 ∧ D 1 7 ≤ 8 := hW.1.2.1
  have hE : 0 ≤ D 1 10 ∧ D 1 10 ≤ 12 := hW.1.2.2.1
  have hK : 0 ≤ D 12 0 ∧ D 12 0 ≤ 40 := hW.1.2.2.2
  have r0 : σ.1 262 0 = D 1 0 := hR.1.1
  have r1 : σ.1 262 1 = D 1 7 := hR.1.2.1
  have r2 : σ.1 262 2 = D 1 10 := hR.1.2.2.1
  have r3 : σ.1 262 3 = D 12 0 := hR.1.2.2.2
  have hWo : WF (ov D 18 c 1) := WF_ovK hW (Or.inr ⟨Or.inr rfl, Or.inr rfl⟩)
  have hwl := wP_l (H := Ht (ov D 18 c 1)) hWo (show 1 ≤ ov D 18 c 1 1 0 from hP1)
  rw [wP_as hW] at hwl
  have hwl2 : ((wP D (Hd D 0 ((c : Nat) : Int)) : Nat) : Int) < D 1 0 := hwl
  refine zx_aloadN dX10_isDecisive_0 rfl rfl ?_
  refine zx_iloadN dX10_isDecisive_1 rfl rfl ?_
  refine zx_iconst dX10_isDecisive_2 ?_
  refine zx_iconst dX10_isDecisive_3 ?_
  refine zy_top (b := 1) (rfl) ?_
  refine zy_cvv [zi ((c : Nat) : Int), zi 5, zi 1] (sX10_puts (c := c) (o := 5) hfl hz (by first | assumption | omega) (by first | assumption | omega) (by first | exact hz _ _ | assumption | exact zr_b _ | exact zcmp_r _ _ | (unfold zr at *; omega))) dX10_isDecisive_4 (by decide) rfl cw_RX10_175 okX10_puts rfl (Nat.le_of_ble_eq_true rfl) ⟨Nat.le_of_ble_eq_true rfl, Nat.le_of_ble_eq_true rfl, Nat.le_of_ble_eq_true rfl, Nat.le_of_ble_eq_true rfl⟩ ?_
  have hRo : Rel (ov D 18 c 1) ((zput σ 262 (140 + 6 * c + 5) 1).1 262) := Rel_putK (o := 5) hW hR hc (by decide)
  refine zx_aloadN dX10_isDecisive_7 rfl rfl ?_
  refine zy_cvR [] (sX10_verdict (D := (ov D 18 c 1)) hfl (zOK_put hz (by first | assumption | exact zr_t _ | (unfold zr; omega))) hWo hRo (show 1 ≤ ov D 18 c 1 1 0 from hP1)) dX10_isDecisive_8 (by decide) rfl cw_RX10_160 okX10_verdict rfl (Nat.le_of_ble_eq_true rfl) ⟨Nat.le_of_ble_eq_true rfl, Nat.le_of_ble_eq_true rfl, Nat.le_of_ble_eq_true rfl, Nat.le_of_ble_eq_true rfl⟩ (fun τ8 hr8 => ?_)
  have hz8 : zOK τ8 := hr8.1
  refine zy_top (b := ((wP D (Hd D 0 ((c : Nat) : Int)) : Nat) : Int)) (by rw [wP_as hW]) ?_
  refine zx_iloadN dX10_isDecisive_11 rfl rfl ?_
  refine zx_icmp_eq (tgt := 19) (by first | exact hz8 _ _ | assumption | exact zr_b _ | exact zcmp_r _ _ | (unfold zr at *; omega)) (by first | exact hz8 _ _ | assumption | exact zr_b _ | exact zcmp_r _ _ | (unfold zr at *; omega)) dX10_isDecisive_12 (by decide) (fun h12 => ?_) (fun h12 => ?_)
  · refine zx_iconst dX10_isDecisive_19 ?_
    refine zy_istoreN [zf 10 261, zi ((c : Nat) : Int), zi ((u : Nat) : Int), zi 0] dX10_isDecisive_20 rfl (Nat.le_of_ble_eq_true rfl) (Nat.le_of_ble_eq_true rfl) rfl rfl ?_
    refine zx_aloadN dX10_isDecisive_21 rfl rfl ?_
    refine zx_iloadN dX10_isDecisive_22 rfl rfl ?_
    refine zx_iconst dX10_isDecisive_23 ?_
    refine zx_iconst dX10_isDecisive_24 ?_
    refine zy_cvv [zi ((c : Nat) : Int), zi 5, zi 0] (sX10_puts (c := c) (o := 5) hfl hz8 (by first | assumption | omega) (by first | assumption | omega) (by first | exact hz8 _ _ | assumption | exact zr_b _ | exact zcmp_r _ _ | (unfold zr at *; omega))) dX10_isDecisive_25 (by decide) rfl cw_RX10_175 okX10_puts rfl (Nat.le_of_ble_eq_true rfl) ⟨Nat.le_of_ble_eq_true rfl, Nat.le_of_ble_eq_true rfl, Nat.le_of_ble_eq_true rfl, Nat.le_of_ble_eq_true rfl⟩ ?_
    refine zx_iloadN dX10_isDecisive_28 rfl rfl ?_
    refine zx_iret rfl rfl dX10_isDecisive_29 ?_
    rw [hQ]
    refine ⟨congrArg (fun z : Int => (Sum.inl (some (zi z)) : Option zV ⊕ String)) ?_, ?_⟩
    · first | exact (zb_t (fun q => absurd (congrArg (fun n : Nat => (n : Int)) q) (by assumption))).symm | exact (zb_f (fun q => q (by omega))).symm
    have hR8 := mfr_R hr8.2.1 (by omega) hRo
    have hRb := Rel_putK (o := 5) (v := 0) (c := c) hWo hR8 (show (c : Int) < ov D 18 c 1 12 0 from hc) (by decide)
    refine ⟨(zOK_put hz8 (by first | assumption | exact zr_t _ | (unfold zr; omega))), mfr_tr (mfr_put (A := fun k => k = 262) (F := fun _ => False) (mfr_rf _ _ _) rfl (by decide)) (mfr_put (A := fun k => k = 262 ∨ k = 267 ∨ k = 268) (F := fun i => 9 ≤ i ∧ i ≤ 11) (mfr_mo hr8.2.1 (fun k q => Or.inr q) (fun k q => q)) (Or.inl rfl) (by decide)) (fun k q => by omega) (fun k q => by first | omega | (rcases q with q | q; exact absurd q id; exact q)), Rel_l (ov_back hH.2) hRb⟩
  · refine zx_iconst dX10_isDecisive_15 ?_
    refine zx_goto (tgt := 20) dX10_isDecisive_16 (by decide) ?_
    refine zy_istoreN [zf 10 261, zi ((c : Nat) : Int), zi ((u : Nat) : Int), zi 1] dX10_isDecisive_20 rfl (Nat.le_of_ble_eq_true rfl) (Nat.le_of_ble_eq_true rfl) rfl rfl ?_
    refine zx_aloadN dX10_isDecisive_21 rfl rfl ?_
    refine zx_iloadN dX10_isDecisive_22 rfl rfl ?_
    refine zx_iconst dX10_isDecisive_23 ?_
    refine zx_iconst dX10_isDecisive_24 ?_
    refine zy_cvv [zi ((c : Nat) : Int), zi 5, zi 0] (sX10_puts (c := c) (o := 5) hfl hz8 (by first | assumption | omega) (by first | assumption | omega) (by first | exact hz8 _ _ | assumption | exact zr_b _ | exact zcmp_r _ _ | (unfold zr at *; omega))) dX10_isDecisive_25 (by decide) rfl cw_RX10_175 okX10_puts rfl (Nat.le_of_ble_eq_true rfl) ⟨Nat.le_of_ble_eq_true rfl, Nat.le_of_ble_eq_true rfl, Nat.le_of_ble_eq_true rfl, Nat.le_of_ble_eq_true rfl⟩ ?_
    refine zx_iloadN dX10_isDecisive_28 rfl rfl ?_
    refine zx_iret rfl rfl dX10_isDecisive_29 ?_
    rw [hQ]
    refine ⟨congrArg (fun z : Int => (Sum.inl (some (zi z)) : Option zV ⊕ String)) ?_, ?_⟩
    · first | exact (zb_t (fun q => absurd (congrArg (fun n : Nat => (n : Int)) q) (by assumption))).symm | exact (zb_f (fun q => q (by omega))).symm
    have hR8 := mfr_R hr8.2.1 (by omega) hRo
    have hRb := Rel_putK (o := 5) (v := 0) (c := c) hWo hR8 (show (c : Int) < ov D 18 c 1 12 0 from hc) (by decide)
    refine ⟨(zOK_put hz8 (by first | assumption | exact zr_t _ | (unfold zr; omega))), mfr_tr (mfr_put (A := fun k => k = 262) (F := fun _ => False) (mfr_rf _ _ _) rfl (by decide)) (mfr_put (A := fun k => k = 262 ∨ k = 267 ∨ k = 268) (F := fun i => 9 ≤ i ∧ i ≤ 11) (mfr_mo hr8.2.1 (fun k q => Or.inr q) (fun k q => q)) (Or.inl rfl) (by decide)) (fun k q => by omega) (fun k q => by first | omega | (rcases q with q | q; exact absurd q id; exact q)), Rel_l (ov_back hH.2) hRb⟩
set_option maxRecDepth 20000 in
set_option maxHeartbeats 2000000 in
theorem sX10_decisiveClue {l : Launch} {w : zW} (hfl : l.stackTraces = false) {σ : zS} {D : zBk}  (hz : zOK σ) (hW : WF D) (hR : Rel D (σ.1 262)) (hP1 : 1 ≤ D 1 0) : Sp l w mX10_decisiveClue 11 0 [zf 10 261] σ (zqv (some (zi (dcs D))) (fun τ => zOK τ ∧ QP D σ τ ∧ τ.1 261 6 = 0)) := by
  obtain ⟨Q, hQ⟩ : ∃ Q : zQ, Q = (zqv (some (zi (dcs D))) (fun τ => zOK τ ∧ QP D σ τ ∧ τ.1 261 6 = 0)) := ⟨_, rfl⟩
  rw [← hQ]
  refine zx_enter hfl (by decide) rfl 2 rfl ?_
  show zX l w mX10_decisiveClue (zMQ w 11 0 Q) 0 [zf 10 261, zu, zu] [] 0 σ
  have hP : 0 ≤ D 1 0 ∧ D 1 0 ≤ 8 := hW.1.1
  have hM : 0 ≤ D 1 7 ∧ D 1 7 ≤ 8 := hW.1.2.1
  have hE : 0 ≤ D 1 10 ∧ D 1 10 ≤ 12 := hW.1.2.2.1
  have hK : 0 ≤ D 12 0 ∧ D 12 0 ≤ 40 := hW.1.2.2.2
  have r0 : σ.1 262 0 = D 1 0 := hR.1.1
  have r1 : σ.1 262 1 = D 1 7 := hR.1.2.1
  have r2 : σ.1 262 2 = D 1 10 := hR.1.2.2.1
  have r3 : σ.1 262 3 = D 12 0 := hR.1.2.2.2
  have hwl := wP_l (H := Ht D) hW hP1
  have hwb := wS_b hW
  have hyb := wY_b hW hP1
  refine zx_aloadN dX10_decisiveClue_0 rfl rfl ?_
  refine zx_iconst dX10_decisiveClue_1 ?_
  refine zx_putI fl_RX10_67 rfl (Or.inl fp_10_6) dX10_decisiveClue_2 ?_
  refine zx_aloadN dX10_decisiveClue_5 rfl rfl ?_
  refine zy_cvR [] (sX10_verdict (D := D) hfl (zOK_put hz (by unfold zr; omega)) (by first | assumption | omega) (by first | assumption | (refine Rel_put (by decide) ?_; assumption) | (refine Rel_put (by decide) (Rel_put (by decide) ?_); assumption) | (refine Rel_put (by decide) (Rel_put (by decide) (Rel_put (by decide) ?_)); assumption)) (by first | assumption | omega)) dX10_decisiveClue_6 (by decide) rfl cw_RX10_160 okX10_verdict rfl (Nat.le_of_ble_eq_true rfl) ⟨Nat.le_of_ble_eq_true rfl, Nat.le_of_ble_eq_true rfl, Nat.le_of_ble_eq_true rfl, Nat.le_of_ble_eq_true rfl⟩ (fun τ6 hr6 => ?_)
  have hz6 : zOK τ6 := hr6.1
  refine zy_istoreN [zf 10 261, zi ((wP D (Ht D) : Nat) : Int), zu] dX10_decisiveClue_9 rfl (Nat.le_of_ble_eq_true rfl) (Nat.le_of_ble_eq_true rfl) rfl rfl ?_
  refine zx_iconst dX10_decisiveClue_10 ?_
  refine zy_istoreN [zf 10 261, zi ((wP D (Ht D) : Nat) : Int), zi 0] dX10_decisiveClue_11 rfl (Nat.le_of_ble_eq_true rfl) (Nat.le_of_ble_eq_true rfl) rfl rfl ?_
  have L12 : ∀ (N : Nat) (τ : zS) (c : Nat), (zOK τ) → ((c : Int) ≤ D 12 0) → (QP D σ τ ∧ τ.1 261 6 = 0) → (∀ i, i < c → ¬ (Ht D i ∧ ¬ wP D (Hd D 0 ((i : Nat) : Int)) = wP D (Ht D))) → (41 - c) < N → zX l w mX10_decisiveClue (zMQ w 11 0 Q) 12 [zf 10 261, zi ((wP D (Ht D) : Nat) : Int), zi ((c : Nat) : Int)] [] 0 τ := by
    intro N
    induction N with
    | zero => intro τ c _ _ _ _ _; exact absurd (by assumption) (Nat.not_lt_zero _)
    | succ N ih12 =>
      intro τ c hz hc_ h1 hj hN
      have hRτ := h1.1.2
      have v3 : τ.1 262 3 = D 12 0 := hRτ.1.2.2.2
      refine zx_iloadN dX10_decisiveClue_12 rfl rfl ?_
      refine zx_aloadN dX10_decisiveClue_13 rfl rfl ?_
      refine zy_getR (q' := 262) fl_RX10_7 rfl dX10_decisiveClue_14 rfl ?_
      refine zx_iconst dX10_decisiveClue_17 ?_
      refine zy_iald (v := τ.1 262 3) rfl (by decide) (by decide) dX10_decisiveClue_18 (by omega) (by omega) rfl ?_
      refine zx_icmp_ge (tgt := 47) (by first | exact hz _ _ | assumption | exact zr_b _ | exact zcmp_r _ _ | (unfold zr at *; omega)) (by first | exact hz _ _ | assumption | exact zr_b _ | exact zcmp_r _ _ | (unfold zr at *; omega)) dX10_decisiveClue_19 (by decide) (fun h19 => ?_) (fun h19 => ?_)
      · refine zx_iconst dX10_decisiveClue_47 ?_
        refine zx_iret rfl rfl dX10_decisiveClue_48 ?_
        rw [hQ]
        refine ⟨congrArg (fun z : Int => (Sum.inl (some (zi z)) : Option zV ⊕ String)) ?_, ?_⟩
        · unfold dcs
          first | exact (zfst_no (fun j hj2 => hj j (by omega))).symm | exact (zfst_at (by omega) hj ⟨h27, h36⟩).symm
        first | exact ⟨hz, h1n⟩ | exact ⟨hz, h1⟩
      · refine zx_aloadN dX10_decisiveClue_22 rfl rfl ?_
        refine zx_iloadN dX10_decisiveClue_23 rfl rfl ?_
        refine zy_cv [zi ((c : Nat) : Int)] (sX10_isCounted (D := D) (c := c) hfl hz (by first | assumption | omega) hRτ (by first | assumption | omega)) dX10_decisiveClue_24 (by decide) rfl cw_RX10_121 okX10_isCounted rfl (Nat.le_of_ble_eq_true rfl) ⟨Nat.le_of_ble_eq_true rfl, Nat.le_of_ble_eq_true rfl, Nat.le_of_ble_eq_true rfl, Nat.le_of_ble_eq_true rfl⟩ ?_
        refine zx_if_eq (tgt := 41) (by first | exact hz _ _ | assumption | exact zr_b _ | exact zcmp_r _ _ | (unfold zr at *; omega)) dX10_decisiveClue_27 (by decide) (fun h27 => ?_) (fun h27 => ?_)
        · have h27 := zb_0.mp h27
          refine zy_iinc (b := ((c + 1 : Nat) : Int)) [zf 10 261, zi ((wP D (Ht D) : Nat) : Int), zi ((c + 1 : Nat) : Int)] dX10_decisiveClue_41 rfl (by omega) (Nat.le_of_ble_eq_true rfl) rfl rfl ?_
          refine zx_goto (tgt := 12) dX10_decisiveClue_44 (by decide) ?_
          exact ih12 τ (c + 1) hz (by first | assumption | omega) (by first | exact h1n | exact h1) (lt_s hj (fun q => by first | exact h27 q.1 | exact h36 q.2)) (by omega)
        · have h27 := zb_n.mp h27
          refine zx_aloadN dX10_decisiveClue_30 rfl rfl ?_
          refine zx_iloadN dX10_decisiveClue_31 rfl rfl ?_
          refine zx_iloadN dX10_decisiveClue_32 rfl rfl ?_
          refine zy_cvR [zi ((c : Nat) : Int), zi ((wP D (Ht D) : Nat) : Int)] (sX10_isDecisive (D := D) (c := c) (u := (wP D (Ht D))) hfl hz (by first | assumption | omega) hRτ (by first | assumption | omega) (by first | assumption | omega) h27 (by first | assumption | omega)) dX10_decisiveClue_33 (by decide) rfl cw_RX10_439 okX10_isDecisive rfl (Nat.le_of_ble_eq_true rfl) ⟨Nat.le_of_ble_eq_true rfl, Nat.le_of_ble_eq_true rfl, Nat.le_of_ble_eq_true rfl, Nat.le_of_ble_eq_true rfl⟩ (fun τ33 hr33 => ?_)
          have hz33 : zOK τ33 := hr33.1
          have h1n : QP D σ τ33 ∧ τ33.1 261 6 = 0 := ⟨QP_tr h1.1 ⟨mfr_mo hr33.2.1 (fun k q => by unfold qA; omega) (fun k q => by unfold qF; omega), hr33.2.2⟩, (hr33.2.1.2.1 6 (by omega)).trans h1.2⟩
          refine zx_if_eq (tgt := 41) (by first | exact hz33 _ _ | assumption | exact zr_b _ | exact zcmp_r _ _ | (unfold zr at *; omega)) dX10_decisiveClue_36 (by decide) (fun h36 => ?_) (fun h36 => ?_)
          · have h36 := zb_0.mp h36
            refine zy_iinc (b := ((c + 1 : Nat) : Int)) [zf 10 261, zi ((wP D (Ht D) : Nat) : Int), zi ((c + 1 : Nat) : Int)] dX10_decisiveClue_41 rfl (by omega) (Nat.le_of_ble_eq_true rfl) rfl rfl ?_
            refine zx_goto (tgt := 12) dX10_decisiveClue_44 (by decide) ?_
            exact ih12 τ33 (c + 1) hz33 (by first | assumption | omega) (by first | exact h1n | exact h1) (lt_s hj (fun q => by first | exact h27 q.1 | exact h36 q.2)) (by omega)
          · have h36 := zb_n.mp h36
            refine zx_iloadN dX10_decisiveClue_39 rfl rfl ?_
            refine zx_iret rfl rfl dX10_decisiveClue_40 ?_
            rw [hQ]
            refine ⟨congrArg (fun z : Int => (Sum.inl (some (zi z)) : Option zV ⊕ String)) ?_, ?_⟩
            · unfold dcs
              first | exact (zfst_no (fun j hj2 => hj j (by omega))).symm | exact (zfst_at (by omega) hj ⟨h27, h36⟩).symm
            first | exact ⟨hz33, h1n⟩ | exact ⟨hz33, h1⟩
  exact L12 _ τ6 0 hz6 (by first | assumption | omega) ⟨QP_a (QP_th hR) hr6.2.1 (by omega) (fun k q => by unfold qA; omega) (fun k q => by unfold qF; omega), (hr6.2.1.2.1 6 (by omega)).trans (zput_s _ _ _ _)⟩ lt_0 (Nat.lt_succ_self _)
set_option maxRecDepth 20000 in
set_option maxHeartbeats 2000000 in
theorem sX10_rankingErrors {l : Launch} {w : zW} (hfl : l.stackTraces = false) {σ : zS} {D : zBk}  (hz : zOK σ) (hW : WF D) (hR : Rel D (σ.1 262)) (hP1 : 1 ≤ D 1 0) : Sp l w mX10_rankingErrors 11 0 [zf 10 261] σ (zqv (some (zi 0)) (fun τ => zOK τ ∧ QP D σ τ ∧ τ.1 261 6 = 0)) := by
  obtain ⟨Q, hQ⟩ : ∃ Q : zQ, Q = (zqv (some (zi 0)) (fun τ => zOK τ ∧ QP D σ τ ∧ τ.1 261 6 = 0)) := ⟨_, rfl⟩
  rw [← hQ]
  refine zx_enter hfl (by decide) rfl 2 rfl ?_
  show zX l w mX10_rankingErrors (zMQ w 11 0 Q) 0 [zf 10 261, zu, zu] [] 0 σ
  have hP : 0 ≤ D 1 0 ∧ D 1 0 ≤ 8 := hW.1.1
  have hM : 0 ≤ D 1 7 ∧ D 1 7 ≤ 8 := hW.1.2.1
  have hE : 0 ≤ D 1 10 ∧ D 1 10 ≤ 12 := hW.1.2.2.1
  have hK : 0 ≤ D 12 0 ∧ D 12 0 ≤ 40 := hW.1.2.2.2
  have r0 : σ.1 262 0 = D 1 0 := hR.1.1
  have r1 : σ.1 262 1 = D 1 7 := hR.1.2.1
  have r2 : σ.1 262 2 = D 1 10 := hR.1.2.2.1
  have r3 : σ.1 262 3 = D 12 0 := hR.1.2.2.2
  have hwl := wP_l (H := Ht D) hW hP1
  have hwb := wS_b hW
  have hyb := wY_b hW hP1
  have hzy : zr (wY D (Ht D)) := by unfold zr; omega
  have hce := cW_e hW hP1
  have hcb := cW_b hW
  rw [← opn_ef hW hP1] at hce
  refine zx_aloadN dX10_rankingErrors_0 rfl rfl ?_
  refine zx_iconst dX10_rankingErrors_1 ?_
  refine zx_putI fl_RX10_67 rfl (Or.inl fp_10_6) dX10_rankingErrors_2 ?_
  refine zx_aloadN dX10_rankingErrors_5 rfl rfl ?_
  refine zy_cvvR [] (sX10_laysScores (D := D) hfl (zOK_put hz (by unfold zr; omega)) (by first | assumption | omega) (by first | assumption | (refine Rel_put (by decide) ?_; assumption) | (refine Rel_put (by decide) (Rel_put (by decide) ?_); assumption) | (refine Rel_put (by decide) (Rel_put (by decide) (Rel_put (by decide) ?_)); assumption))) dX10_rankingErrors_6 (by decide) rfl cw_RX10_151 okX10_laysScores rfl (Nat.le_of_ble_eq_true rfl) ⟨Nat.le_of_ble_eq_true rfl, Nat.le_of_ble_eq_true rfl, Nat.le_of_ble_eq_true rfl, Nat.le_of_ble_eq_true rfl⟩ (fun τ6 hr6 => ?_)
  have hz6 : zOK τ6 := hr6.1
  have hR6 : Rel D (τ6.1 262) := mfr_R hr6.2.1 (by omega) (Rel_put (by decide) hR)
  have v0 : τ6.1 262 0 = D 1 0 := hR6.1.1
  have hS6 := hr6.2.2
  refine zx_iconst dX10_rankingErrors_9 ?_
  refine zy_istoreN [zf 10 261, zi 0, zu] dX10_rankingErrors_10 rfl (Nat.le_of_ble_eq_true rfl) (Nat.le_of_ble_eq_true rfl) rfl rfl ?_
  refine zx_iconst dX10_rankingErrors_11 ?_
  refine zy_istoreN [zf 10 261, zi 0, zi 0] dX10_rankingErrors_12 rfl (Nat.le_of_ble_eq_true rfl) (Nat.le_of_ble_eq_true rfl) rfl rfl ?_
  have L13 : ∀ (N : Nat) (r : Nat), ((r : Int) < D 1 0) → (9 - r) < N → zX l w mX10_rankingErrors (zMQ w 11 0 Q) 13 [zf 10 261, zi 0, zi ((r : Nat) : Int)] [] 0 τ6 := by
    intro N
    induction N with
    | zero => intro r _ _; exact absurd (by assumption) (Nat.not_lt_zero _)
    | succ N ih13 =>
      intro r hr_ hN
      refine zx_iloadN dX10_rankingErrors_13 rfl rfl ?_
      refine zx_iconst dX10_rankingErrors_14 ?_
      refine zx_iadd dX10_rankingErrors_15 ?_
      refine zx_aloadN dX10_rankingErrors_16 rfl rfl ?_
      refine zy_getR (q' := 262) fl_RX10_7 rfl dX10_rankingErrors_17 rfl ?_
      refine zx_iconst dX10_rankingErrors_20 ?_
      refine zy_iald (v := τ6.1 262 0) rfl (by decide) (by decide) dX10_rankingErrors_21 (by omega) (by omega) rfl ?_
      refine zx_icmp_ge (tgt := 61) (by first | exact hz6 _ _ | assumption | exact zr_b _ | exact zcmp_r _ _ | (unfold zr at *; omega)) (by first | exact hz6 _ _ | assumption | exact zr_b _ | exact zcmp_r _ _ | (unfold zr at *; omega)) dX10_rankingErrors_22 (by decide) (fun h22 => ?_) (fun h22 => ?_)
      · refine zx_aloadN dX10_rankingErrors_61 rfl rfl ?_
        refine zy_cvR [] (sX10_yearOfVerdict (D := D) hfl hz6 (by first | assumption | omega) hR6 (by first | assumption | omega)) dX10_rankingErrors_62 (by decide) rfl cw_RX10_166 okX10_yearOfVerdict rfl (Nat.le_of_ble_eq_true rfl) ⟨Nat.le_of_ble_eq_true rfl, Nat.le_of_ble_eq_true rfl, Nat.le_of_ble_eq_true rfl, Nat.le_of_ble_eq_true rfl⟩ (fun τ62 hr62 => ?_)
        have hz62 : zOK τ62 := hr62.1
        have hR62 : Rel D (τ62.1 262) := mfr_R hr62.2.1 (by omega) hR6
        refine zy_istoreN [zf 10 261, zi 0, zi (wY D (Ht D))] dX10_rankingErrors_65 rfl (Nat.le_of_ble_eq_true rfl) (Nat.le_of_ble_eq_true rfl) rfl rfl ?_
        refine zx_iloadN dX10_rankingErrors_66 rfl rfl ?_
        refine zx_aloadN dX10_rankingErrors_67 rfl rfl ?_
        refine zy_cv [] (sX10_counted (D := D) hfl hz62 (by first | assumption | omega) hR62) dX10_rankingErrors_68 (by decide) rfl cw_RX10_416 okX10_counted rfl (Nat.le_of_ble_eq_true rfl) ⟨Nat.le_of_ble_eq_true rfl, Nat.le_of_ble_eq_true rfl, Nat.le_of_ble_eq_true rfl, Nat.le_of_ble_eq_true rfl⟩ ?_
        refine zx_aloadN dX10_rankingErrors_71 rfl rfl ?_
        refine zx_aloadN dX10_rankingErrors_72 rfl rfl ?_
        refine zy_getI fl_RX10_163 rfl dX10_rankingErrors_73 rfl ?_
        refine zy_top (b := ((wP D (Ht D) : Nat) : Int)) (hr62.2.2.1) ?_
        refine zx_iloadN dX10_rankingErrors_76 rfl rfl ?_
        refine zy_cv [zi ((wP D (Ht D) : Nat) : Int), zi (wY D (Ht D))] (sX10_scoreOf (D := D) (p := (wP D (Ht D))) hfl hz62 (by first | assumption | omega) hR62 (by first | assumption | omega) (by first | exact hz62 _ _ | assumption | exact zr_b _ | exact zcmp_r _ _ | (unfold zr at *; omega))) dX10_rankingErrors_77 (by decide) rfl cw_RX10_419 okX10_scoreOf rfl (Nat.le_of_ble_eq_true rfl) ⟨Nat.le_of_ble_eq_true rfl, Nat.le_of_ble_eq_true rfl, Nat.le_of_ble_eq_true rfl, Nat.le_of_ble_eq_true rfl⟩ ?_
        refine zx_aloadN dX10_rankingErrors_80 rfl rfl ?_
        refine zx_iloadN dX10_rankingErrors_81 rfl rfl ?_
        refine zy_cv [zi (wY D (Ht D))] (sX10_openWeight (D := D) (u := (wP D (Ht D))) hfl hz62 (by first | assumption | omega) hR62 hr62.2.2.1 hwl (by first | exact hz62 _ _ | assumption | exact zr_b _ | exact zcmp_r _ _ | (unfold zr at *; omega))) dX10_rankingErrors_82 (by decide) rfl cw_RX10_442 okX10_openWeight rfl (Nat.le_of_ble_eq_true rfl) ⟨Nat.le_of_ble_eq_true rfl, Nat.le_of_ble_eq_true rfl, Nat.le_of_ble_eq_true rfl, Nat.le_of_ble_eq_true rfl⟩ ?_
        refine zx_iadd dX10_rankingErrors_85 ?_
        refine zy_top (b := cW D) (by rw [hce]; congr 1; unfold wS tS sc; exact zs_congr (fun c _ => zif_c ⟨fun q => ⟨q.1, q.2.2⟩, fun q => ⟨q.1, dec_b hW hP1 (c := 0), q.2⟩⟩)) ?_
        refine zx_icmp_eq (tgt := 93) (by first | exact hz62 _ _ | assumption | exact zr_b _ | exact zcmp_r _ _ | (unfold zr at *; omega)) (by first | exact hz62 _ _ | assumption | exact zr_b _ | exact zcmp_r _ _ | (unfold zr at *; omega)) dX10_rankingErrors_86 (by decide) (fun h86 => ?_) (fun h86 => ?_)
        · refine zx_iconst dX10_rankingErrors_93 ?_
          refine zy_top (b := zb False) ((zb_f (fun q => q)).symm) ?_
          refine zy_cs [zi (zb False)] (sX10_truth (A := False) hfl hz62 ) dX10_rankingErrors_94 cw_RX10_94 okX10_truth rfl (Nat.le_of_ble_eq_true rfl) ⟨Nat.le_of_ble_eq_true rfl, Nat.le_of_ble_eq_true rfl, Nat.le_of_ble_eq_true rfl, Nat.le_of_ble_eq_true rfl⟩ ?_
          refine zy_top (b := 0) (zb_f (fun q => q)) ?_
          refine zx_iadd dX10_rankingErrors_97 ?_
          refine zy_top (b := 0) (rfl) ?_
          refine zx_iret rfl rfl dX10_rankingErrors_98 ?_
          rw [hQ]
          refine ⟨congrArg (fun z : Int => (Sum.inl (some (zi z)) : Option zV ⊕ String)) ?_, ?_⟩
          · rfl
          exact ⟨hz62, QP_a (QP_a (QP_th hR) hr6.2.1 (by omega) (fun k q => by unfold qA; omega) (fun k q => by unfold qF; omega)) hr62.2.1 (by omega) (fun k q => by unfold qA; omega) (fun k q => by unfold qF; omega), (hr62.2.1.2.1 6 (by omega)).trans ((hr6.2.1.2.1 6 (by omega)).trans (zput_s _ _ _ _))⟩
        · exact absurd rfl h86
      · obtain ⟨a, b, ea, eb, ha, hb, hab⟩ := rk_ah (D := D) (r := r) (by omega)
        refine zx_iloadN dX10_rankingErrors_25 rfl rfl ?_
        refine zx_aloadN dX10_rankingErrors_26 rfl rfl ?_
        refine zx_aloadN dX10_rankingErrors_27 rfl rfl ?_
        refine zx_iloadN dX10_rankingErrors_28 rfl rfl ?_
        refine zy_cv [zi ((r : Nat) : Int)] (sX10_atRank (D := D) hfl hz6 (by first | assumption | omega) hR6 (by first | exact hz6 _ _ | assumption | exact zr_b _ | exact zcmp_r _ _ | (unfold zr at *; omega)) hS6) dX10_rankingErrors_29 (by decide) rfl cw_RX10_154 okX10_atRank rfl (Nat.le_of_ble_eq_true rfl) ⟨Nat.le_of_ble_eq_true rfl, Nat.le_of_ble_eq_true rfl, Nat.le_of_ble_eq_true rfl, Nat.le_of_ble_eq_true rfl⟩ ?_
        refine zy_top (b := ((a : Nat) : Int)) (ea) ?_
        refine zx_aloadN dX10_rankingErrors_32 rfl rfl ?_
        refine zx_iloadN dX10_rankingErrors_33 rfl rfl ?_
        refine zx_iconst dX10_rankingErrors_34 ?_
        refine zx_iadd dX10_rankingErrors_35 ?_
        refine zy_cv [zi (((r : Nat) : Int) + 1)] (sX10_atRank (D := D) hfl hz6 (by first | assumption | omega) hR6 (by first | exact hz6 _ _ | assumption | exact zr_b _ | exact zcmp_r _ _ | (unfold zr at *; omega)) hS6) dX10_rankingErrors_36 (by decide) rfl cw_RX10_154 okX10_atRank rfl (Nat.le_of_ble_eq_true rfl) ⟨Nat.le_of_ble_eq_true rfl, Nat.le_of_ble_eq_true rfl, Nat.le_of_ble_eq_true rfl, Nat.le_of_ble_eq_true rfl⟩ ?_
        refine zy_top (b := ((b : Nat) : Int)) (eb) ?_
        refine zy_cv [zi ((a : Nat) : Int), zi ((b : Nat) : Int)] (sX10_isAhead (D := D) (p := a) (q := b) hfl hz6 (by first | assumption | omega) hR6 (by first | assumption | omega) (by first | assumption | omega) hS6) dX10_rankingErrors_39 (by decide) rfl cw_RX10_148 okX10_isAhead rfl (Nat.le_of_ble_eq_true rfl) ⟨Nat.le_of_ble_eq_true rfl, Nat.le_of_ble_eq_true rfl, Nat.le_of_ble_eq_true rfl, Nat.le_of_ble_eq_true rfl⟩ ?_
        refine zy_top (b := 1) (zb_t hab) ?_
        refine zx_if_ne (tgt := 49) (by unfold zr; omega) dX10_rankingErrors_42 (by decide) (fun h42 => ?_) (fun h42 => ?_)
        · refine zx_iconst dX10_rankingErrors_49 ?_
          refine zy_top (b := zb False) ((zb_f (fun q => q)).symm) ?_
          refine zy_cs [zi (zb False)] (sX10_truth (A := False) hfl hz6 ) dX10_rankingErrors_50 cw_RX10_94 okX10_truth rfl (Nat.le_of_ble_eq_true rfl) ⟨Nat.le_of_ble_eq_true rfl, Nat.le_of_ble_eq_true rfl, Nat.le_of_ble_eq_true rfl, Nat.le_of_ble_eq_true rfl⟩ ?_
          refine zy_top (b := 0) (zb_f (fun q => q)) ?_
          refine zx_iadd dX10_rankingErrors_53 ?_
          refine zy_top (b := 0) (rfl) ?_
          refine zy_istoreN [zf 10 261, zi 0, zi ((r : Nat) : Int)] dX10_rankingErrors_54 rfl (Nat.le_of_ble_eq_true rfl) (Nat.le_of_ble_eq_true rfl) rfl rfl ?_
          refine zy_iinc (b := ((r + 1 : Nat) : Int)) [zf 10 261, zi 0, zi ((r + 1 : Nat) : Int)] dX10_rankingErrors_55 rfl (by omega) (Nat.le_of_ble_eq_true rfl) rfl rfl ?_
          refine zx_goto (tgt := 13) dX10_rankingErrors_58 (by decide) ?_
          exact ih13 (r + 1) (by omega) (by omega)
        · exact absurd h42 (by decide)
  exact L13 _ 0 (by omega) (Nat.lt_succ_self _)
set_option maxRecDepth 20000 in
set_option maxHeartbeats 2000000 in
theorem sX10_confidence {l : Launch} {w : zW} (hfl : l.stackTraces = false) {σ : zS} {D : zBk}  (hz : zOK σ) (hW : WF D) (hR : Rel D (σ.1 262)) (hP1 : 1 ≤ D 1 0) : Sp l w mX10_confidence 12 0 [zf 10 261] σ (zqv (some (zd (cfd D))) (fun τ => zOK τ ∧ QP D σ τ ∧ τ.1 261 6 = 0)) := by
  obtain ⟨Q, hQ⟩ : ∃ Q : zQ, Q = (zqv (some (zd (cfd D))) (fun τ => zOK τ ∧ QP D σ τ ∧ τ.1 261 6 = 0)) := ⟨_, rfl⟩
  rw [← hQ]
  refine zx_enter hfl (by decide) rfl 1 rfl ?_
  show zX l w mX10_confidence (zMQ w 12 0 Q) 0 [zf 10 261, zu] [] 0 σ
  have hP : 0 ≤ D 1 0 ∧ D 1 0 ≤ 8 := hW.1.1
  have hM : 0 ≤ D 1 7 ∧ D 1 7 ≤ 8 := hW.1.2.1
  have hE : 0 ≤ D 1 10 ∧ D 1 10 ≤ 12 := hW.1.2.2.1
  have hK : 0 ≤ D 12 0 ∧ D 12 0 ≤ 40 := hW.1.2.2.2
  have r0 : σ.1 262 0 = D 1 0 := hR.1.1
  have r1 : σ.1 262 1 = D 1 7 := hR.1.2.1
  have r2 : σ.1 262 2 = D 1 10 := hR.1.2.2.1
  have r3 : σ.1 262 3 = D 12 0 := hR.1.2.2.2
  have hcb := cW_b hW
  have hwb := wS_b hW
  refine zx_aloadN dX10_confidence_0 rfl rfl ?_
  refine zx_iconst dX10_confidence_1 ?_
  refine zx_putI fl_RX10_67 rfl (Or.inl fp_10_6) dX10_confidence_2 ?_
  refine zx_aloadN dX10_confidence_5 rfl rfl ?_
  refine zy_cv [] (sX10_counted (D := D) hfl (zOK_put hz (by unfold zr; omega)) (by first | assumption | omega) (by first | assumption | (refine Rel_put (by decide) ?_; assumption) | (refine Rel_put (by decide) (Rel_put (by decide) ?_); assumption) | (refine Rel_put (by decide) (Rel_put (by decide) (Rel_put (by decide) ?_)); assumption))) dX10_confidence_6 (by decide) rfl cw_RX10_416 okX10_counted rfl (Nat.le_of_ble_eq_true rfl) ⟨Nat.le_of_ble_eq_true rfl, Nat.le_of_ble_eq_true rfl, Nat.le_of_ble_eq_true rfl, Nat.le_of_ble_eq_true rfl⟩ ?_
  refine zy_istoreN [zf 10 261, zi (cW D)] dX10_confidence_9 rfl (Nat.le_of_ble_eq_true rfl) (Nat.le_of_ble_eq_true rfl) rfl rfl ?_
  refine zx_iloadN dX10_confidence_10 rfl rfl ?_
  refine zx_if_ne (tgt := 18) (by first | exact hz _ _ | assumption | exact zr_b _ | exact zcmp_r _ _ | (unfold zr at *; omega)) dX10_confidence_11 (by decide) (fun h11 => ?_) (fun h11 => ?_)
  · refine zx_aloadN dX10_confidence_18 rfl rfl ?_
    refine zy_cvR [] (sX10_scoreOfVerdict (D := D) hfl (zOK_put hz (by unfold zr; omega)) (by first | assumption | omega) (by first | assumption | (refine Rel_put (by decide) ?_; assumption) | (refine Rel_put (by decide) (Rel_put (by decide) ?_); assumption) | (refine Rel_put (by decide) (Rel_put (by decide) (Rel_put (by decide) ?_)); assumption)) (by first | assumption | omega)) dX10_confidence_19 (by decide) rfl cw_RX10_208 okX10_scoreOfVerdict rfl (Nat.le_of_ble_eq_true rfl) ⟨Nat.le_of_ble_eq_true rfl, Nat.le_of_ble_eq_true rfl, Nat.le_of_ble_eq_true rfl, Nat.le_of_ble_eq_true rfl⟩ (fun τ19 hr19 => ?_)
    have hz19 : zOK τ19 := hr19.1
    have h19 := hr19.2.1
    refine zx_i2d dX10_confidence_22 ?_
    refine zx_iloadN dX10_confidence_23 rfl rfl ?_
    refine zx_i2d dX10_confidence_24 ?_
    refine zx_ddiv (ddiv_n (by unfold zr; omega) (by omega)) dX10_confidence_25 ?_
    refine zx_dret rfl dX10_confidence_26 ?_
    rw [hQ]
    refine ⟨by first | (unfold cfd; rw [if_pos (by assumption)]) | (unfold cfd; rw [if_neg (by assumption)]), ?_⟩
    first | exact ⟨hz19, QP_a (QP_th hR) h19 (by omega) (fun k q => by unfold qA; omega) (fun k q => by unfold qF; omega), (h19.2.1 6 (by omega)).trans (zput_s _ _ _ _)⟩ | exact ⟨hz19, QP_th hR, zput_s _ _ _ _⟩
  · refine zx_dconst0 dX10_confidence_14 ?_
    refine zx_goto (tgt := 26) dX10_confidence_15 (by decide) ?_
    refine zx_dret rfl dX10_confidence_26 ?_
    rw [hQ]
    refine ⟨by first | (unfold cfd; rw [if_pos (by assumption)]) | (unfold cfd; rw [if_neg (by assumption)]), ?_⟩
    first | exact ⟨(zOK_put hz (by unfold zr; omega)), QP_a (QP_th hR) h19 (by omega) (fun k q => by unfold qA; omega) (fun k q => by unfold qF; omega), (h19.2.1 6 (by omega)).trans (zput_s _ _ _ _)⟩ | exact ⟨(zOK_put hz (by unfold zr; omega)), QP_th hR, zput_s _ _ _ _⟩

