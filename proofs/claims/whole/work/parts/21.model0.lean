abbrev mX10_in : zM := (yX10_in, cX10_in, 6, (some .boolean), [])
theorem okX10_in : zMok mX10_in 3 := ⟨by decide, by decide, by decide +kernel⟩
theorem dX10_in_0 : decode cX10_in 0 = .ok (.lload_n 0, 1) := by decide +kernel
theorem dX10_in_1 : decode cX10_in 1 = .ok (.lload_n 2, 1) := by decide +kernel
theorem dX10_in_2 : decode cX10_in 2 = .ok (.lcmp, 1) := by decide +kernel
theorem dX10_in_3 : decode cX10_in 3 = .ok (.ifCond .lt 14, 3) := by decide +kernel
theorem dX10_in_17 : decode cX10_in 17 = .ok (.iconst 0, 1) := by decide +kernel
theorem dX10_in_18 : decode cX10_in 18 = .ok (.ireturn, 1) := by decide +kernel
theorem dX10_in_6 : decode cX10_in 6 = .ok (.lload_n 0, 1) := by decide +kernel
theorem dX10_in_7 : decode cX10_in 7 = .ok (.lload 4, 2) := by decide +kernel
theorem dX10_in_9 : decode cX10_in 9 = .ok (.lcmp, 1) := by decide +kernel
theorem dX10_in_10 : decode cX10_in 10 = .ok (.ifCond .gt 7, 3) := by decide +kernel
theorem dX10_in_13 : decode cX10_in 13 = .ok (.iconst 1, 1) := by decide +kernel
theorem dX10_in_14 : decode cX10_in 14 = .ok (.goto 4, 3) := by decide +kernel
abbrev mX10_truth : zM := (yX10_truth, cX10_truth, 1, (some .int), [])
theorem okX10_truth : zMok mX10_truth 1 := ⟨by decide, by decide, by decide +kernel⟩
theorem dX10_truth_0 : decode cX10_truth 0 = .ok (.iload_n 0, 1) := by decide +kernel
theorem dX10_truth_1 : decode cX10_truth 1 = .ok (.ifCond .eq 7, 3) := by decide +kernel
theorem dX10_truth_8 : decode cX10_truth 8 = .ok (.iconst 0, 1) := by decide +kernel
theorem dX10_truth_9 : decode cX10_truth 9 = .ok (.ireturn, 1) := by decide +kernel
theorem dX10_truth_4 : decode cX10_truth 4 = .ok (.iconst 1, 1) := by decide +kernel
theorem dX10_truth_5 : decode cX10_truth 5 = .ok (.goto 4, 3) := by decide +kernel
abbrev mX10_passes : zM := (yX10_passes, cX10_passes, 2, (some .boolean), [])
theorem okX10_passes : zMok mX10_passes 1 := ⟨by decide, by decide, by decide +kernel⟩
theorem dX10_passes_0 : decode cX10_passes 0 = .ok (.aload_n 0, 1) := by decide +kernel
theorem dX10_passes_1 : decode cX10_passes 1 = .ok (.iload_n 1, 1) := by decide +kernel
theorem dX10_passes_2 : decode cX10_passes 2 = .ok (.ifCond .eq 7, 3) := by decide +kernel
theorem dX10_passes_9 : decode cX10_passes 9 = .ok (.iconst 1, 1) := by decide +kernel
theorem dX10_passes_10 : decode cX10_passes 10 = .ok (.putfield 67, 3) := by decide +kernel
theorem fl_RX10_67 : zFl RX10 67 10 6 := ⟨RX10, TX10, 28, rfl, by decide, zmem1 1659 (by decide +kernel) rfl, rfl⟩
theorem fp_10_6 : zFi 10 6 "I" := ⟨RX10, TX10, 28, rfl, rfl, rfl⟩
theorem dX10_passes_13 : decode cX10_passes 13 = .ok (.iload_n 1, 1) := by decide +kernel
theorem dX10_passes_14 : decode cX10_passes 14 = .ok (.ireturn, 1) := by decide +kernel
theorem dX10_passes_5 : decode cX10_passes 5 = .ok (.iconst 0, 1) := by decide +kernel
theorem dX10_passes_6 : decode cX10_passes 6 = .ok (.goto 4, 3) := by decide +kernel
abbrev mX10_passesBoth : zM := (yX10_passesBoth, cX10_passesBoth, 3, (some .boolean), [])
theorem okX10_passesBoth : zMok mX10_passesBoth 2 := ⟨by decide, by decide, by decide +kernel⟩
theorem dX10_passesBoth_0 : decode cX10_passesBoth 0 = .ok (.aload_n 0, 1) := by decide +kernel
theorem dX10_passesBoth_1 : decode cX10_passesBoth 1 = .ok (.iload_n 1, 1) := by decide +kernel
theorem dX10_passesBoth_2 : decode cX10_passesBoth 2 = .ok (.ifCond .ne 7, 3) := by decide +kernel
theorem dX10_passesBoth_9 : decode cX10_passesBoth 9 = .ok (.iload_n 2, 1) := by decide +kernel
theorem dX10_passesBoth_10 : decode cX10_passesBoth 10 = .ok (.ifCond .ne 7, 3) := by decide +kernel
theorem dX10_passesBoth_17 : decode cX10_passesBoth 17 = .ok (.iconst 0, 1) := by decide +kernel
theorem dX10_passesBoth_18 : decode cX10_passesBoth 18 = .ok (.putfield 67, 3) := by decide +kernel
theorem dX10_passesBoth_21 : decode cX10_passesBoth 21 = .ok (.aload_n 0, 1) := by decide +kernel
theorem dX10_passesBoth_22 : decode cX10_passesBoth 22 = .ok (.getfield 67, 3) := by decide +kernel
theorem dX10_passesBoth_25 : decode cX10_passesBoth 25 = .ok (.ifCond .ne 7, 3) := by decide +kernel
theorem dX10_passesBoth_28 : decode cX10_passesBoth 28 = .ok (.iconst 1, 1) := by decide +kernel
theorem dX10_passesBoth_29 : decode cX10_passesBoth 29 = .ok (.goto 4, 3) := by decide +kernel
theorem dX10_passesBoth_33 : decode cX10_passesBoth 33 = .ok (.ireturn, 1) := by decide +kernel
theorem dX10_passesBoth_13 : decode cX10_passesBoth 13 = .ok (.iconst 2, 1) := by decide +kernel
theorem dX10_passesBoth_14 : decode cX10_passesBoth 14 = .ok (.goto 4, 3) := by decide +kernel
theorem dX10_passesBoth_32 : decode cX10_passesBoth 32 = .ok (.iconst 0, 1) := by decide +kernel
theorem dX10_passesBoth_5 : decode cX10_passesBoth 5 = .ok (.iconst 1, 1) := by decide +kernel
theorem dX10_passesBoth_6 : decode cX10_passesBoth 6 = .ok (.goto 12, 3) := by decide +kernel
abbrev mX10_passesAll : zM := (yX10_passesAll, cX10_passesAll, 4, (some .boolean), [])
theorem okX10_passesAll : zMok mX10_passesAll 3 := ⟨by decide, by decide, by decide +kernel⟩
theorem dX10_passesAll_0 : decode cX10_passesAll 0 = .ok (.aload_n 0, 1) := by decide +kernel
theorem dX10_passesAll_1 : decode cX10_passesAll 1 = .ok (.iload_n 1, 1) := by decide +kernel
theorem dX10_passesAll_2 : decode cX10_passesAll 2 = .ok (.ifCond .ne 7, 3) := by decide +kernel
theorem dX10_passesAll_9 : decode cX10_passesAll 9 = .ok (.iload_n 2, 1) := by decide +kernel
theorem dX10_passesAll_10 : decode cX10_passesAll 10 = .ok (.ifCond .ne 7, 3) := by decide +kernel
theorem dX10_passesAll_17 : decode cX10_passesAll 17 = .ok (.iload_n 3, 1) := by decide +kernel
theorem dX10_passesAll_18 : decode cX10_passesAll 18 = .ok (.ifCond .ne 7, 3) := by decide +kernel
theorem dX10_passesAll_25 : decode cX10_passesAll 25 = .ok (.iconst 0, 1) := by decide +kernel
theorem dX10_passesAll_26 : decode cX10_passesAll 26 = .ok (.putfield 67, 3) := by decide +kernel
theorem dX10_passesAll_29 : decode cX10_passesAll 29 = .ok (.aload_n 0, 1) := by decide +kernel
theorem dX10_passesAll_30 : decode cX10_passesAll 30 = .ok (.getfield 67, 3) := by decide +kernel
theorem dX10_passesAll_33 : decode cX10_passesAll 33 = .ok (.ifCond .ne 7, 3) := by decide +kernel
theorem dX10_passesAll_36 : decode cX10_passesAll 36 = .ok (.iconst 1, 1) := by decide +kernel
theorem dX10_passesAll_37 : decode cX10_passesAll 37 = .ok (.goto 4, 3) := by decide +kernel
theorem dX10_passesAll_41 : decode cX10_passesAll 41 = .ok (.ireturn, 1) := by decide +kernel
theorem dX10_passesAll_21 : decode cX10_passesAll 21 = .ok (.iconst 3, 1) := by decide +kernel
theorem dX10_passesAll_22 : decode cX10_passesAll 22 = .ok (.goto 4, 3) := by decide +kernel
theorem dX10_passesAll_40 : decode cX10_passesAll 40 = .ok (.iconst 0, 1) := by decide +kernel
theorem dX10_passesAll_13 : decode cX10_passesAll 13 = .ok (.iconst 2, 1) := by decide +kernel
theorem dX10_passesAll_14 : decode cX10_passesAll 14 = .ok (.goto 12, 3) := by decide +kernel
theorem dX10_passesAll_5 : decode cX10_passesAll 5 = .ok (.iconst 1, 1) := by decide +kernel
theorem dX10_passesAll_6 : decode cX10_passesAll 6 = .ok (.goto 20, 3) := by decide +kernel
abbrev mX10_copies : zM := (yX10_copies, cX10_copies, 5, none, [])
theorem okX10_copies : zMok mX10_copies 4 := ⟨by decide, by decide, by decide +kernel⟩
theorem dX10_copies_0 : decode cX10_copies 0 = .ok (.iconst 0, 1) := by decide +kernel
theorem dX10_copies_1 : decode cX10_copies 1 = .ok (.istore 4, 2) := by decide +kernel
theorem dX10_copies_3 : decode cX10_copies 3 = .ok (.iload 4, 2) := by decide +kernel
theorem dX10_copies_5 : decode cX10_copies 5 = .ok (.sipush 380, 3) := by decide +kernel
theorem dX10_copies_8 : decode cX10_copies 8 = .ok (.if_icmp .ge 21, 3) := by decide +kernel
theorem dX10_copies_29 : decode cX10_copies 29 = .ok (.return_, 1) := by decide +kernel
theorem dX10_copies_11 : decode cX10_copies 11 = .ok (.aload_n 2, 1) := by decide +kernel
theorem dX10_copies_12 : decode cX10_copies 12 = .ok (.iload_n 3, 1) := by decide +kernel
theorem dX10_copies_13 : decode cX10_copies 13 = .ok (.iload 4, 2) := by decide +kernel
theorem dX10_copies_15 : decode cX10_copies 15 = .ok (.iadd, 1) := by decide +kernel
theorem dX10_copies_16 : decode cX10_copies 16 = .ok (.aload_n 0, 1) := by decide +kernel
theorem dX10_copies_17 : decode cX10_copies 17 = .ok (.iload_n 1, 1) := by decide +kernel
theorem dX10_copies_18 : decode cX10_copies 18 = .ok (.iload 4, 2) := by decide +kernel
theorem dX10_copies_20 : decode cX10_copies 20 = .ok (.iadd, 1) := by decide +kernel
theorem dX10_copies_21 : decode cX10_copies 21 = .ok (.iaload, 1) := by decide +kernel
theorem dX10_copies_22 : decode cX10_copies 22 = .ok (.iastore, 1) := by decide +kernel
theorem dX10_copies_23 : decode cX10_copies 23 = .ok (.iinc 4 1, 3) := by decide +kernel
theorem dX10_copies_26 : decode cX10_copies 26 = .ok (.goto (-23), 3) := by decide +kernel
abbrev mX10_ofPrinter : zM := (yX10_ofPrinter, cX10_ofPrinter, 3, (some .int), [])
theorem okX10_ofPrinter : zMok mX10_ofPrinter 2 := ⟨by decide, by decide, by decide +kernel⟩
theorem dX10_ofPrinter_0 : decode cX10_ofPrinter 0 = .ok (.aload_n 0, 1) := by decide +kernel
theorem dX10_ofPrinter_1 : decode cX10_ofPrinter 1 = .ok (.getfield 7, 3) := by decide +kernel
theorem fl_RX10_7 : zFl RX10 7 10 0 := ⟨RX10, TX10, 28, rfl, by decide, zmem1 1653 (by decide +kernel) rfl, rfl⟩
theorem dX10_ofPrinter_4 : decode cX10_ofPrinter 4 = .ok (.iconst 4, 1) := by decide +kernel
theorem dX10_ofPrinter_5 : decode cX10_ofPrinter 5 = .ok (.bipush 12, 2) := by decide +kernel
theorem dX10_ofPrinter_7 : decode cX10_ofPrinter 7 = .ok (.iload_n 1, 1) := by decide +kernel
theorem dX10_ofPrinter_8 : decode cX10_ofPrinter 8 = .ok (.imul, 1) := by decide +kernel
theorem dX10_ofPrinter_9 : decode cX10_ofPrinter 9 = .ok (.iadd, 1) := by decide +kernel
theorem dX10_ofPrinter_10 : decode cX10_ofPrinter 10 = .ok (.iload_n 2, 1) := by decide +kernel
theorem dX10_ofPrinter_11 : decode cX10_ofPrinter 11 = .ok (.iadd, 1) := by decide +kernel
theorem dX10_ofPrinter_12 : decode cX10_ofPrinter 12 = .ok (.iaload, 1) := by decide +kernel
theorem dX10_ofPrinter_13 : decode cX10_ofPrinter 13 = .ok (.ireturn, 1) := by decide +kernel
abbrev mX10_of : zM := (yX10_of, cX10_of, 3, (some .int), [])
theorem okX10_of : zMok mX10_of 2 := ⟨by decide, by decide, by decide +kernel⟩
theorem dX10_of_0 : decode cX10_of 0 = .ok (.aload_n 0, 1) := by decide +kernel
theorem dX10_of_1 : decode cX10_of 1 = .ok (.getfield 7, 3) := by decide +kernel
theorem dX10_of_4 : decode cX10_of 4 = .ok (.sipush 140, 3) := by decide +kernel
theorem dX10_of_7 : decode cX10_of 7 = .ok (.bipush 6, 2) := by decide +kernel
theorem dX10_of_9 : decode cX10_of 9 = .ok (.iload_n 1, 1) := by decide +kernel
theorem dX10_of_10 : decode cX10_of 10 = .ok (.imul, 1) := by decide +kernel
theorem dX10_of_11 : decode cX10_of 11 = .ok (.iadd, 1) := by decide +kernel
theorem dX10_of_12 : decode cX10_of 12 = .ok (.iload_n 2, 1) := by decide +kernel
theorem dX10_of_13 : decode cX10_of 13 = .ok (.iadd, 1) := by decide +kernel
theorem dX10_of_14 : decode cX10_of 14 = .ok (.iaload, 1) := by decide +kernel
theorem dX10_of_15 : decode cX10_of 15 = .ok (.ireturn, 1) := by decide +kernel
abbrev mX10_puts : zM := (yX10_puts, cX10_puts, 4, none, [])
theorem okX10_puts : zMok mX10_puts 3 := ⟨by decide, by decide, by decide +kernel⟩
theorem dX10_puts_0 : decode cX10_puts 0 = .ok (.aload_n 0, 1) := by decide +kernel
theorem dX10_puts_1 : decode cX10_puts 1 = .ok (.getfield 7, 3) := by decide +kernel
theorem dX10_puts_4 : decode cX10_puts 4 = .ok (.sipush 140, 3) := by decide +kernel
theorem dX10_puts_7 : decode cX10_puts 7 = .ok (.bipush 6, 2) := by decide +kernel
theorem dX10_puts_9 : decode cX10_puts 9 = .ok (.iload_n 1, 1) := by decide +kernel
theorem dX10_puts_10 : decode cX10_puts 10 = .ok (.imul, 1) := by decide +kernel
theorem dX10_puts_11 : decode cX10_puts 11 = .ok (.iadd, 1) := by decide +kernel
theorem dX10_puts_12 : decode cX10_puts 12 = .ok (.iload_n 2, 1) := by decide +kernel
theorem dX10_puts_13 : decode cX10_puts 13 = .ok (.iadd, 1) := by decide +kernel
theorem dX10_puts_14 : decode cX10_puts 14 = .ok (.iload_n 3, 1) := by decide +kernel
theorem dX10_puts_15 : decode cX10_puts 15 = .ok (.iastore, 1) := by decide +kernel
theorem dX10_puts_16 : decode cX10_puts 16 = .ok (.return_, 1) := by decide +kernel
abbrev mX10_putsPrinter : zM := (yX10_putsPrinter, cX10_putsPrinter, 4, none, [])
theorem okX10_putsPrinter : zMok mX10_putsPrinter 3 := ⟨by decide, by decide, by decide +kernel⟩
theorem dX10_putsPrinter_0 : decode cX10_putsPrinter 0 = .ok (.aload_n 0, 1) := by decide +kernel
theorem dX10_putsPrinter_1 : decode cX10_putsPrinter 1 = .ok (.getfield 7, 3) := by decide +kernel
theorem dX10_putsPrinter_4 : decode cX10_putsPrinter 4 = .ok (.iconst 4, 1) := by decide +kernel
theorem dX10_putsPrinter_5 : decode cX10_putsPrinter 5 = .ok (.bipush 12, 2) := by decide +kernel
theorem dX10_putsPrinter_7 : decode cX10_putsPrinter 7 = .ok (.iload_n 1, 1) := by decide +kernel
theorem dX10_putsPrinter_8 : decode cX10_putsPrinter 8 = .ok (.imul, 1) := by decide +kernel
theorem dX10_putsPrinter_9 : decode cX10_putsPrinter 9 = .ok (.iadd, 1) := by decide +kernel
theorem dX10_putsPrinter_10 : decode cX10_putsPrinter 10 = .ok (.iload_n 2, 1) := by decide +kernel
theorem dX10_putsPrinter_11 : decode cX10_putsPrinter 11 = .ok (.iadd, 1) := by decide +kernel
theorem dX10_putsPrinter_12 : decode cX10_putsPrinter 12 = .ok (.iload_n 3, 1) := by decide +kernel
theorem dX10_putsPrinter_13 : decode cX10_putsPrinter 13 = .ok (.iastore, 1) := by decide +kernel
theorem dX10_putsPrinter_14 : decode cX10_putsPrinter 14 = .ok (.return_, 1) := by decide +kernel
abbrev mX10_isPrinter : zM := (yX10_isPrinter, cX10_isPrinter, 2, (some .boolean), [])
theorem okX10_isPrinter : zMok mX10_isPrinter 1 := ⟨by decide, by decide, by decide +kernel⟩
theorem dX10_isPrinter_0 : decode cX10_isPrinter 0 = .ok (.iload_n 1, 1) := by decide +kernel
theorem dX10_isPrinter_1 : decode cX10_isPrinter 1 = .ok (.i2l, 1) := by decide +kernel
theorem dX10_isPrinter_2 : decode cX10_isPrinter 2 = .ok (.lconst 0, 1) := by decide +kernel
theorem dX10_isPrinter_3 : decode cX10_isPrinter 3 = .ok (.aload_n 0, 1) := by decide +kernel
theorem dX10_isPrinter_4 : decode cX10_isPrinter 4 = .ok (.getfield 7, 3) := by decide +kernel
theorem dX10_isPrinter_7 : decode cX10_isPrinter 7 = .ok (.iconst 0, 1) := by decide +kernel
theorem dX10_isPrinter_8 : decode cX10_isPrinter 8 = .ok (.iaload, 1) := by decide +kernel
theorem dX10_isPrinter_9 : decode cX10_isPrinter 9 = .ok (.iconst 1, 1) := by decide +kernel
theorem dX10_isPrinter_10 : decode cX10_isPrinter 10 = .ok (.isub, 1) := by decide +kernel
theorem dX10_isPrinter_11 : decode cX10_isPrinter 11 = .ok (.i2l, 1) := by decide +kernel
theorem dX10_isPrinter_12 : decode cX10_isPrinter 12 = .ok (.invokestatic 74, 3) := by decide +kernel
theorem cw_RX10_74 : zCwS RX10 74 mX10_in := zall [1540, 1541, 128, 1542] (by decide +kernel) (by decide +kernel)
theorem dX10_isPrinter_15 : decode cX10_isPrinter 15 = .ok (.ireturn, 1) := by decide +kernel
abbrev mX10_isClue : zM := (yX10_isClue, cX10_isClue, 2, (some .boolean), [])
theorem okX10_isClue : zMok mX10_isClue 1 := ⟨by decide, by decide, by decide +kernel⟩
theorem dX10_isClue_0 : decode cX10_isClue 0 = .ok (.iload_n 1, 1) := by decide +kernel
theorem dX10_isClue_1 : decode cX10_isClue 1 = .ok (.i2l, 1) := by decide +kernel
theorem dX10_isClue_2 : decode cX10_isClue 2 = .ok (.lconst 0, 1) := by decide +kernel
theorem dX10_isClue_3 : decode cX10_isClue 3 = .ok (.aload_n 0, 1) := by decide +kernel
theorem dX10_isClue_4 : decode cX10_isClue 4 = .ok (.getfield 7, 3) := by decide +kernel
theorem dX10_isClue_7 : decode cX10_isClue 7 = .ok (.iconst 3, 1) := by decide +kernel
theorem dX10_isClue_8 : decode cX10_isClue 8 = .ok (.iaload, 1) := by decide +kernel
theorem dX10_isClue_9 : decode cX10_isClue 9 = .ok (.iconst 1, 1) := by decide +kernel
theorem dX10_isClue_10 : decode cX10_isClue 10 = .ok (.isub, 1) := by decide +kernel
theorem dX10_isClue_11 : decode cX10_isClue 11 = .ok (.i2l, 1) := by decide +kernel
theorem dX10_isClue_12 : decode cX10_isClue 12 = .ok (.invokestatic 74, 3) := by decide +kernel
theorem dX10_isClue_15 : decode cX10_isClue 15 = .ok (.ireturn, 1) := by decide +kernel
abbrev mX10_isYear : zM := (yX10_isYear, cX10_isYear, 1, (some .boolean), [])
theorem okX10_isYear : zMok mX10_isYear 1 := ⟨by decide, by decide, by decide +kernel⟩
theorem dX10_isYear_0 : decode cX10_isYear 0 = .ok (.iload_n 0, 1) := by decide +kernel
theorem dX10_isYear_1 : decode cX10_isYear 1 = .ok (.i2l, 1) := by decide +kernel
theorem dX10_isYear_2 : decode cX10_isYear 2 = .ok (.ldc2_w 78, 3) := by decide +kernel
theorem lk_RX10_78 : Cond.constantLong RX10 78 (Int64.ofInt 1450) ∈ zgood := zmem1 1938 (by decide +kernel) rfl
theorem dX10_isYear_5 : decode cX10_isYear 5 = .ok (.ldc2_w 80, 3) := by decide +kernel
theorem lk_RX10_80 : Cond.constantLong RX10 80 (Int64.ofInt 1999) ∈ zgood := zmem1 1939 (by decide +kernel) rfl
theorem dX10_isYear_8 : decode cX10_isYear 8 = .ok (.invokestatic 74, 3) := by decide +kernel
theorem dX10_isYear_11 : decode cX10_isYear 11 = .ok (.ireturn, 1) := by decide +kernel
abbrev mX10_isWorking : zM := (yX10_isWorking, cX10_isWorking, 3, (some .boolean), [])
theorem okX10_isWorking : zMok mX10_isWorking 2 := ⟨by decide, by decide, by decide +kernel⟩
theorem dX10_isWorking_0 : decode cX10_isWorking 0 = .ok (.iload_n 2, 1) := by decide +kernel
theorem dX10_isWorking_1 : decode cX10_isWorking 1 = .ok (.i2l, 1) := by decide +kernel
theorem dX10_isWorking_2 : decode cX10_isWorking 2 = .ok (.aload_n 0, 1) := by decide +kernel
theorem dX10_isWorking_3 : decode cX10_isWorking 3 = .ok (.iload_n 1, 1) := by decide +kernel
theorem dX10_isWorking_4 : decode cX10_isWorking 4 = .ok (.bipush 8, 2) := by decide +kernel
theorem dX10_isWorking_6 : decode cX10_isWorking 6 = .ok (.invokevirtual 82, 3) := by decide +kernel
theorem cw_RX10_82 : zCwV RX10 82 mX10_ofPrinter := zall [1607, 1609, 42, 128, 1610] (by decide +kernel) (by decide +kernel)
theorem dX10_isWorking_9 : decode cX10_isWorking 9 = .ok (.i2l, 1) := by decide +kernel
theorem dX10_isWorking_10 : decode cX10_isWorking 10 = .ok (.aload_n 0, 1) := by decide +kernel
theorem dX10_isWorking_11 : decode cX10_isWorking 11 = .ok (.iload_n 1, 1) := by decide +kernel
theorem dX10_isWorking_12 : decode cX10_isWorking 12 = .ok (.bipush 9, 2) := by decide +kernel
theorem dX10_isWorking_14 : decode cX10_isWorking 14 = .ok (.invokevirtual 82, 3) := by decide +kernel
theorem dX10_isWorking_17 : decode cX10_isWorking 17 = .ok (.i2l, 1) := by decide +kernel
theorem dX10_isWorking_18 : decode cX10_isWorking 18 = .ok (.invokestatic 74, 3) := by decide +kernel
theorem dX10_isWorking_21 : decode cX10_isWorking 21 = .ok (.ireturn, 1) := by decide +kernel
abbrev mX10_has : zM := (yX10_has, cX10_has, 5, (some .boolean), [])
theorem okX10_has : zMok mX10_has 4 := ⟨by decide, by decide, by decide +kernel⟩
theorem dX10_has_0 : decode cX10_has 0 = .ok (.iload_n 3, 1) := by decide +kernel
theorem dX10_has_1 : decode cX10_has 1 = .ok (.i2l, 1) := by decide +kernel
theorem dX10_has_2 : decode cX10_has 2 = .ok (.lconst 0, 1) := by decide +kernel
theorem dX10_has_3 : decode cX10_has 3 = .ok (.iload 4, 2) := by decide +kernel
theorem dX10_has_5 : decode cX10_has 5 = .ok (.iconst 1, 1) := by decide +kernel
theorem dX10_has_6 : decode cX10_has 6 = .ok (.isub, 1) := by decide +kernel
theorem dX10_has_7 : decode cX10_has 7 = .ok (.i2l, 1) := by decide +kernel
theorem dX10_has_8 : decode cX10_has 8 = .ok (.invokestatic 74, 3) := by decide +kernel
theorem dX10_has_11 : decode cX10_has 11 = .ok (.ifCond .eq 21, 3) := by decide +kernel
theorem dX10_has_32 : decode cX10_has 32 = .ok (.iconst 0, 1) := by decide +kernel
theorem dX10_has_33 : decode cX10_has 33 = .ok (.ireturn, 1) := by decide +kernel
theorem dX10_has_14 : decode cX10_has 14 = .ok (.aload_n 0, 1) := by decide +kernel
theorem dX10_has_15 : decode cX10_has 15 = .ok (.iload_n 1, 1) := by decide +kernel
theorem dX10_has_16 : decode cX10_has 16 = .ok (.iload_n 2, 1) := by decide +kernel
theorem dX10_has_17 : decode cX10_has 17 = .ok (.invokevirtual 82, 3) := by decide +kernel
theorem dX10_has_20 : decode cX10_has 20 = .ok (.iload_n 3, 1) := by decide +kernel
theorem dX10_has_21 : decode cX10_has 21 = .ok (.ishr, 1) := by decide +kernel
theorem dX10_has_22 : decode cX10_has 22 = .ok (.iconst 1, 1) := by decide +kernel
theorem dX10_has_23 : decode cX10_has 23 = .ok (.iand, 1) := by decide +kernel
theorem dX10_has_24 : decode cX10_has 24 = .ok (.iconst 1, 1) := by decide +kernel
theorem dX10_has_25 : decode cX10_has 25 = .ok (.if_icmp .ne 7, 3) := by decide +kernel
theorem dX10_has_28 : decode cX10_has 28 = .ok (.iconst 1, 1) := by decide +kernel
theorem dX10_has_29 : decode cX10_has 29 = .ok (.goto 4, 3) := by decide +kernel
abbrev mX10_ownsDevice : zM := (yX10_ownsDevice, cX10_ownsDevice, 3, (some .boolean), [])
theorem okX10_ownsDevice : zMok mX10_ownsDevice 2 := ⟨by decide, by decide, by decide +kernel⟩
theorem dX10_ownsDevice_0 : decode cX10_ownsDevice 0 = .ok (.aload_n 0, 1) := by decide +kernel
theorem dX10_ownsDevice_1 : decode cX10_ownsDevice 1 = .ok (.iload_n 1, 1) := by decide +kernel
theorem dX10_ownsDevice_2 : decode cX10_ownsDevice 2 = .ok (.bipush 10, 2) := by decide +kernel
theorem dX10_ownsDevice_4 : decode cX10_ownsDevice 4 = .ok (.iload_n 2, 1) := by decide +kernel
theorem dX10_ownsDevice_5 : decode cX10_ownsDevice 5 = .ok (.bipush 32, 2) := by decide +kernel
theorem dX10_ownsDevice_7 : decode cX10_ownsDevice 7 = .ok (.invokevirtual 86, 3) := by decide +kernel
theorem cw_RX10_86 : zCwV RX10 86 mX10_has := zall [1872, 1874, 78, 128, 1875] (by decide +kernel) (by decide +kernel)
theorem dX10_ownsDevice_10 : decode cX10_ownsDevice 10 = .ok (.ireturn, 1) := by decide +kernel
abbrev mX10_ownsType : zM := (yX10_ownsType, cX10_ownsType, 3, (some .boolean), [])
theorem okX10_ownsType : zMok mX10_ownsType 2 := ⟨by decide, by decide, by decide +kernel⟩
theorem dX10_ownsType_0 : decode cX10_ownsType 0 = .ok (.aload_n 0, 1) := by decide +kernel
theorem dX10_ownsType_1 : decode cX10_ownsType 1 = .ok (.iload_n 1, 1) := by decide +kernel
theorem dX10_ownsType_2 : decode cX10_ownsType 2 = .ok (.bipush 11, 2) := by decide +kernel
theorem dX10_ownsType_4 : decode cX10_ownsType 4 = .ok (.iload_n 2, 1) := by decide +kernel
theorem dX10_ownsType_5 : decode cX10_ownsType 5 = .ok (.bipush 16, 2) := by decide +kernel
theorem dX10_ownsType_7 : decode cX10_ownsType 7 = .ok (.invokevirtual 86, 3) := by decide +kernel
theorem dX10_ownsType_10 : decode cX10_ownsType 10 = .ok (.ireturn, 1) := by decide +kernel
abbrev mX10_owners : zM := (yX10_owners, cX10_owners, 4, (some .int), [])
theorem okX10_owners : zMok mX10_owners 1 := ⟨by decide, by decide, by decide +kernel⟩
theorem dX10_owners_0 : decode cX10_owners 0 = .ok (.iconst 0, 1) := by decide +kernel
theorem dX10_owners_1 : decode cX10_owners 1 = .ok (.istore_n 2, 1) := by decide +kernel
theorem dX10_owners_2 : decode cX10_owners 2 = .ok (.iconst 0, 1) := by decide +kernel
theorem dX10_owners_3 : decode cX10_owners 3 = .ok (.istore_n 3, 1) := by decide +kernel
theorem dX10_owners_4 : decode cX10_owners 4 = .ok (.iload_n 3, 1) := by decide +kernel
theorem dX10_owners_5 : decode cX10_owners 5 = .ok (.aload_n 0, 1) := by decide +kernel
theorem dX10_owners_6 : decode cX10_owners 6 = .ok (.getfield 7, 3) := by decide +kernel
theorem dX10_owners_9 : decode cX10_owners 9 = .ok (.iconst 0, 1) := by decide +kernel
theorem dX10_owners_10 : decode cX10_owners 10 = .ok (.iaload, 1) := by decide +kernel
theorem dX10_owners_11 : decode cX10_owners 11 = .ok (.if_icmp .ge 21, 3) := by decide +kernel
theorem dX10_owners_32 : decode cX10_owners 32 = .ok (.iload_n 2, 1) := by decide +kernel
theorem dX10_owners_33 : decode cX10_owners 33 = .ok (.ireturn, 1) := by decide +kernel
theorem dX10_owners_14 : decode cX10_owners 14 = .ok (.iload_n 2, 1) := by decide +kernel
theorem dX10_owners_15 : decode cX10_owners 15 = .ok (.aload_n 0, 1) := by decide +kernel
theorem dX10_owners_16 : decode cX10_owners 16 = .ok (.iload_n 3, 1) := by decide +kernel
theorem dX10_owners_17 : decode cX10_owners 17 = .ok (.iload_n 1, 1) := by decide +kernel
theorem dX10_owners_18 : decode cX10_owners 18 = .ok (.invokevirtual 90, 3) := by decide +kernel
theorem cw_RX10_90 : zCwV RX10 90 mX10_ownsDevice := zall [1868, 1870, 77, 128, 1871] (by decide +kernel) (by decide +kernel)
theorem dX10_owners_21 : decode cX10_owners 21 = .ok (.invokestatic 94, 3) := by decide +kernel
theorem cw_RX10_94 : zCwS RX10 94 mX10_truth := zall [1888, 1889, 128, 1890] (by decide +kernel) (by decide +kernel)
theorem dX10_owners_24 : decode cX10_owners 24 = .ok (.iadd, 1) := by decide +kernel
theorem dX10_owners_25 : decode cX10_owners 25 = .ok (.istore_n 2, 1) := by decide +kernel
theorem dX10_owners_26 : decode cX10_owners 26 = .ok (.iinc 3 1, 3) := by decide +kernel
theorem dX10_owners_29 : decode cX10_owners 29 = .ok (.goto (-25), 3) := by decide +kernel
abbrev mX10_suits : zM := (yX10_suits, cX10_suits, 4, (some .boolean), [])
theorem okX10_suits : zMok mX10_suits 2 := ⟨by decide, by decide, by decide +kernel⟩
theorem dX10_suits_0 : decode cX10_suits 0 = .ok (.aload_n 0, 1) := by decide +kernel
theorem dX10_suits_1 : decode cX10_suits 1 = .ok (.iload_n 1, 1) := by decide +kernel
theorem dX10_suits_2 : decode cX10_suits 2 = .ok (.iconst 2, 1) := by decide +kernel
theorem dX10_suits_3 : decode cX10_suits 3 = .ok (.invokevirtual 102, 3) := by decide +kernel
theorem cw_RX10_102 : zCwV RX10 102 mX10_of := zall [1812, 1814, 63, 128, 1815] (by decide +kernel) (by decide +kernel)
theorem dX10_suits_6 : decode cX10_suits 6 = .ok (.istore_n 3, 1) := by decide +kernel
theorem dX10_suits_7 : decode cX10_suits 7 = .ok (.aload_n 0, 1) := by decide +kernel
theorem dX10_suits_8 : decode cX10_suits 8 = .ok (.iload_n 1, 1) := by decide +kernel
theorem dX10_suits_9 : decode cX10_suits 9 = .ok (.iconst 1, 1) := by decide +kernel
theorem dX10_suits_10 : decode cX10_suits 10 = .ok (.invokevirtual 102, 3) := by decide +kernel
theorem dX10_suits_13 : decode cX10_suits 13 = .ok (.tableswitch 62 0 3 #[31, 38, 62, 45], 31) := by decide +kernel
theorem dX10_suits_44 : decode cX10_suits 44 = .ok (.aload_n 0, 1) := by decide +kernel
theorem dX10_suits_45 : decode cX10_suits 45 = .ok (.iload_n 2, 1) := by decide +kernel
theorem dX10_suits_46 : decode cX10_suits 46 = .ok (.iload_n 3, 1) := by decide +kernel
theorem dX10_suits_47 : decode cX10_suits 47 = .ok (.invokevirtual 90, 3) := by decide +kernel
theorem dX10_suits_50 : decode cX10_suits 50 = .ok (.ireturn, 1) := by decide +kernel
theorem dX10_suits_51 : decode cX10_suits 51 = .ok (.aload_n 0, 1) := by decide +kernel
theorem dX10_suits_52 : decode cX10_suits 52 = .ok (.iload_n 2, 1) := by decide +kernel
theorem dX10_suits_53 : decode cX10_suits 53 = .ok (.iload_n 3, 1) := by decide +kernel
theorem dX10_suits_54 : decode cX10_suits 54 = .ok (.invokevirtual 105, 3) := by decide +kernel
theorem cw_RX10_105 : zCwV RX10 105 mX10_ownsType := zall [1876, 1878, 79, 128, 1879] (by decide +kernel) (by decide +kernel)
theorem dX10_suits_57 : decode cX10_suits 57 = .ok (.ireturn, 1) := by decide +kernel
theorem dX10_suits_75 : decode cX10_suits 75 = .ok (.iconst 1, 1) := by decide +kernel
theorem dX10_suits_76 : decode cX10_suits 76 = .ok (.ireturn, 1) := by decide +kernel
theorem dX10_suits_58 : decode cX10_suits 58 = .ok (.aload_n 0, 1) := by decide +kernel
theorem dX10_suits_59 : decode cX10_suits 59 = .ok (.iload_n 2, 1) := by decide +kernel
theorem dX10_suits_60 : decode cX10_suits 60 = .ok (.bipush 7, 2) := by decide +kernel
theorem dX10_suits_62 : decode cX10_suits 62 = .ok (.invokevirtual 82, 3) := by decide +kernel
theorem dX10_suits_65 : decode cX10_suits 65 = .ok (.iload_n 3, 1) := by decide +kernel
theorem dX10_suits_66 : decode cX10_suits 66 = .ok (.if_icmp .ne 7, 3) := by decide +kernel
theorem dX10_suits_73 : decode cX10_suits 73 = .ok (.iconst 0, 1) := by decide +kernel
theorem dX10_suits_74 : decode cX10_suits 74 = .ok (.ireturn, 1) := by decide +kernel
theorem dX10_suits_69 : decode cX10_suits 69 = .ok (.iconst 1, 1) := by decide +kernel
theorem dX10_suits_70 : decode cX10_suits 70 = .ok (.goto 4, 3) := by decide +kernel
abbrev mX10_earliest : zM := (yX10_earliest, cX10_earliest, 3, (some .int), [])
theorem okX10_earliest : zMok mX10_earliest 1 := ⟨by decide, by decide, by decide +kernel⟩
theorem dX10_earliest_0 : decode cX10_earliest 0 = .ok (.aload_n 0, 1) := by decide +kernel
theorem dX10_earliest_1 : decode cX10_earliest 1 = .ok (.iload_n 1, 1) := by decide +kernel
theorem dX10_earliest_2 : decode cX10_earliest 2 = .ok (.iconst 2, 1) := by decide +kernel
theorem dX10_earliest_3 : decode cX10_earliest 3 = .ok (.invokevirtual 102, 3) := by decide +kernel
theorem dX10_earliest_6 : decode cX10_earliest 6 = .ok (.istore_n 2, 1) := by decide +kernel
theorem dX10_earliest_7 : decode cX10_earliest 7 = .ok (.aload_n 0, 1) := by decide +kernel
theorem dX10_earliest_8 : decode cX10_earliest 8 = .ok (.iload_n 1, 1) := by decide +kernel
theorem dX10_earliest_9 : decode cX10_earliest 9 = .ok (.iconst 1, 1) := by decide +kernel
theorem dX10_earliest_10 : decode cX10_earliest 10 = .ok (.invokevirtual 102, 3) := by decide +kernel
theorem dX10_earliest_13 : decode cX10_earliest 13 = .ok (.lookupswitch 41 #[(2, 27), (4, 39)], 27) := by decide +kernel
theorem dX10_earliest_40 : decode cX10_earliest 40 = .ok (.aload_n 0, 1) := by decide +kernel
theorem dX10_earliest_41 : decode cX10_earliest 41 = .ok (.getfield 7, 3) := by decide +kernel
theorem dX10_earliest_44 : decode cX10_earliest 44 = .ok (.bipush 100, 2) := by decide +kernel
theorem dX10_earliest_46 : decode cX10_earliest 46 = .ok (.iconst 2, 1) := by decide +kernel
theorem dX10_earliest_47 : decode cX10_earliest 47 = .ok (.iload_n 2, 1) := by decide +kernel
theorem dX10_earliest_48 : decode cX10_earliest 48 = .ok (.imul, 1) := by decide +kernel
theorem dX10_earliest_49 : decode cX10_earliest 49 = .ok (.iadd, 1) := by decide +kernel
theorem dX10_earliest_50 : decode cX10_earliest 50 = .ok (.iaload, 1) := by decide +kernel
theorem dX10_earliest_51 : decode cX10_earliest 51 = .ok (.ireturn, 1) := by decide +kernel
theorem dX10_earliest_52 : decode cX10_earliest 52 = .ok (.iload_n 2, 1) := by decide +kernel
theorem dX10_earliest_53 : decode cX10_earliest 53 = .ok (.ireturn, 1) := by decide +kernel
theorem dX10_earliest_54 : decode cX10_earliest 54 = .ok (.sipush 1450, 3) := by decide +kernel
theorem dX10_earliest_57 : decode cX10_earliest 57 = .ok (.ireturn, 1) := by decide +kernel
abbrev mX10_latest : zM := (yX10_latest, cX10_latest, 3, (some .int), [])
theorem okX10_latest : zMok mX10_latest 1 := ⟨by decide, by decide, by decide +kernel⟩
theorem dX10_latest_0 : decode cX10_latest 0 = .ok (.aload_n 0, 1) := by decide +kernel
theorem dX10_latest_1 : decode cX10_latest 1 = .ok (.iload_n 1, 1) := by decide +kernel
theorem dX10_latest_2 : decode cX10_latest 2 = .ok (.iconst 2, 1) := by decide +kernel
theorem dX10_latest_3 : decode cX10_latest 3 = .ok (.invokevirtual 102, 3) := by decide +kernel
theorem dX10_latest_6 : decode cX10_latest 6 = .ok (.istore_n 2, 1) := by decide +kernel
theorem dX10_latest_7 : decode cX10_latest 7 = .ok (.aload_n 0, 1) := by decide +kernel
theorem dX10_latest_8 : decode cX10_latest 8 = .ok (.iload_n 1, 1) := by decide +kernel
theorem dX10_latest_9 : decode cX10_latest 9 = .ok (.iconst 1, 1) := by decide +kernel
theorem dX10_latest_10 : decode cX10_latest 10 = .ok (.invokevirtual 102, 3) := by decide +kernel
theorem dX10_latest_13 : decode cX10_latest 13 = .ok (.lookupswitch 45 #[(2, 27), (4, 43)], 27) := by decide +kernel
theorem dX10_latest_40 : decode cX10_latest 40 = .ok (.aload_n 0, 1) := by decide +kernel
theorem dX10_latest_41 : decode cX10_latest 41 = .ok (.getfield 7, 3) := by decide +kernel
theorem dX10_latest_44 : decode cX10_latest 44 = .ok (.bipush 100, 2) := by decide +kernel
theorem dX10_latest_46 : decode cX10_latest 46 = .ok (.iconst 2, 1) := by decide +kernel
theorem dX10_latest_47 : decode cX10_latest 47 = .ok (.iload_n 2, 1) := by decide +kernel
theorem dX10_latest_48 : decode cX10_latest 48 = .ok (.imul, 1) := by decide +kernel
theorem dX10_latest_49 : decode cX10_latest 49 = .ok (.iadd, 1) := by decide +kernel
theorem dX10_latest_50 : decode cX10_latest 50 = .ok (.iconst 1, 1) := by decide +kernel
theorem dX10_latest_51 : decode cX10_latest 51 = .ok (.iadd, 1) := by decide +kernel
theorem dX10_latest_52 : decode cX10_latest 52 = .ok (.iaload, 1) := by decide +kernel
theorem dX10_latest_53 : decode cX10_latest 53 = .ok (.iconst 3, 1) := by decide +kernel
theorem dX10_latest_54 : decode cX10_latest 54 = .ok (.iadd, 1) := by decide +kernel
theorem dX10_latest_55 : decode cX10_latest 55 = .ok (.ireturn, 1) := by decide +kernel
theorem dX10_latest_56 : decode cX10_latest 56 = .ok (.iload_n 2, 1) := by decide +kernel
theorem dX10_latest_57 : decode cX10_latest 57 = .ok (.ireturn, 1) := by decide +kernel
theorem dX10_latest_58 : decode cX10_latest 58 = .ok (.sipush 1999, 3) := by decide +kernel
theorem dX10_latest_61 : decode cX10_latest 61 = .ok (.ireturn, 1) := by decide +kernel
abbrev mX10_isExplained : zM := (yX10_isExplained, cX10_isExplained, 4, (some .boolean), [])
theorem okX10_isExplained : zMok mX10_isExplained 3 := ⟨by decide, by decide, by decide +kernel⟩
theorem dX10_isExplained_0 : decode cX10_isExplained 0 = .ok (.aload_n 0, 1) := by decide +kernel
theorem dX10_isExplained_1 : decode cX10_isExplained 1 = .ok (.iload_n 2, 1) := by decide +kernel
theorem dX10_isExplained_2 : decode cX10_isExplained 2 = .ok (.iload_n 3, 1) := by decide +kernel
theorem dX10_isExplained_3 : decode cX10_isExplained 3 = .ok (.invokevirtual 108, 3) := by decide +kernel
theorem cw_RX10_108 : zCwV RX10 108 mX10_isWorking := zall [1944, 1946, 90, 128, 1947] (by decide +kernel) (by decide +kernel)
theorem dX10_isExplained_6 : decode cX10_isExplained 6 = .ok (.ifCond .eq 36, 3) := by decide +kernel
theorem dX10_isExplained_42 : decode cX10_isExplained 42 = .ok (.iconst 0, 1) := by decide +kernel
theorem dX10_isExplained_43 : decode cX10_isExplained 43 = .ok (.ireturn, 1) := by decide +kernel
theorem dX10_isExplained_9 : decode cX10_isExplained 9 = .ok (.aload_n 0, 1) := by decide +kernel
theorem dX10_isExplained_10 : decode cX10_isExplained 10 = .ok (.iload_n 1, 1) := by decide +kernel
theorem dX10_isExplained_11 : decode cX10_isExplained 11 = .ok (.iload_n 2, 1) := by decide +kernel
theorem dX10_isExplained_12 : decode cX10_isExplained 12 = .ok (.invokevirtual 111, 3) := by decide +kernel
theorem cw_RX10_111 : zCwV RX10 111 mX10_suits := zall [1864, 1866, 76, 128, 1867] (by decide +kernel) (by decide +kernel)
theorem dX10_isExplained_15 : decode cX10_isExplained 15 = .ok (.ifCond .eq 27, 3) := by decide +kernel
theorem dX10_isExplained_18 : decode cX10_isExplained 18 = .ok (.iload_n 3, 1) := by decide +kernel
theorem dX10_isExplained_19 : decode cX10_isExplained 19 = .ok (.i2l, 1) := by decide +kernel
theorem dX10_isExplained_20 : decode cX10_isExplained 20 = .ok (.aload_n 0, 1) := by decide +kernel
theorem dX10_isExplained_21 : decode cX10_isExplained 21 = .ok (.iload_n 1, 1) := by decide +kernel
theorem dX10_isExplained_22 : decode cX10_isExplained 22 = .ok (.invokevirtual 114, 3) := by decide +kernel
theorem cw_RX10_114 : zCwV RX10 114 mX10_earliest := zall [1880, 1882, 80, 128, 1883] (by decide +kernel) (by decide +kernel)
theorem dX10_isExplained_25 : decode cX10_isExplained 25 = .ok (.i2l, 1) := by decide +kernel
theorem dX10_isExplained_26 : decode cX10_isExplained 26 = .ok (.aload_n 0, 1) := by decide +kernel
theorem dX10_isExplained_27 : decode cX10_isExplained 27 = .ok (.iload_n 1, 1) := by decide +kernel
theorem dX10_isExplained_28 : decode cX10_isExplained 28 = .ok (.invokevirtual 118, 3) := by decide +kernel
theorem cw_RX10_118 : zCwV RX10 118 mX10_latest := zall [1884, 1886, 81, 128, 1887] (by decide +kernel) (by decide +kernel)
theorem dX10_isExplained_31 : decode cX10_isExplained 31 = .ok (.i2l, 1) := by decide +kernel
theorem dX10_isExplained_32 : decode cX10_isExplained 32 = .ok (.invokestatic 74, 3) := by decide +kernel
theorem dX10_isExplained_35 : decode cX10_isExplained 35 = .ok (.ifCond .eq 7, 3) := by decide +kernel
theorem dX10_isExplained_38 : decode cX10_isExplained 38 = .ok (.iconst 1, 1) := by decide +kernel
theorem dX10_isExplained_39 : decode cX10_isExplained 39 = .ok (.goto 4, 3) := by decide +kernel
abbrev mX10_isCounted : zM := (yX10_isCounted, cX10_isCounted, 2, (some .boolean), [])
theorem okX10_isCounted : zMok mX10_isCounted 1 := ⟨by decide, by decide, by decide +kernel⟩
theorem dX10_isCounted_0 : decode cX10_isCounted 0 = .ok (.aload_n 0, 1) := by decide +kernel
theorem dX10_isCounted_1 : decode cX10_isCounted 1 = .ok (.iload_n 1, 1) := by decide +kernel
theorem dX10_isCounted_2 : decode cX10_isCounted 2 = .ok (.iconst 4, 1) := by decide +kernel
theorem dX10_isCounted_3 : decode cX10_isCounted 3 = .ok (.invokevirtual 102, 3) := by decide +kernel
theorem dX10_isCounted_6 : decode cX10_isCounted 6 = .ok (.iconst 1, 1) := by decide +kernel
theorem dX10_isCounted_7 : decode cX10_isCounted 7 = .ok (.if_icmp .ne 16, 3) := by decide +kernel
theorem dX10_isCounted_23 : decode cX10_isCounted 23 = .ok (.iconst 0, 1) := by decide +kernel
theorem dX10_isCounted_24 : decode cX10_isCounted 24 = .ok (.ireturn, 1) := by decide +kernel
theorem dX10_isCounted_10 : decode cX10_isCounted 10 = .ok (.aload_n 0, 1) := by decide +kernel
theorem dX10_isCounted_11 : decode cX10_isCounted 11 = .ok (.iload_n 1, 1) := by decide +kernel
theorem dX10_isCounted_12 : decode cX10_isCounted 12 = .ok (.iconst 5, 1) := by decide +kernel
theorem dX10_isCounted_13 : decode cX10_isCounted 13 = .ok (.invokevirtual 102, 3) := by decide +kernel
theorem dX10_isCounted_16 : decode cX10_isCounted 16 = .ok (.ifCond .ne 7, 3) := by decide +kernel
theorem dX10_isCounted_19 : decode cX10_isCounted 19 = .ok (.iconst 1, 1) := by decide +kernel
theorem dX10_isCounted_20 : decode cX10_isCounted 20 = .ok (.goto 4, 3) := by decide +kernel
abbrev mX10_counted : zM := (yX10_counted, cX10_counted, 3, (some .int), [])
theorem okX10_counted : zMok mX10_counted 0 := ⟨by decide, by decide, by decide +kernel⟩
theorem dX10_counted_0 : decode cX10_counted 0 = .ok (.iconst 0, 1) := by decide +kernel
theorem dX10_counted_1 : decode cX10_counted 1 = .ok (.istore_n 1, 1) := by decide +kernel
theorem dX10_counted_2 : decode cX10_counted 2 = .ok (.iconst 0, 1) := by decide +kernel
theorem dX10_counted_3 : decode cX10_counted 3 = .ok (.istore_n 2, 1) := by decide +kernel
theorem dX10_counted_4 : decode cX10_counted 4 = .ok (.iload_n 2, 1) := by decide +kernel
theorem dX10_counted_5 : decode cX10_counted 5 = .ok (.aload_n 0, 1) := by decide +kernel
theorem dX10_counted_6 : decode cX10_counted 6 = .ok (.getfield 7, 3) := by decide +kernel
theorem dX10_counted_9 : decode cX10_counted 9 = .ok (.iconst 3, 1) := by decide +kernel
theorem dX10_counted_10 : decode cX10_counted 10 = .ok (.iaload, 1) := by decide +kernel
theorem dX10_counted_11 : decode cX10_counted 11 = .ok (.if_icmp .ge 30, 3) := by decide +kernel
theorem dX10_counted_41 : decode cX10_counted 41 = .ok (.iload_n 1, 1) := by decide +kernel
theorem dX10_counted_42 : decode cX10_counted 42 = .ok (.ireturn, 1) := by decide +kernel
theorem dX10_counted_14 : decode cX10_counted 14 = .ok (.iload_n 1, 1) := by decide +kernel
theorem dX10_counted_15 : decode cX10_counted 15 = .ok (.aload_n 0, 1) := by decide +kernel
theorem dX10_counted_16 : decode cX10_counted 16 = .ok (.iload_n 2, 1) := by decide +kernel
theorem dX10_counted_17 : decode cX10_counted 17 = .ok (.invokevirtual 121, 3) := by decide +kernel
theorem cw_RX10_121 : zCwV RX10 121 mX10_isCounted := zall [1860, 1862, 75, 128, 1863] (by decide +kernel) (by decide +kernel)
theorem dX10_counted_20 : decode cX10_counted 20 = .ok (.ifCond .eq 12, 3) := by decide +kernel
theorem dX10_counted_32 : decode cX10_counted 32 = .ok (.iconst 0, 1) := by decide +kernel
theorem dX10_counted_33 : decode cX10_counted 33 = .ok (.iadd, 1) := by decide +kernel
theorem dX10_counted_34 : decode cX10_counted 34 = .ok (.istore_n 1, 1) := by decide +kernel
theorem dX10_counted_35 : decode cX10_counted 35 = .ok (.iinc 2 1, 3) := by decide +kernel
theorem dX10_counted_38 : decode cX10_counted 38 = .ok (.goto (-34), 3) := by decide +kernel
theorem dX10_counted_23 : decode cX10_counted 23 = .ok (.aload_n 0, 1) := by decide +kernel
theorem dX10_counted_24 : decode cX10_counted 24 = .ok (.iload_n 2, 1) := by decide +kernel
theorem dX10_counted_25 : decode cX10_counted 25 = .ok (.iconst 3, 1) := by decide +kernel
theorem dX10_counted_26 : decode cX10_counted 26 = .ok (.invokevirtual 102, 3) := by decide +kernel
theorem dX10_counted_29 : decode cX10_counted 29 = .ok (.goto 4, 3) := by decide +kernel
abbrev mX10_scoreOf : zM := (yX10_scoreOf, cX10_scoreOf, 5, (some .int), [])
theorem okX10_scoreOf : zMok mX10_scoreOf 2 := ⟨by decide, by decide, by decide +kernel⟩
theorem dX10_scoreOf_0 : decode cX10_scoreOf 0 = .ok (.iconst 0, 1) := by decide +kernel
theorem dX10_scoreOf_1 : decode cX10_scoreOf 1 = .ok (.istore_n 3, 1) := by decide +kernel
theorem dX10_scoreOf_2 : decode cX10_scoreOf 2 = .ok (.iconst 0, 1) := by decide +kernel
theorem dX10_scoreOf_3 : decode cX10_scoreOf 3 = .ok (.istore 4, 2) := by decide +kernel
theorem dX10_scoreOf_5 : decode cX10_scoreOf 5 = .ok (.iload 4, 2) := by decide +kernel
theorem dX10_scoreOf_7 : decode cX10_scoreOf 7 = .ok (.aload_n 0, 1) := by decide +kernel
theorem dX10_scoreOf_8 : decode cX10_scoreOf 8 = .ok (.getfield 7, 3) := by decide +kernel
theorem dX10_scoreOf_11 : decode cX10_scoreOf 11 = .ok (.iconst 3, 1) := by decide +kernel
theorem dX10_scoreOf_12 : decode cX10_scoreOf 12 = .ok (.iaload, 1) := by decide +kernel
theorem dX10_scoreOf_13 : decode cX10_scoreOf 13 = .ok (.if_icmp .ge 43, 3) := by decide +kernel
theorem dX10_scoreOf_56 : decode cX10_scoreOf 56 = .ok (.iload_n 3, 1) := by decide +kernel
theorem dX10_scoreOf_57 : decode cX10_scoreOf 57 = .ok (.ireturn, 1) := by decide +kernel
theorem dX10_scoreOf_16 : decode cX10_scoreOf 16 = .ok (.iload_n 3, 1) := by decide +kernel
theorem dX10_scoreOf_17 : decode cX10_scoreOf 17 = .ok (.aload_n 0, 1) := by decide +kernel
theorem dX10_scoreOf_18 : decode cX10_scoreOf 18 = .ok (.iload 4, 2) := by decide +kernel
theorem dX10_scoreOf_20 : decode cX10_scoreOf 20 = .ok (.invokevirtual 121, 3) := by decide +kernel
theorem dX10_scoreOf_23 : decode cX10_scoreOf 23 = .ok (.ifCond .eq 24, 3) := by decide +kernel
theorem dX10_scoreOf_47 : decode cX10_scoreOf 47 = .ok (.iconst 0, 1) := by decide +kernel
theorem dX10_scoreOf_48 : decode cX10_scoreOf 48 = .ok (.iadd, 1) := by decide +kernel
theorem dX10_scoreOf_49 : decode cX10_scoreOf 49 = .ok (.istore_n 3, 1) := by decide +kernel
theorem dX10_scoreOf_50 : decode cX10_scoreOf 50 = .ok (.iinc 4 1, 3) := by decide +kernel
theorem dX10_scoreOf_53 : decode cX10_scoreOf 53 = .ok (.goto (-48), 3) := by decide +kernel
theorem dX10_scoreOf_26 : decode cX10_scoreOf 26 = .ok (.aload_n 0, 1) := by decide +kernel
theorem dX10_scoreOf_27 : decode cX10_scoreOf 27 = .ok (.iload 4, 2) := by decide +kernel
theorem dX10_scoreOf_29 : decode cX10_scoreOf 29 = .ok (.iload_n 1, 1) := by decide +kernel
theorem dX10_scoreOf_30 : decode cX10_scoreOf 30 = .ok (.iload_n 2, 1) := by decide +kernel
theorem dX10_scoreOf_31 : decode cX10_scoreOf 31 = .ok (.invokevirtual 125, 3) := by decide +kernel
theorem cw_RX10_125 : zCwV RX10 125 mX10_isExplained := zall [2028, 2030, 94, 128, 2031] (by decide +kernel) (by decide +kernel)
theorem dX10_scoreOf_34 : decode cX10_scoreOf 34 = .ok (.ifCond .eq 13, 3) := by decide +kernel
theorem dX10_scoreOf_37 : decode cX10_scoreOf 37 = .ok (.aload_n 0, 1) := by decide +kernel
theorem dX10_scoreOf_38 : decode cX10_scoreOf 38 = .ok (.iload 4, 2) := by decide +kernel
theorem dX10_scoreOf_40 : decode cX10_scoreOf 40 = .ok (.iconst 3, 1) := by decide +kernel
theorem dX10_scoreOf_41 : decode cX10_scoreOf 41 = .ok (.invokevirtual 102, 3) := by decide +kernel
theorem dX10_scoreOf_44 : decode cX10_scoreOf 44 = .ok (.goto 4, 3) := by decide +kernel

noncomputable def th2 (A B : Prop) : Int := zb (¬ A) + 2 * zb (A ∧ ¬ B)
theorem th2_0 {A B : Prop} (a : A) (b : B) : th2 A B = 0 := by unfold th2; rw [zb_f (fun q => q a), zb_f (fun q => q.2 b)]; rfl
theorem th2_1 {A B : Prop} (a : ¬ A) : th2 A B = 1 := by unfold th2; rw [zb_t a, zb_f (fun q => a q.1)]; rfl
theorem th2_2 {A B : Prop} (a : A) (b : ¬ B) : th2 A B = 2 := by unfold th2; rw [zb_f (fun q => q a), zb_t ⟨a, b⟩]; rfl
theorem th2_r (A B : Prop) : zr (th2 A B) := by
  unfold th2 zr
  have h1 := zb_01 (¬ A)
  have h2 := zb_01 (A ∧ ¬ B)
  omega
noncomputable def th3 (A B C : Prop) : Int := zb (¬ A) + 2 * zb (A ∧ ¬ B) + 3 * zb (A ∧ B ∧ ¬ C)
theorem th3_0 {A B C : Prop} (a : A) (b : B) (c : C) : th3 A B C = 0 := by unfold th3; rw [zb_f (fun q => q a), zb_f (fun q => q.2 b), zb_f (fun q => q.2.2 c)]; rfl
theorem th3_1 {A B C : Prop} (a : ¬ A) : th3 A B C = 1 := by unfold th3; rw [zb_t a, zb_f (fun q => a q.1), zb_f (fun q => a q.1)]; rfl
theorem th3_2 {A B C : Prop} (a : A) (b : ¬ B) : th3 A B C = 2 := by unfold th3; rw [zb_f (fun q => q a), zb_t ⟨a, b⟩, zb_f (fun q => b q.2.1)]; rfl
theorem th3_3 {A B C : Prop} (a : A) (b : B) (c : ¬ C) : th3 A B C = 3 := by unfold th3; rw [zb_f (fun q => q a), zb_f (fun q => q.2 b), zb_t ⟨a, b, c⟩]; rfl
theorem th3_r (A B C : Prop) : zr (th3 A B C) := by
  unfold th3 zr
  have h1 := zb_01 (¬ A)
  have h2 := zb_01 (A ∧ ¬ B)
  have h3 := zb_01 (A ∧ B ∧ ¬ C)
  omega
def cpo (σ τ : zS) (q a v b n : Nat) : Prop := (∀ k, ¬ k = v → ∀ i, τ.1 k i = σ.1 k i) ∧ τ.2 = σ.2 ∧ (∀ i, i < n → τ.1 v (b + i) = σ.1 q (a + i)) ∧ ∀ i, (i < b ∨ b + n ≤ i) → τ.1 v i = σ.1 v i
theorem cpo_0 {σ : zS} {q a v b : Nat} : cpo σ σ q a v b 0 := ⟨fun _ _ _ => rfl, rfl, fun i h => absurd h (Nat.not_lt_zero i), fun _ _ => rfl⟩
theorem cpo_src {σ τ : zS} {q a v b n : Nat} (hv : q ≠ v) (h : cpo σ τ q a v b n) (i : Nat) : τ.1 q i = σ.1 q i := h.1 q hv i
theorem cpo_s {σ τ : zS} {q a v b n : Nat} (hv : q ≠ v) (h : cpo σ τ q a v b n) : cpo σ (zput τ v (b + n) (τ.1 q (a + n))) q a v b (n + 1) := by
  obtain ⟨h1, h2, h3, h4⟩ := h
  refine ⟨fun k hk i => (zput_k _ _ _ _ _ hk).trans (h1 k hk i), h2, fun i hi => ?_, fun i hi => (zput_i _ _ _ _ _ (by omega)).trans (h4 i (by omega))⟩
  rcases Nat.lt_succ_iff_lt_or_eq.mp hi with q2 | rfl
  · exact (zput_i _ _ _ _ _ (by omega)).trans (h3 i q2)
  · exact (zput_s _ _ _ _).trans (h1 q hv _)

set_option maxRecDepth 20000 in
set_option maxHeartbeats 2000000 in
theorem sX10_in {l : Launch} {w : zW} (hfl : l.stackTraces = false) {σ : zS} {a b c : Int} (hz : zOK σ) (ha : zr a) (hb : zr b) (hc : zr c) : Sp l w mX10_in 0 0 [zl a, zl b, zl c] σ (zret (zi (zb (b ≤ a ∧ a ≤ c))) σ) := by
  obtain ⟨Q, hQ⟩ : ∃ Q : zQ, Q = (zret (zi (zb (b ≤ a ∧ a ≤ c))) σ) := ⟨_, rfl⟩
  rw [← hQ]
  refine zx_enter hfl (by decide) rfl 0 rfl ?_
  show zX l w mX10_in (zMQ w 0 0 Q) 0 [zl a, zu, zl b, zu, zl c, zu] [] 0 σ
  refine zx_lloadN dX10_in_0 rfl rfl ?_
  refine zx_lloadN dX10_in_1 rfl rfl ?_
  refine zx_lcmp (by first | exact hz _ _ | assumption | exact zr_b _ | exact zcmp_r _ _ | (unfold zr at *; omega)) (by first | exact hz _ _ | assumption | exact zr_b _ | exact zcmp_r _ _ | (unfold zr at *; omega)) dX10_in_2 ?_
  refine zx_if_lt (tgt := 17) (by first | exact hz _ _ | assumption | exact zr_b _ | exact zcmp_r _ _ | (unfold zr at *; omega)) dX10_in_3 (by decide) (fun h3 => ?_) (fun h3 => ?_)
  · have h3 := zcmp_lt.mp h3
    refine zx_iconst dX10_in_17 ?_
    refine zx_iret rfl rfl dX10_in_18 ?_
    rw [hQ]
    refine ⟨congrArg (fun z : Int => (Sum.inl (some (zi z)) : Option zV ⊕ String)) ?_, by first | rfl | (exfalso; omega)⟩
    first | rfl | exact (zb_t (by first | assumption | omega)).symm | exact (zb_f (by first | assumption | omega)).symm | exact zb_c (by constructor <;> intro q <;> omega)
  · have h3 := zcmp_ge.mp h3
    refine zx_lloadN dX10_in_6 rfl rfl ?_
    refine zx_lload dX10_in_7 rfl ?_
    refine zx_lcmp (by first | exact hz _ _ | assumption | exact zr_b _ | exact zcmp_r _ _ | (unfold zr at *; omega)) (by first | exact hz _ _ | assumption | exact zr_b _ | exact zcmp_r _ _ | (unfold zr at *; omega)) dX10_in_9 ?_
    refine zx_if_gt (tgt := 17) (by first | exact hz _ _ | assumption | exact zr_b _ | exact zcmp_r _ _ | (unfold zr at *; omega)) dX10_in_10 (by decide) (fun h10 => ?_) (fun h10 => ?_)
    · have h10 := zcmp_gt.mp h10
      refine zx_iconst dX10_in_17 ?_
      refine zx_iret rfl rfl dX10_in_18 ?_
      rw [hQ]
      refine ⟨congrArg (fun z : Int => (Sum.inl (some (zi z)) : Option zV ⊕ String)) ?_, by first | rfl | (exfalso; omega)⟩
      first | rfl | exact (zb_t (by first | assumption | omega)).symm | exact (zb_f (by first | assumption | omega)).symm | exact zb_c (by constructor <;> intro q <;> omega)
    · have h10 := zcmp_le.mp h10
      refine zx_iconst dX10_in_13 ?_
      refine zx_goto (tgt := 18) dX10_in_14 (by decide) ?_
      refine zx_iret rfl rfl dX10_in_18 ?_
      rw [hQ]
      refine ⟨congrArg (fun z : Int => (Sum.inl (some (zi z)) : Option zV ⊕ String)) ?_, by first | rfl | (exfalso; omega)⟩
      first | rfl | exact (zb_t (by first | assumption | omega)).symm | exact (zb_f (by first | assumption | omega)).symm | exact zb_c (by constructor <;> intro q <;> omega)
set_option maxRecDepth 20000 in
set_option maxHeartbeats 2000000 in
theorem sX10_truth {l : Launch} {w : zW} (hfl : l.stackTraces = false) {σ : zS} {A : Prop} (hz : zOK σ)  : Sp l w mX10_truth 0 0 [zi (zb A)] σ (zret (zi (zb A)) σ) := by
  obtain ⟨Q, hQ⟩ : ∃ Q : zQ, Q = (zret (zi (zb A)) σ) := ⟨_, rfl⟩
  rw [← hQ]
  refine zx_enter hfl (by decide) rfl 0 rfl ?_
  show zX l w mX10_truth (zMQ w 0 0 Q) 0 [zi (zb A)] [] 0 σ
  refine zx_iloadN dX10_truth_0 rfl rfl ?_
  refine zx_if_eq (tgt := 8) (by first | exact hz _ _ | assumption | exact zr_b _ | exact zcmp_r _ _ | (unfold zr at *; omega)) dX10_truth_1 (by decide) (fun h1 => ?_) (fun h1 => ?_)
  · have h1 := zb_0.mp h1
    refine zx_iconst dX10_truth_8 ?_
    refine zx_iret rfl rfl dX10_truth_9 ?_
    rw [hQ]
    refine ⟨congrArg (fun z : Int => (Sum.inl (some (zi z)) : Option zV ⊕ String)) ?_, by first | rfl | (exfalso; omega)⟩
    first | exact (zb_t (by assumption)).symm | exact (zb_f (by assumption)).symm
  · have h1 := zb_n.mp h1
    refine zx_iconst dX10_truth_4 ?_
    refine zx_goto (tgt := 9) dX10_truth_5 (by decide) ?_
    refine zx_iret rfl rfl dX10_truth_9 ?_
    rw [hQ]
    refine ⟨congrArg (fun z : Int => (Sum.inl (some (zi z)) : Option zV ⊕ String)) ?_, by first | rfl | (exfalso; omega)⟩
    first | exact (zb_t (by assumption)).symm | exact (zb_f (by assumption)).symm
set_option maxRecDepth 20000 in
set_option maxHeartbeats 2000000 in
theorem sX10_passes {l : Launch} {w : zW} (hfl : l.stackTraces = false) {σ : zS} {A : Prop} (hz : zOK σ)  : Sp l w mX10_passes 0 0 [zf 10 261, zi (zb A)] σ (zret (zi (zb A)) (zput σ 261 6 (zb (¬ A)))) := by
  obtain ⟨Q, hQ⟩ : ∃ Q : zQ, Q = (zret (zi (zb A)) (zput σ 261 6 (zb (¬ A)))) := ⟨_, rfl⟩
  rw [← hQ]
  refine zx_enter hfl (by decide) rfl 0 rfl ?_
  show zX l w mX10_passes (zMQ w 0 0 Q) 0 [zf 10 261, zi (zb A)] [] 0 σ
  refine zx_aloadN dX10_passes_0 rfl rfl ?_
  refine zx_iloadN dX10_passes_1 rfl rfl ?_
  refine zx_if_eq (tgt := 9) (by first | exact hz _ _ | assumption | exact zr_b _ | exact zcmp_r _ _ | (unfold zr at *; omega)) dX10_passes_2 (by decide) (fun h2 => ?_) (fun h2 => ?_)
  · have h2 := zb_0.mp h2
    refine zx_iconst dX10_passes_9 ?_
    refine zx_putI fl_RX10_67 rfl (Or.inl fp_10_6) dX10_passes_10 ?_
    refine zx_iloadN dX10_passes_13 rfl rfl ?_
    refine zx_iret rfl (zb_nar _) dX10_passes_14 ?_
    rw [hQ]
    refine ⟨congrArg (fun z : Int => (Sum.inl (some (zi z)) : Option zV ⊕ String)) ?_, by first | rw [zb_t (by assumption : ¬ A)] | rw [zb_f (fun q => q (by assumption) : ¬ ¬ A)]⟩
    rfl
  · have h2 := zb_n.mp h2
    refine zx_iconst dX10_passes_5 ?_
    refine zx_goto (tgt := 10) dX10_passes_6 (by decide) ?_
    refine zx_putI fl_RX10_67 rfl (Or.inl fp_10_6) dX10_passes_10 ?_
    refine zx_iloadN dX10_passes_13 rfl rfl ?_
    refine zx_iret rfl (zb_nar _) dX10_passes_14 ?_
    rw [hQ]
    refine ⟨congrArg (fun z : Int => (Sum.inl (some (zi z)) : Option zV ⊕ String)) ?_, by first | rw [zb_t (by assumption : ¬ A)] | rw [zb_f (fun q => q (by assumption) : ¬ ¬ A)]⟩
    rfl
set_option maxRecDepth 20000 in
set_option maxHeartbeats 2000000 in
theorem sX10_passesBoth {l : Launch} {w : zW} (hfl : l.stackTraces = false) {σ : zS} {A B : Prop} (hz : zOK σ)  : Sp l w mX10_passesBoth 0 0 [zf 10 261, zi (zb A), zi (zb B)] σ (zret (zi (zb (A ∧ B))) (zput σ 261 6 (th2 A B))) := by
  obtain ⟨Q, hQ⟩ : ∃ Q : zQ, Q = (zret (zi (zb (A ∧ B))) (zput σ 261 6 (th2 A B))) := ⟨_, rfl⟩
  rw [← hQ]
  refine zx_enter hfl (by decide) rfl 0 rfl ?_
  show zX l w mX10_passesBoth (zMQ w 0 0 Q) 0 [zf 10 261, zi (zb A), zi (zb B)] [] 0 σ
  refine zx_aloadN dX10_passesBoth_0 rfl rfl ?_
  refine zx_iloadN dX10_passesBoth_1 rfl rfl ?_
  refine zx_if_ne (tgt := 9) (by first | exact hz _ _ | assumption | exact zr_b _ | exact zcmp_r _ _ | (unfold zr at *; omega)) dX10_passesBoth_2 (by decide) (fun h2 => ?_) (fun h2 => ?_)
  · have h2 := zb_n.mp h2
    refine zx_iloadN dX10_passesBoth_9 rfl rfl ?_
    refine zx_if_ne (tgt := 17) (by first | exact hz _ _ | assumption | exact zr_b _ | exact zcmp_r _ _ | (unfold zr at *; omega)) dX10_passesBoth_10 (by decide) (fun h10 => ?_) (fun h10 => ?_)
    · have h10 := zb_n.mp h10
      refine zx_iconst dX10_passesBoth_17 ?_
      refine zx_putI fl_RX10_67 rfl (Or.inl fp_10_6) dX10_passesBoth_18 ?_
      refine zx_aloadN dX10_passesBoth_21 rfl rfl ?_
      refine zy_getI (v := 0) fl_RX10_67 rfl dX10_passesBoth_22 (zput_s _ _ _ _) ?_
      refine zx_if_ne (tgt := 32) (by unfold zr; omega) dX10_passesBoth_25 (by decide) (fun h25 => ?_) (fun h25 => ?_)
      · exact absurd h25 (by decide)
      · refine zx_iconst dX10_passesBoth_28 ?_
        refine zx_goto (tgt := 33) dX10_passesBoth_29 (by decide) ?_
        refine zx_iret rfl rfl dX10_passesBoth_33 ?_
        rw [hQ]
        refine ⟨congrArg (fun z : Int => (Sum.inl (some (zi z)) : Option zV ⊕ String)) ?_, by first | rw [th2_0 (by assumption) (by assumption)] | rw [th2_1 (by assumption)] | rw [th2_2 (by assumption) (by assumption)] | exact absurd rfl (by assumption)⟩
        first | exact (zb_t ⟨by assumption, by assumption⟩).symm | exact (zb_f (fun q => absurd q.1 (by assumption))).symm | exact (zb_f (fun q => absurd q.2 (by assumption))).symm | exact absurd rfl (by assumption)
    · have h10 := zb_0.mp h10
      refine zx_iconst dX10_passesBoth_13 ?_
      refine zx_goto (tgt := 18) dX10_passesBoth_14 (by decide) ?_
      refine zx_putI fl_RX10_67 rfl (Or.inl fp_10_6) dX10_passesBoth_18 ?_
      refine zx_aloadN dX10_passesBoth_21 rfl rfl ?_
      refine zy_getI (v := 2) fl_RX10_67 rfl dX10_passesBoth_22 (zput_s _ _ _ _) ?_
      refine zx_if_ne (tgt := 32) (by unfold zr; omega) dX10_passesBoth_25 (by decide) (fun h25 => ?_) (fun h25 => ?_)
      · refine zx_iconst dX10_passesBoth_32 ?_
        refine zx_iret rfl rfl dX10_passesBoth_33 ?_
        rw [hQ]
        refine ⟨congrArg (fun z : Int => (Sum.inl (some (zi z)) : Option zV ⊕ String)) ?_, by first | rw [th2_0 (by assumption) (by assumption)] | rw [th2_1 (by assumption)] | rw [th2_2 (by assumption) (by assumption)] | exact absurd rfl (by assumption)⟩
        first | exact (zb_t ⟨by assumption, by assumption⟩).symm | exact (zb_f (fun q => absurd q.1 (by assumption))).symm | exact (zb_f (fun q => absurd q.2 (by assumption))).symm | exact absurd rfl (by assumption)
      · exact absurd h25 (by decide)
  · have h2 := zb_0.mp h2
    refine zx_iconst dX10_passesBoth_5 ?_
    refine zx_goto (tgt := 18) dX10_passesBoth_6 (by decide) ?_
    refine zx_putI fl_RX10_67 rfl (Or.inl fp_10_6) dX10_passesBoth_18 ?_
    refine zx_aloadN dX10_passesBoth_21 rfl rfl ?_
    refine zy_getI (v := 1) fl_RX10_67 rfl dX10_passesBoth_22 (zput_s _ _ _ _) ?_
    refine zx_if_ne (tgt := 32) (by unfold zr; omega) dX10_passesBoth_25 (by decide) (fun h25 => ?_) (fun h25 => ?_)
    · refine zx_iconst dX10_passesBoth_32 ?_
      refine zx_iret rfl rfl dX10_passesBoth_33 ?_
      rw [hQ]
      refine ⟨congrArg (fun z : Int => (Sum.inl (some (zi z)) : Option zV ⊕ String)) ?_, by first | rw [th2_0 (by assumption) (by assumption)] | rw [th2_1 (by assumption)] | rw [th2_2 (by assumption) (by assumption)] | exact absurd rfl (by assumption)⟩
      first | exact (zb_t ⟨by assumption, by assumption⟩).symm | exact (zb_f (fun q => absurd q.1 (by assumption))).symm | exact (zb_f (fun q => absurd q.2 (by assumption))).symm | exact absurd rfl (by assumption)
    · exact absurd h25 (by decide)
set_option maxRecDepth 20000 in
set_option maxHeartbeats 2000000 in
theorem sX10_passesAll {l : Launch} {w : zW} (hfl : l.stackTraces = false) {σ : zS} {A B C : Prop} (hz : zOK σ)  : Sp l w mX10_passesAll 0 0 [zf 10 261, zi (zb A), zi (zb B), zi (zb C)] σ (zret (zi (zb (A ∧ B ∧ C))) (zput σ 261 6 (th3 A B C))) := by
  obtain ⟨Q, hQ⟩ : ∃ Q : zQ, Q = (zret (zi (zb (A ∧ B ∧ C))) (zput σ 261 6 (th3 A B C))) := ⟨_, rfl⟩
  rw [← hQ]
  refine zx_enter hfl (by decide) rfl 0 rfl ?_
  show zX l w mX10_passesAll (zMQ w 0 0 Q) 0 [zf 10 261, zi (zb A), zi (zb B), zi (zb C)] [] 0 σ
  refine zx_aloadN dX10_passesAll_0 rfl rfl ?_
  refine zx_iloadN dX10_passesAll_1 rfl rfl ?_
  refine zx_if_ne (tgt := 9) (by first | exact hz _ _ | assumption | exact zr_b _ | exact zcmp_r _ _ | (unfold zr at *; omega)) dX10_passesAll_2 (by decide) (fun h2 => ?_) (fun h2 => ?_)
  · have h2 := zb_n.mp h2
    refine zx_iloadN dX10_passesAll_9 rfl rfl ?_
    refine zx_if_ne (tgt := 17) (by first | exact hz _ _ | assumption | exact zr_b _ | exact zcmp_r _ _ | (unfold zr at *; omega)) dX10_passesAll_10 (by decide) (fun h10 => ?_) (fun h10 => ?_)
    · have h10 := zb_n.mp h10
      refine zx_iloadN dX10_passesAll_17 rfl rfl ?_
      refine zx_if_ne (tgt := 25) (by first | exact hz _ _ | assumption | exact zr_b _ | exact zcmp_r _ _ | (unfold zr at *; omega)) dX10_passesAll_18 (by decide) (fun h18 => ?_) (fun h18 => ?_)
      · have h18 := zb_n.mp h18
        refine zx_iconst dX10_passesAll_25 ?_
        refine zx_putI fl_RX10_67 rfl (Or.inl fp_10_6) dX10_passesAll_26 ?_
        refine zx_aloadN dX10_passesAll_29 rfl rfl ?_
        refine zy_getI (v := 0) fl_RX10_67 rfl dX10_passesAll_30 (zput_s _ _ _ _) ?_
        refine zx_if_ne (tgt := 40) (by unfold zr; omega) dX10_passesAll_33 (by decide) (fun h33 => ?_) (fun h33 => ?_)
        · exact absurd h33 (by decide)
        · refine zx_iconst dX10_passesAll_36 ?_
          refine zx_goto (tgt := 41) dX10_passesAll_37 (by decide) ?_
          refine zx_iret rfl rfl dX10_passesAll_41 ?_
          rw [hQ]
          refine ⟨congrArg (fun z : Int => (Sum.inl (some (zi z)) : Option zV ⊕ String)) ?_, by first | rw [th3_0 (by assumption) (by assumption) (by assumption)] | rw [th3_1 (by assumption)] | rw [th3_2 (by assumption) (by assumption)] | rw [th3_3 (by assumption) (by assumption) (by assumption)] | exact absurd rfl (by assumption)⟩
          first | exact (zb_t ⟨by assumption, by assumption, by assumption⟩).symm | exact (zb_f (fun q => absurd q.1 (by assumption))).symm | exact (zb_f (fun q => absurd q.2.1 (by assumption))).symm | exact (zb_f (fun q => absurd q.2.2 (by assumption))).symm | exact absurd rfl (by assumption)
      · have h18 := zb_0.mp h18
        refine zx_iconst dX10_passesAll_21 ?_
        refine zx_goto (tgt := 26) dX10_passesAll_22 (by decide) ?_
        refine zx_putI fl_RX10_67 rfl (Or.inl fp_10_6) dX10_passesAll_26 ?_
        refine zx_aloadN dX10_passesAll_29 rfl rfl ?_
        refine zy_getI (v := 3) fl_RX10_67 rfl dX10_passesAll_30 (zput_s _ _ _ _) ?_
        refine zx_if_ne (tgt := 40) (by unfold zr; omega) dX10_passesAll_33 (by decide) (fun h33 => ?_) (fun h33 => ?_)
        · refine zx_iconst dX10_passesAll_40 ?_
          refine zx_iret rfl rfl dX10_passesAll_41 ?_
          rw [hQ]
          refine ⟨congrArg (fun z : Int => (Sum.inl (some (zi z)) : Option zV ⊕ String)) ?_, by first | rw [th3_0 (by assumption) (by assumption) (by assumption)] | rw [th3_1 (by assumption)] | rw [th3_2 (by assumption) (by assumption)] | rw [th3_3 (by assumption) (by assumption) (by assumption)] | exact absurd rfl (by assumption)⟩
          first | exact (zb_t ⟨by assumption, by assumption, by assumption⟩).symm | exact (zb_f (fun q => absurd q.1 (by assumption))).symm | exact (zb_f (fun q => absurd q.2.1 (by assumption))).symm | exact (zb_f (fun q => absurd q.2.2 (by assumption))).symm | exact absurd rfl (by assumption)
        · exact absurd h33 (by decide)
    · have h10 := zb_0.mp h10
      refine zx_iconst dX10_passesAll_13 ?_
      refine zx_goto (tgt := 26) dX10_passesAll_14 (by decide) ?_
      refine zx_putI fl_RX10_67 rfl (Or.inl fp_10_6) dX10_passesAll_26 ?_
      refine zx_aloadN dX10_passesAll_29 rfl rfl ?_
      refine zy_getI (v := 2) fl_RX10_67 rfl dX10_passesAll_30 (zput_s _ _ _ _) ?_
      refine zx_if_ne (tgt := 40) (by unfold zr; omega) dX10_passesAll_33 (by decide) (fun h33 => ?_) (fun h33 => ?_)
      · refine zx_iconst dX10_passesAll_40 ?_
        refine zx_iret rfl rfl dX10_passesAll_41 ?_
        rw [hQ]
        refine ⟨congrArg (fun z : Int => (Sum.inl (some (zi z)) : Option zV ⊕ String)) ?_, by first | rw [th3_0 (by assumption) (by assumption) (by assumption)] | rw [th3_1 (by assumption)] | rw [th3_2 (by assumption) (by assumption)] | rw [th3_3 (by assumption) (by assumption) (by assumption)] | exact absurd rfl (by assumption)⟩
        first | exact (zb_t ⟨by assumption, by assumption, by assumption⟩).symm | exact (zb_f (fun q => absurd q.1 (by assumption))).symm | exact (zb_f (fun q => absurd q.2.1 (by assumption))).symm | exact (zb_f (fun q => absurd q.2.2 (by assumption))).symm | exact absurd rfl (by assumption)
      · exact absurd h33 (by decide)
  · have h2 := zb_0.mp h2
    refine zx_iconst dX10_passesAll_5 ?_
    refine zx_goto (tgt := 26) dX10_passesAll_6 (by decide) ?_
    refine zx_putI fl_RX10_67 rfl (Or.inl fp_10_6) dX10_passesAll_26 ?_
    refine zx_aloadN dX10_passesAll_29 rfl rfl ?_
    refine zy_getI (v := 1) fl_RX10_67 rfl dX10_passesAll_30 (zput_s _ _ _ _) ?_
    refine zx_if_ne (tgt := 40) (by unfold zr; omega) dX10_passesAll_33 (by decide) (fun h33 => ?_) (fun h33 => ?_)
    · refine zx_iconst dX10_passesAll_40 ?_
      refine zx_iret rfl rfl dX10_passesAll_41 ?_
      rw [hQ]
      refine ⟨congrArg (fun z : Int => (Sum.inl (some (zi z)) : Option zV ⊕ String)) ?_, by first | rw [th3_0 (by assumption) (by assumption) (by assumption)] | rw [th3_1 (by assumption)] | rw [th3_2 (by assumption) (by assumption)] | rw [th3_3 (by assumption) (by assumption) (by assumption)] | exact absurd rfl (by assumption)⟩
      first | exact (zb_t ⟨by assumption, by assumption, by assumption⟩).symm | exact (zb_f (fun q => absurd q.1 (by assumption))).symm | exact (zb_f (fun q => absurd q.2.1 (by assumption))).symm | exact (zb_f (fun q => absurd q.2.2 (by assumption))).symm | exact absurd rfl (by assumption)
    · exact absurd h33 (by decide)
set_option maxRecDepth 20000 in
set_option maxHeartbeats 2000000 in
theorem sX10_copies_a {l : Launch} {w : zW} (hfl : l.stackTraces = false) {σ : zS} {q a v b : Nat} (hz : zOK σ) (ha : a + 380 ≤ 380) (hb : b + 380 ≤ 380) (hv : q ≠ v) : Sp l w mX10_copies 0 0 [zf 29 q, zi ((a : Nat) : Int), zf 29 v, zi ((b : Nat) : Int)] σ (zqv (none) (fun τ => zOK τ ∧ cpo σ τ q a v b 380)) := by
  obtain ⟨Q, hQ⟩ : ∃ Q : zQ, Q = (zqv (none) (fun τ => zOK τ ∧ cpo σ τ q a v b 380)) := ⟨_, rfl⟩
  rw [← hQ]
  refine zx_enter hfl (by decide) rfl 1 rfl ?_
  show zX l w mX10_copies (zMQ w 0 0 Q) 0 [zf 29 q, zi ((a : Nat) : Int), zf 29 v, zi ((b : Nat) : Int), zu] [] 0 σ
  refine zx_iconst dX10_copies_0 ?_
  refine zy_istore [zf 29 q, zi ((a : Nat) : Int), zf 29 v, zi ((b : Nat) : Int), zi 0] dX10_copies_1 (Nat.le_of_ble_eq_true rfl) (Nat.le_of_ble_eq_true rfl) rfl rfl ?_
  have L3 : ∀ (N : Nat) (τ : zS) (i : Nat), (zOK τ) → (i ≤ 380) → (cpo σ τ q a v b i) → (381 - i) < N → zX l w mX10_copies (zMQ w 0 0 Q) 3 [zf 29 q, zi ((a : Nat) : Int), zf 29 v, zi ((b : Nat) : Int), zi ((i : Nat) : Int)] [] 0 τ := by
    intro N
    induction N with
    | zero => intro τ i _ _ _ _; exact absurd (by assumption) (Nat.not_lt_zero _)
    | succ N ih3 =>
      intro τ i hz hi h1 hN
      have e1 := cpo_src hv h1 (a + i)
      refine zx_iload dX10_copies_3 rfl ?_
      refine zx_sipush dX10_copies_5 rfl ?_
      refine zx_icmp_ge (tgt := 29) (by first | exact hz _ _ | assumption | exact zr_b _ | exact zcmp_r _ _ | (unfold zr at *; omega)) (by first | exact hz _ _ | assumption | exact zr_b _ | exact zcmp_r _ _ | (unfold zr at *; omega)) dX10_copies_8 (by decide) (fun h8 => ?_) (fun h8 => ?_)
      · refine zx_vret rfl dX10_copies_29 ?_
        rw [hQ]
        refine ⟨rfl, ?_⟩
        have e : i = 380 := by omega
        subst e
        exact ⟨hz, h1⟩
      · refine zx_aloadN dX10_copies_11 rfl rfl ?_
        refine zx_iloadN dX10_copies_12 rfl rfl ?_
        refine zx_iload dX10_copies_13 rfl ?_
        refine zx_iadd dX10_copies_15 ?_
        refine zy_top (b := ((b + i : Nat) : Int)) (by omega) ?_
        refine zx_aloadN dX10_copies_16 rfl rfl ?_
        refine zx_iloadN dX10_copies_17 rfl rfl ?_
        refine zx_iload dX10_copies_18 rfl ?_
        refine zx_iadd dX10_copies_20 ?_
        refine zy_top (b := ((a + i : Nat) : Int)) (by omega) ?_
        refine zy_iald (v := τ.1 q (a + i)) rfl (by decide) (by decide) dX10_copies_21 (by omega) (by omega) rfl ?_
        refine zy_iast (i := b + i) rfl (by decide) (by decide) dX10_copies_22 (by omega) (by omega) rfl ?_
        refine zy_iinc (b := ((i + 1 : Nat) : Int)) [zf 29 q, zi ((a : Nat) : Int), zf 29 v, zi ((b : Nat) : Int), zi ((i + 1 : Nat) : Int)] dX10_copies_23 rfl (by omega) (Nat.le_of_ble_eq_true rfl) rfl rfl ?_
        refine zx_goto (tgt := 3) dX10_copies_26 (by decide) ?_
        exact ih3 (zput τ v (b + i) (τ.1 q (a + i))) (i + 1) (zOK_put hz (by first | exact hz _ _ | assumption | exact zr_b _ | exact zcmp_r _ _ | (unfold zr at *; omega))) (by first | assumption | omega) (cpo_s hv h1) (by omega)
  exact L3 _ σ 0 hz (by first | assumption | omega) cpo_0 (Nat.lt_succ_self _)
set_option maxRecDepth 20000 in
set_option maxHeartbeats 2000000 in
theorem sX10_copies_b {l : Launch} {w : zW} (hfl : l.stackTraces = false) {σ : zS} {q a v b : Nat} (hz : zOK σ) (ha : a + 380 ≤ 380) (hb : b + 380 ≤ 3040) (hv : q ≠ v) : Sp l w mX10_copies 0 0 [zf 29 q, zi ((a : Nat) : Int), zf 30 v, zi ((b : Nat) : Int)] σ (zqv (none) (fun τ => zOK τ ∧ cpo σ τ q a v b 380)) := by
  obtain ⟨Q, hQ⟩ : ∃ Q : zQ, Q = (zqv (none) (fun τ => zOK τ ∧ cpo σ τ q a v b 380)) := ⟨_, rfl⟩
  rw [← hQ]
  refine zx_enter hfl (by decide) rfl 1 rfl ?_
  show zX l w mX10_copies (zMQ w 0 0 Q) 0 [zf 29 q, zi ((a : Nat) : Int), zf 30 v, zi ((b : Nat) : Int), zu] [] 0 σ
  refine zx_iconst dX10_copies_0 ?_
  refine zy_istore [zf 29 q, zi ((a : Nat) : Int), zf 30 v, zi ((b : Nat) : Int), zi 0] dX10_copies_1 (Nat.le_of_ble_eq_true rfl) (Nat.le_of_ble_eq_true rfl) rfl rfl ?_
  have L3 : ∀ (N : Nat) (τ : zS) (i : Nat), (zOK τ) → (i ≤ 380) → (cpo σ τ q a v b i) → (381 - i) < N → zX l w mX10_copies (zMQ w 0 0 Q) 3 [zf 29 q, zi ((a : Nat) : Int), zf 30 v, zi ((b : Nat) : Int), zi ((i : Nat) : Int)] [] 0 τ := by
    intro N
    induction N with
    | zero => intro τ i _ _ _ _; exact absurd (by assumption) (Nat.not_lt_zero _)
    | succ N ih3 =>
      intro τ i hz hi h1 hN
      have e1 := cpo_src hv h1 (a + i)
      refine zx_iload dX10_copies_3 rfl ?_
      refine zx_sipush dX10_copies_5 rfl ?_
      refine zx_icmp_ge (tgt := 29) (by first | exact hz _ _ | assumption | exact zr_b _ | exact zcmp_r _ _ | (unfold zr at *; omega)) (by first | exact hz _ _ | assumption | exact zr_b _ | exact zcmp_r _ _ | (unfold zr at *; omega)) dX10_copies_8 (by decide) (fun h8 => ?_) (fun h8 => ?_)
      · refine zx_vret rfl dX10_copies_29 ?_
        rw [hQ]
        refine ⟨rfl, ?_⟩
        have e : i = 380 := by omega
        subst e
        exact ⟨hz, h1⟩
      · refine zx_aloadN dX10_copies_11 rfl rfl ?_
        refine zx_iloadN dX10_copies_12 rfl rfl ?_
        refine zx_iload dX10_copies_13 rfl ?_
        refine zx_iadd dX10_copies_15 ?_
        refine zy_top (b := ((b + i : Nat) : Int)) (by omega) ?_
        refine zx_aloadN dX10_copies_16 rfl rfl ?_
        refine zx_iloadN dX10_copies_17 rfl rfl ?_
        refine zx_iload dX10_copies_18 rfl ?_
        refine zx_iadd dX10_copies_20 ?_
        refine zy_top (b := ((a + i : Nat) : Int)) (by omega) ?_
        refine zy_iald (v := τ.1 q (a + i)) rfl (by decide) (by decide) dX10_copies_21 (by omega) (by omega) rfl ?_
        refine zy_iast (i := b + i) rfl (by decide) (by decide) dX10_copies_22 (by omega) (by omega) rfl ?_
        refine zy_iinc (b := ((i + 1 : Nat) : Int)) [zf 29 q, zi ((a : Nat) : Int), zf 30 v, zi ((b : Nat) : Int), zi ((i + 1 : Nat) : Int)] dX10_copies_23 rfl (by omega) (Nat.le_of_ble_eq_true rfl) rfl rfl ?_
        refine zx_goto (tgt := 3) dX10_copies_26 (by decide) ?_
        exact ih3 (zput τ v (b + i) (τ.1 q (a + i))) (i + 1) (zOK_put hz (by first | exact hz _ _ | assumption | exact zr_b _ | exact zcmp_r _ _ | (unfold zr at *; omega))) (by first | assumption | omega) (cpo_s hv h1) (by omega)
  exact L3 _ σ 0 hz (by first | assumption | omega) cpo_0 (Nat.lt_succ_self _)
set_option maxRecDepth 20000 in
set_option maxHeartbeats 2000000 in
theorem sX10_copies_c {l : Launch} {w : zW} (hfl : l.stackTraces = false) {σ : zS} {q a v b : Nat} (hz : zOK σ) (ha : a + 380 ≤ 3040) (hb : b + 380 ≤ 380) (hv : q ≠ v) : Sp l w mX10_copies 0 0 [zf 30 q, zi ((a : Nat) : Int), zf 29 v, zi ((b : Nat) : Int)] σ (zqv (none) (fun τ => zOK τ ∧ cpo σ τ q a v b 380)) := by
  obtain ⟨Q, hQ⟩ : ∃ Q : zQ, Q = (zqv (none) (fun τ => zOK τ ∧ cpo σ τ q a v b 380)) := ⟨_, rfl⟩
  rw [← hQ]
  refine zx_enter hfl (by decide) rfl 1 rfl ?_
  show zX l w mX10_copies (zMQ w 0 0 Q) 0 [zf 30 q, zi ((a : Nat) : Int), zf 29 v, zi ((b : Nat) : Int), zu] [] 0 σ
  refine zx_iconst dX10_copies_0 ?_
  refine zy_istore [zf 30 q, zi ((a : Nat) : Int), zf 29 v, zi ((b : Nat) : Int), zi 0] dX10_copies_1 (Nat.le_of_ble_eq_true rfl) (Nat.le_of_ble_eq_true rfl) rfl rfl ?_
  have L3 : ∀ (N : Nat) (τ : zS) (i : Nat), (zOK τ) → (i ≤ 380) → (cpo σ τ q a v b i) → (381 - i) < N → zX l w mX10_copies (zMQ w 0 0 Q) 3 [zf 30 q, zi ((a : Nat) : Int), zf 29 v, zi ((b : Nat) : Int), zi ((i : Nat) : Int)] [] 0 τ := by
    intro N
    induction N with
    | zero => intro τ i _ _ _ _; exact absurd (by assumption) (Nat.not_lt_zero _)
    | succ N ih3 =>
      intro τ i hz hi h1 hN
      have e1 := cpo_src hv h1 (a + i)
      refine zx_iload dX10_copies_3 rfl ?_
      refine zx_sipush dX10_copies_5 rfl ?_
      refine zx_icmp_ge (tgt := 29) (by first | exact hz _ _ | assumption | exact zr_b _ | exact zcmp_r _ _ | (unfold zr at *; omega)) (by first | exact hz _ _ | assumption | exact zr_b _ | exact zcmp_r _ _ | (unfold zr at *; omega)) dX10_copies_8 (by decide) (fun h8 => ?_) (fun h8 => ?_)
      · refine zx_vret rfl dX10_copies_29 ?_
        rw [hQ]
        refine ⟨rfl, ?_⟩
        have e : i = 380 := by omega
        subst e
        exact ⟨hz, h1⟩
      · refine zx_aloadN dX10_copies_11 rfl rfl ?_
        refine zx_iloadN dX10_copies_12 rfl rfl ?_
        refine zx_iload dX10_copies_13 rfl ?_
        refine zx_iadd dX10_copies_15 ?_
        refine zy_top (b := ((b + i : Nat) : Int)) (by omega) ?_
        refine zx_aloadN dX10_copies_16 rfl rfl ?_
        refine zx_iloadN dX10_copies_17 rfl rfl ?_
        refine zx_iload dX10_copies_18 rfl ?_
        refine zx_iadd dX10_copies_20 ?_
        refine zy_top (b := ((a + i : Nat) : Int)) (by omega) ?_
        refine zy_iald (v := τ.1 q (a + i)) rfl (by decide) (by decide) dX10_copies_21 (by omega) (by omega) rfl ?_
        refine zy_iast (i := b + i) rfl (by decide) (by decide) dX10_copies_22 (by omega) (by omega) rfl ?_
        refine zy_iinc (b := ((i + 1 : Nat) : Int)) [zf 30 q, zi ((a : Nat) : Int), zf 29 v, zi ((b : Nat) : Int), zi ((i + 1 : Nat) : Int)] dX10_copies_23 rfl (by omega) (Nat.le_of_ble_eq_true rfl) rfl rfl ?_
        refine zx_goto (tgt := 3) dX10_copies_26 (by decide) ?_
        exact ih3 (zput τ v (b + i) (τ.1 q (a + i))) (i + 1) (zOK_put hz (by first | exact hz _ _ | assumption | exact zr_b _ | exact zcmp_r _ _ | (unfold zr at *; omega))) (by first | assumption | omega) (cpo_s hv h1) (by omega)
  exact L3 _ σ 0 hz (by first | assumption | omega) cpo_0 (Nat.lt_succ_self _)
set_option maxRecDepth 20000 in
set_option maxHeartbeats 2000000 in
theorem sX10_ofPrinter {l : Launch} {w : zW} (hfl : l.stackTraces = false) {σ : zS} {D : zBk} {p o : Nat} (hz : zOK σ) (hW : WF D) (hR : Rel D (σ.1 262)) (hp : (p : Int) < D 1 0) (ho : 7 ≤ o ∧ o ≤ 11) : Sp l w mX10_ofPrinter 0 0 [zf 10 261, zi ((p : Nat) : Int), zi ((o : Nat) : Int)] σ (zret (zi (D (o - 4) p)) σ) := by
  obtain ⟨Q, hQ⟩ : ∃ Q : zQ, Q = (zret (zi (D (o - 4) p)) σ) := ⟨_, rfl⟩
  rw [← hQ]
  refine zx_enter hfl (by decide) rfl 0 rfl ?_
  show zX l w mX10_ofPrinter (zMQ w 0 0 Q) 0 [zf 10 261, zi ((p : Nat) : Int), zi ((o : Nat) : Int)] [] 0 σ
  have hP : 0 ≤ D 1 0 ∧ D 1 0 ≤ 8 := hW.1.1
  have hM : 0 ≤ D 1 7 ∧ D 1 7 ≤ 8 := hW.1.2.1
  have hE : 0 ≤ D 1 10 ∧ D 1 10 ≤ 12 := hW.1.2.2.1
  have hK : 0 ≤ D 12 0 ∧ D 12 0 ≤ 40 := hW.1.2.2.2
  have r0 : σ.1 262 0 = D 1 0 := hR.1.1
  have r1 : σ.1 262 1 = D 1 7 := hR.1.2.1
  have r2 : σ.1 262 2 = D 1 10 := hR.1.2.2.1
  have r3 : σ.1 262 3 = D 12 0 := hR.1.2.2.2
  refine zx_aloadN dX10_ofPrinter_0 rfl rfl ?_
  refine zy_getR (q' := 262) fl_RX10_7 rfl dX10_ofPrinter_1 rfl ?_
  refine zx_iconst dX10_ofPrinter_4 ?_
  refine zx_bipush dX10_ofPrinter_5 rfl ?_
  refine zx_iloadN dX10_ofPrinter_7 rfl rfl ?_
  refine zx_imul dX10_ofPrinter_8 ?_
  refine zx_iadd dX10_ofPrinter_9 ?_
  refine zx_iloadN dX10_ofPrinter_10 rfl rfl ?_
  refine zx_iadd dX10_ofPrinter_11 ?_
  refine zy_top (b := ((4 + 12 * p + o : Nat) : Int)) (by omega) ?_
  refine zy_iald (v := σ.1 262 (4 + 12 * p + o)) rfl (by decide) (by decide) dX10_ofPrinter_12 (by omega) (by omega) rfl ?_
  refine zx_iret rfl rfl dX10_ofPrinter_13 ?_
  rw [hQ]
  refine ⟨congrArg (fun z : Int => (Sum.inl (some (zi z)) : Option zV ⊕ String)) ?_, by first | rfl | (exfalso; omega)⟩
  exact (hR.2.1 p hp).2 o ho.1 ho.2
set_option maxRecDepth 20000 in
set_option maxHeartbeats 2000000 in
theorem sX10_of {l : Launch} {w : zW} (hfl : l.stackTraces = false) {σ : zS} {D : zBk} {c o : Nat} (hz : zOK σ) (hW : WF D) (hR : Rel D (σ.1 262)) (hc : (c : Int) < D 12 0) (ho : o < 6) : Sp l w mX10_of 0 0 [zf 10 261, zi ((c : Nat) : Int), zi ((o : Nat) : Int)] σ (zret (zi (D (13 + o) c)) σ) := by
  obtain ⟨Q, hQ⟩ : ∃ Q : zQ, Q = (zret (zi (D (13 + o) c)) σ) := ⟨_, rfl⟩
  rw [← hQ]
  refine zx_enter hfl (by decide) rfl 0 rfl ?_
  show zX l w mX10_of (zMQ w 0 0 Q) 0 [zf 10 261, zi ((c : Nat) : Int), zi ((o : Nat) : Int)] [] 0 σ
  have hP : 0 ≤ D 1 0 ∧ D 1 0 ≤ 8 := hW.1.1
  have hM : 0 ≤ D 1 7 ∧ D 1 7 ≤ 8 := hW.1.2.1
  have hE : 0 ≤ D 1 10 ∧ D 1 10 ≤ 12 := hW.1.2.2.1
  have hK : 0 ≤ D 12 0 ∧ D 12 0 ≤ 40 := hW.1.2.2.2
  have r0 : σ.1 262 0 = D 1 0 := hR.1.1
  have r1 : σ.1 262 1 = D 1 7 := hR.1.2.1
  have r2 : σ.1 262 2 = D 1 10 := hR.1.2.2.1
  have r3 : σ.1 262 3 = D 12 0 := hR.1.2.2.2
  refine zx_aloadN dX10_of_0 rfl rfl ?_
  refine zy_getR (q' := 262) fl_RX10_7 rfl dX10_of_1 rfl ?_
  refine zx_sipush dX10_of_4 rfl ?_
  refine zx_bipush dX10_of_7 rfl ?_
  refine zx_iloadN dX10_of_9 rfl rfl ?_
  refine zx_imul dX10_of_10 ?_
  refine zx_iadd dX10_of_11 ?_
  refine zx_iloadN dX10_of_12 rfl rfl ?_
  refine zx_iadd dX10_of_13 ?_
  refine zy_top (b := ((140 + 6 * c + o : Nat) : Int)) (by omega) ?_
  refine zy_iald (v := σ.1 262 (140 + 6 * c + o)) rfl (by decide) (by decide) dX10_of_14 (by omega) (by omega) rfl ?_
  refine zx_iret rfl rfl dX10_of_15 ?_
  rw [hQ]
  refine ⟨congrArg (fun z : Int => (Sum.inl (some (zi z)) : Option zV ⊕ String)) ?_, by first | rfl | (exfalso; omega)⟩
  exact hR.2.2.2.2 c hc o ho
set_option maxRecDepth 20000 in
set_option maxHeartbeats 2000000 in
theorem sX10_puts {l : Launch} {w : zW} (hfl : l.stackTraces = false) {σ : zS} {c o : Nat} {x : Int} (hz : zOK σ) (hc : c < 40) (ho : o < 6) (hx : zr x) : Sp l w mX10_puts 0 0 [zf 10 261, zi ((c : Nat) : Int), zi ((o : Nat) : Int), zi x] σ (zrtv (zput σ 262 (140 + 6 * c + o) x)) := by
  obtain ⟨Q, hQ⟩ : ∃ Q : zQ, Q = (zrtv (zput σ 262 (140 + 6 * c + o) x)) := ⟨_, rfl⟩
  rw [← hQ]
  refine zx_enter hfl (by decide) rfl 0 rfl ?_
  show zX l w mX10_puts (zMQ w 0 0 Q) 0 [zf 10 261, zi ((c : Nat) : Int), zi ((o : Nat) : Int), zi x] [] 0 σ
  refine zx_aloadN dX10_puts_0 rfl rfl ?_
  refine zy_getR (q' := 262) fl_RX10_7 rfl dX10_puts_1 rfl ?_
  refine zx_sipush dX10_puts_4 rfl ?_
  refine zx_bipush dX10_puts_7 rfl ?_
  refine zx_iloadN dX10_puts_9 rfl rfl ?_
  refine zx_imul dX10_puts_10 ?_
  refine zx_iadd dX10_puts_11 ?_
  refine zx_iloadN dX10_puts_12 rfl rfl ?_
  refine zx_iadd dX10_puts_13 ?_
  refine zy_top (b := ((140 + 6 * c + o : Nat) : Int)) (by omega) ?_
  refine zx_iloadN dX10_puts_14 rfl rfl ?_
  refine zy_iast (i := 140 + 6 * c + o) rfl (by decide) (by decide) dX10_puts_15 (by omega) (by omega) rfl ?_
  refine zx_vret rfl dX10_puts_16 ?_
  rw [hQ]
  exact ⟨rfl, by first | rfl | (exfalso; omega)⟩
set_option maxRecDepth 20000 in
set_option maxHeartbeats 2000000 in
theorem sX10_putsPrinter {l : Launch} {w : zW} (hfl : l.stackTraces = false) {σ : zS} {c o : Nat} {x : Int} (hz : zOK σ) (hc : c < 8) (ho : o < 12) (hx : zr x) : Sp l w mX10_putsPrinter 0 0 [zf 10 261, zi ((c : Nat) : Int), zi ((o : Nat) : Int), zi x] σ (zrtv (zput σ 262 (4 + 12 * c + o) x)) := by
  obtain ⟨Q, hQ⟩ : ∃ Q : zQ, Q = (zrtv (zput σ 262 (4 + 12 * c + o) x)) := ⟨_, rfl⟩
  rw [← hQ]
  refine zx_enter hfl (by decide) rfl 0 rfl ?_
  show zX l w mX10_putsPrinter (zMQ w 0 0 Q) 0 [zf 10 261, zi ((c : Nat) : Int), zi ((o : Nat) : Int), zi x] [] 0 σ
  refine zx_aloadN dX10_putsPrinter_0 rfl rfl ?_
  refine zy_getR (q' := 262) fl_RX10_7 rfl dX10_putsPrinter_1 rfl ?_
  refine zx_iconst dX10_putsPrinter_4 ?_
  refine zx_bipush dX10_putsPrinter_5 rfl ?_
  refine zx_iloadN dX10_putsPrinter_7 rfl rfl ?_
  refine zx_imul dX10_putsPrinter_8 ?_
  refine zx_iadd dX10_putsPrinter_9 ?_
  refine zx_iloadN dX10_putsPrinter_10 rfl rfl ?_
  refine zx_iadd dX10_putsPrinter_11 ?_
  refine zy_top (b := ((4 + 12 * c + o : Nat) : Int)) (by omega) ?_
  refine zx_iloadN dX10_putsPrinter_12 rfl rfl ?_
  refine zy_iast (i := 4 + 12 * c + o) rfl (by decide) (by decide) dX10_putsPrinter_13 (by omega) (by omega) rfl ?_
  refine zx_vret rfl dX10_putsPrinter_14 ?_
  rw [hQ]
  exact ⟨rfl, by first | rfl | (exfalso; omega)⟩
set_option maxRecDepth 20000 in
set_option maxHeartbeats 2000000 in
theorem sX10_isPrinter {l : Launch} {w : zW} (hfl : l.stackTraces = false) {σ : zS} {D : zBk} {x : Int} (hz : zOK σ) (hW : WF D) (hR : Rel D (σ.1 262)) (hx : zr x) : Sp l w mX10_isPrinter 1 0 [zf 10 261, zi x] σ (zret (zi (zb (0 ≤ x ∧ x < D 1 0))) σ) := by
  obtain ⟨Q, hQ⟩ : ∃ Q : zQ, Q = (zret (zi (zb (0 ≤ x ∧ x < D 1 0))) σ) := ⟨_, rfl⟩
  rw [← hQ]
  refine zx_enter hfl (by decide) rfl 0 rfl ?_
  show zX l w mX10_isPrinter (zMQ w 1 0 Q) 0 [zf 10 261, zi x] [] 0 σ
  have hP : 0 ≤ D 1 0 ∧ D 1 0 ≤ 8 := hW.1.1
  have hM : 0 ≤ D 1 7 ∧ D 1 7 ≤ 8 := hW.1.2.1
  have hE : 0 ≤ D 1 10 ∧ D 1 10 ≤ 12 := hW.1.2.2.1
  have hK : 0 ≤ D 12 0 ∧ D 12 0 ≤ 40 := hW.1.2.2.2
  have r0 : σ.1 262 0 = D 1 0 := hR.1.1
  have r1 : σ.1 262 1 = D 1 7 := hR.1.2.1
  have r2 : σ.1 262 2 = D 1 10 := hR.1.2.2.1
  have r3 : σ.1 262 3 = D 12 0 := hR.1.2.2.2
  refine zx_iloadN dX10_isPrinter_0 rfl rfl ?_
  refine zx_i2l (by first | exact hz _ _ | assumption | exact zr_b _ | exact zcmp_r _ _ | (unfold zr at *; omega)) dX10_isPrinter_1 ?_
  refine zx_lconst (a := 0) dX10_isPrinter_2 rfl ?_
  refine zx_aloadN dX10_isPrinter_3 rfl rfl ?_
  refine zy_getR (q' := 262) fl_RX10_7 rfl dX10_isPrinter_4 rfl ?_
  refine zx_iconst dX10_isPrinter_7 ?_
  refine zy_iald (v := σ.1 262 0) rfl (by decide) (by decide) dX10_isPrinter_8 (by omega) (by omega) rfl ?_
  refine zx_iconst dX10_isPrinter_9 ?_
  refine zx_isub dX10_isPrinter_10 ?_
  refine zx_i2l (by first | exact hz _ _ | assumption | exact zr_b _ | exact zcmp_r _ _ | (unfold zr at *; omega)) dX10_isPrinter_11 ?_
  refine zy_cs [zl x, zl 0, zl ((σ.1 262 0) - 1)] (sX10_in  hfl hz (by first | exact hz _ _ | assumption | exact zr_b _ | exact zcmp_r _ _ | (unfold zr at *; omega)) (by first | exact hz _ _ | assumption | exact zr_b _ | exact zcmp_r _ _ | (unfold zr at *; omega)) (by first | exact hz _ _ | assumption | exact zr_b _ | exact zcmp_r _ _ | (unfold zr at *; omega))) dX10_isPrinter_12 cw_RX10_74 okX10_in rfl (Nat.le_of_ble_eq_true rfl) ⟨Nat.le_of_ble_eq_true rfl, Nat.le_of_ble_eq_true rfl, Nat.le_of_ble_eq_true rfl, Nat.le_of_ble_eq_true rfl⟩ ?_
  refine zx_iret rfl (zb_nar _) dX10_isPrinter_15 ?_
  rw [hQ]
  refine ⟨congrArg (fun z : Int => (Sum.inl (some (zi z)) : Option zV ⊕ String)) ?_, by first | rfl | (exfalso; omega)⟩
  exact zb_c (by omega)
set_option maxRecDepth 20000 in
set_option maxHeartbeats 2000000 in
theorem sX10_isClue {l : Launch} {w : zW} (hfl : l.stackTraces = false) {σ : zS} {D : zBk} {x : Int} (hz : zOK σ) (hW : WF D) (hR : Rel D (σ.1 262)) (hx : zr x) : Sp l w mX10_isClue 1 0 [zf 10 261, zi x] σ (zret (zi (zb (0 ≤ x ∧ x < D 12 0))) σ) := by
  obtain ⟨Q, hQ⟩ : ∃ Q : zQ, Q = (zret (zi (zb (0 ≤ x ∧ x < D 12 0))) σ) := ⟨_, rfl⟩
  rw [← hQ]
  refine zx_enter hfl (by decide) rfl 0 rfl ?_
  show zX l w mX10_isClue (zMQ w 1 0 Q) 0 [zf 10 261, zi x] [] 0 σ
  have hP : 0 ≤ D 1 0 ∧ D 1 0 ≤ 8 := hW.1.1
  have hM : 0 ≤ D 1 7 ∧ D 1 7 ≤ 8 := hW.1.2.1
  have hE : 0 ≤ D 1 10 ∧ D 1 10 ≤ 12 := hW.1.2.2.1
  have hK : 0 ≤ D 12 0 ∧ D 12 0 ≤ 40 := hW.1.2.2.2
  have r0 : σ.1 262 0 = D 1 0 := hR.1.1
  have r1 : σ.1 262 1 = D 1 7 := hR.1.2.1
  have r2 : σ.1 262 2 = D 1 10 := hR.1.2.2.1
  have r3 : σ.1 262 3 = D 12 0 := hR.1.2.2.2
  refine zx_iloadN dX10_isClue_0 rfl rfl ?_
  refine zx_i2l (by first | exact hz _ _ | assumption | exact zr_b _ | exact zcmp_r _ _ | (unfold zr at *; omega)) dX10_isClue_1 ?_
  refine zx_lconst (a := 0) dX10_isClue_2 rfl ?_
  refine zx_aloadN dX10_isClue_3 rfl rfl ?_
  refine zy_getR (q' := 262) fl_RX10_7 rfl dX10_isClue_4 rfl ?_
  refine zx_iconst dX10_isClue_7 ?_
  refine zy_iald (v := σ.1 262 3) rfl (by decide) (by decide) dX10_isClue_8 (by omega) (by omega) rfl ?_
  refine zx_iconst dX10_isClue_9 ?_
  refine zx_isub dX10_isClue_10 ?_
  refine zx_i2l (by first | exact hz _ _ | assumption | exact zr_b _ | exact zcmp_r _ _ | (unfold zr at *; omega)) dX10_isClue_11 ?_
  refine zy_cs [zl x, zl 0, zl ((σ.1 262 3) - 1)] (sX10_in  hfl hz (by first | exact hz _ _ | assumption | exact zr_b _ | exact zcmp_r _ _ | (unfold zr at *; omega)) (by first | exact hz _ _ | assumption | exact zr_b _ | exact zcmp_r _ _ | (unfold zr at *; omega)) (by first | exact hz _ _ | assumption | exact zr_b _ | exact zcmp_r _ _ | (unfold zr at *; omega))) dX10_isClue_12 cw_RX10_74 okX10_in rfl (Nat.le_of_ble_eq_true rfl) ⟨Nat.le_of_ble_eq_true rfl, Nat.le_of_ble_eq_true rfl, Nat.le_of_ble_eq_true rfl, Nat.le_of_ble_eq_true rfl⟩ ?_
  refine zx_iret rfl (zb_nar _) dX10_isClue_15 ?_
  rw [hQ]
  refine ⟨congrArg (fun z : Int => (Sum.inl (some (zi z)) : Option zV ⊕ String)) ?_, by first | rfl | (exfalso; omega)⟩
  exact zb_c (by omega)
set_option maxRecDepth 20000 in
set_option maxHeartbeats 2000000 in
theorem sX10_isYear {l : Launch} {w : zW} (hfl : l.stackTraces = false) {σ : zS} {x : Int} (hz : zOK σ) (hx : zr x) : Sp l w mX10_isYear 1 0 [zi x] σ (zret (zi (zb (1450 ≤ x ∧ x ≤ 1999))) σ) := by
  obtain ⟨Q, hQ⟩ : ∃ Q : zQ, Q = (zret (zi (zb (1450 ≤ x ∧ x ≤ 1999))) σ) := ⟨_, rfl⟩
  rw [← hQ]
  refine zx_enter hfl (by decide) rfl 0 rfl ?_
  show zX l w mX10_isYear (zMQ w 1 0 Q) 0 [zi x] [] 0 σ
  refine zx_iloadN dX10_isYear_0 rfl rfl ?_
  refine zx_i2l (by first | exact hz _ _ | assumption | exact zr_b _ | exact zcmp_r _ _ | (unfold zr at *; omega)) dX10_isYear_1 ?_
  refine zx_ldc2 (a := 1450) dX10_isYear_2 lk_RX10_78 ?_
  refine zx_ldc2 (a := 1999) dX10_isYear_5 lk_RX10_80 ?_
  refine zy_cs [zl x, zl 1450, zl 1999] (sX10_in  hfl hz (by first | exact hz _ _ | assumption | exact zr_b _ | exact zcmp_r _ _ | (unfold zr at *; omega)) (by first | exact hz _ _ | assumption | exact zr_b _ | exact zcmp_r _ _ | (unfold zr at *; omega)) (by first | exact hz _ _ | assumption | exact zr_b _ | exact zcmp_r _ _ | (unfold zr at *; omega))) dX10_isYear_8 cw_RX10_74 okX10_in rfl (Nat.le_of_ble_eq_true rfl) ⟨Nat.le_of_ble_eq_true rfl, Nat.le_of_ble_eq_true rfl, Nat.le_of_ble_eq_true rfl, Nat.le_of_ble_eq_true rfl⟩ ?_
  refine zx_iret rfl (zb_nar _) dX10_isYear_11 ?_
  rw [hQ]
  refine ⟨congrArg (fun z : Int => (Sum.inl (some (zi z)) : Option zV ⊕ String)) ?_, by first | rfl | (exfalso; omega)⟩
  rfl
set_option maxRecDepth 20000 in
set_option maxHeartbeats 2000000 in
theorem sX10_isWorking {l : Launch} {w : zW} (hfl : l.stackTraces = false) {σ : zS} {D : zBk} {p : Nat} {y : Int} (hz : zOK σ) (hW : WF D) (hR : Rel D (σ.1 262)) (hp : (p : Int) < D 1 0) (hy : zr y) : Sp l w mX10_isWorking 1 0 [zf 10 261, zi ((p : Nat) : Int), zi y] σ (zret (zi (zb (works D p y))) σ) := by
  obtain ⟨Q, hQ⟩ : ∃ Q : zQ, Q = (zret (zi (zb (works D p y))) σ) := ⟨_, rfl⟩
  rw [← hQ]
  refine zx_enter hfl (by decide) rfl 0 rfl ?_
  show zX l w mX10_isWorking (zMQ w 1 0 Q) 0 [zf 10 261, zi ((p : Nat) : Int), zi y] [] 0 σ
  have hP : 0 ≤ D 1 0 ∧ D 1 0 ≤ 8 := hW.1.1
  have hM : 0 ≤ D 1 7 ∧ D 1 7 ≤ 8 := hW.1.2.1
  have hE : 0 ≤ D 1 10 ∧ D 1 10 ≤ 12 := hW.1.2.2.1
  have hK : 0 ≤ D 12 0 ∧ D 12 0 ≤ 40 := hW.1.2.2.2
  have r0 : σ.1 262 0 = D 1 0 := hR.1.1
  have r1 : σ.1 262 1 = D 1 7 := hR.1.2.1
  have r2 : σ.1 262 2 = D 1 10 := hR.1.2.2.1
  have r3 : σ.1 262 3 = D 12 0 := hR.1.2.2.2
  have hyr := (hW.2.1 p hp).2
  refine zx_iloadN dX10_isWorking_0 rfl rfl ?_
  refine zx_i2l (by first | exact hz _ _ | assumption | exact zr_b _ | exact zcmp_r _ _ | (unfold zr at *; omega)) dX10_isWorking_1 ?_
  refine zx_aloadN dX10_isWorking_2 rfl rfl ?_
  refine zx_iloadN dX10_isWorking_3 rfl rfl ?_
  refine zx_bipush dX10_isWorking_4 rfl ?_
  refine zy_cv [zi ((p : Nat) : Int), zi 8] (sX10_ofPrinter (D := D) (p := p) (o := 8) hfl hz (by first | assumption | omega) (by first | assumption | (refine Rel_put (by decide) ?_; assumption) | (refine Rel_put (by decide) (Rel_put (by decide) ?_); assumption) | (refine Rel_put (by decide) (Rel_put (by decide) (Rel_put (by decide) ?_)); assumption)) (by first | assumption | omega) (by first | assumption | omega)) dX10_isWorking_6 (by decide) rfl cw_RX10_82 okX10_ofPrinter rfl (Nat.le_of_ble_eq_true rfl) ⟨Nat.le_of_ble_eq_true rfl, Nat.le_of_ble_eq_true rfl, Nat.le_of_ble_eq_true rfl, Nat.le_of_ble_eq_true rfl⟩ ?_
  refine zy_top (b := D 4 p) rfl ?_
  refine zx_i2l (by first | exact hz _ _ | assumption | exact zr_b _ | exact zcmp_r _ _ | (unfold zr at *; omega)) dX10_isWorking_9 ?_
  refine zx_aloadN dX10_isWorking_10 rfl rfl ?_
  refine zx_iloadN dX10_isWorking_11 rfl rfl ?_
  refine zx_bipush dX10_isWorking_12 rfl ?_
  refine zy_cv [zi ((p : Nat) : Int), zi 9] (sX10_ofPrinter (D := D) (p := p) (o := 9) hfl hz (by first | assumption | omega) (by first | assumption | (refine Rel_put (by decide) ?_; assumption) | (refine Rel_put (by decide) (Rel_put (by decide) ?_); assumption) | (refine Rel_put (by decide) (Rel_put (by decide) (Rel_put (by decide) ?_)); assumption)) (by first | assumption | omega) (by first | assumption | omega)) dX10_isWorking_14 (by decide) rfl cw_RX10_82 okX10_ofPrinter rfl (Nat.le_of_ble_eq_true rfl) ⟨Nat.le_of_ble_eq_true rfl, Nat.le_of_ble_eq_true rfl, Nat.le_of_ble_eq_true rfl, Nat.le_of_ble_eq_true rfl⟩ ?_
  refine zy_top (b := D 5 p) rfl ?_
  refine zx_i2l (by first | exact hz _ _ | assumption | exact zr_b _ | exact zcmp_r _ _ | (unfold zr at *; omega)) dX10_isWorking_17 ?_
  refine zy_cs [zl y, zl (D 4 p), zl (D 5 p)] (sX10_in  hfl hz (by first | exact hz _ _ | assumption | exact zr_b _ | exact zcmp_r _ _ | (unfold zr at *; omega)) (by first | exact hz _ _ | assumption | exact zr_b _ | exact zcmp_r _ _ | (unfold zr at *; omega)) (by first | exact hz _ _ | assumption | exact zr_b _ | exact zcmp_r _ _ | (unfold zr at *; omega))) dX10_isWorking_18 cw_RX10_74 okX10_in rfl (Nat.le_of_ble_eq_true rfl) ⟨Nat.le_of_ble_eq_true rfl, Nat.le_of_ble_eq_true rfl, Nat.le_of_ble_eq_true rfl, Nat.le_of_ble_eq_true rfl⟩ ?_
  refine zx_iret rfl (zb_nar _) dX10_isWorking_21 ?_
  rw [hQ]
  refine ⟨congrArg (fun z : Int => (Sum.inl (some (zi z)) : Option zV ⊕ String)) ?_, by first | rfl | (exfalso; omega)⟩
  rfl
set_option maxRecDepth 20000 in
set_option maxHeartbeats 2000000 in
theorem sX10_has {l : Launch} {w : zW} (hfl : l.stackTraces = false) {σ : zS} {D : zBk} {p o : Nat} {x y : Int} (hz : zOK σ) (hW : WF D) (hR : Rel D (σ.1 262)) (hp : (p : Int) < D 1 0) (ho : o = 10 ∨ o = 11) (hy : zr y) (hx : x = 32 ∨ x = 16) : Sp l w mX10_has 1 0 [zf 10 261, zi ((p : Nat) : Int), zi ((o : Nat) : Int), zi y, zi x] σ (zret (zi (zb (0 ≤ y ∧ y ≤ x - 1 ∧ ¬ zand (zushr (D (o - 4) p) y) 1 = 0))) σ) := by
  obtain ⟨Q, hQ⟩ : ∃ Q : zQ, Q = (zret (zi (zb (0 ≤ y ∧ y ≤ x - 1 ∧ ¬ zand (zushr (D (o - 4) p) y) 1 = 0))) σ) := ⟨_, rfl⟩
  rw [← hQ]
  refine zx_enter hfl (by decide) rfl 0 rfl ?_
  show zX l w mX10_has (zMQ w 1 0 Q) 0 [zf 10 261, zi ((p : Nat) : Int), zi ((o : Nat) : Int), zi y, zi x] [] 0 σ
  have hP : 0 ≤ D 1 0 ∧ D 1 0 ≤ 8 := hW.1.1
  have hM : 0 ≤ D 1 7 ∧ D 1 7 ≤ 8 := hW.1.2.1
  have hE : 0 ≤ D 1 10 ∧ D 1 10 ≤ 12 := hW.1.2.2.1
  have hK : 0 ≤ D 12 0 ∧ D 12 0 ≤ 40 := hW.1.2.2.2
  have r0 : σ.1 262 0 = D 1 0 := hR.1.1
  have r1 : σ.1 262 1 = D 1 7 := hR.1.2.1
  have r2 : σ.1 262 2 = D 1 10 := hR.1.2.2.1
  have r3 : σ.1 262 3 = D 12 0 := hR.1.2.2.2
  have hzp : ∀ o, 7 ≤ o → o ≤ 11 → zr (D (o - 4) p) := fun o h1 h2 => by rw [← (hR.2.1 p hp).2 o h1 h2]; exact hz _ _
  have hzo := hzp o (by omega) (by omega)
  have hx2 : zr x := by unfold zr; omega
  refine zx_iloadN dX10_has_0 rfl rfl ?_
  refine zx_i2l (by first | exact hz _ _ | assumption | exact zr_b _ | exact zcmp_r _ _ | exact zr_t _ | (unfold zr at *; omega)) dX10_has_1 ?_
  refine zx_lconst (a := 0) dX10_has_2 rfl ?_
  refine zx_iload dX10_has_3 rfl ?_
  refine zx_iconst dX10_has_5 ?_
  refine zx_isub dX10_has_6 ?_
  refine zx_i2l (by first | exact hz _ _ | assumption | exact zr_b _ | exact zcmp_r _ _ | exact zr_t _ | (unfold zr at *; omega)) dX10_has_7 ?_
  refine zy_cs [zl y, zl 0, zl (x - 1)] (sX10_in  hfl hz (by first | exact hz _ _ | assumption | exact zr_b _ | exact zcmp_r _ _ | exact zr_t _ | (unfold zr at *; omega)) (by first | exact hz _ _ | assumption | exact zr_b _ | exact zcmp_r _ _ | exact zr_t _ | (unfold zr at *; omega)) (by first | exact hz _ _ | assumption | exact zr_b _ | exact zcmp_r _ _ | exact zr_t _ | (unfold zr at *; omega))) dX10_has_8 cw_RX10_74 okX10_in rfl (Nat.le_of_ble_eq_true rfl) ⟨Nat.le_of_ble_eq_true rfl, Nat.le_of_ble_eq_true rfl, Nat.le_of_ble_eq_true rfl, Nat.le_of_ble_eq_true rfl⟩ ?_
  refine zx_if_eq (tgt := 32) (by first | exact hz _ _ | assumption | exact zr_b _ | exact zcmp_r _ _ | exact zr_t _ | (unfold zr at *; omega)) dX10_has_11 (by decide) (fun h11 => ?_) (fun h11 => ?_)
  · have h11 := zb_0.mp h11
    refine zx_iconst dX10_has_32 ?_
    refine zx_iret rfl rfl dX10_has_33 ?_
    rw [hQ]
    refine ⟨congrArg (fun z : Int => (Sum.inl (some (zi z)) : Option zV ⊕ String)) ?_, by first | rfl | (exfalso; omega)⟩
    first
    | exact (zb_t ⟨h11.1, h11.2, (bit_f hzo (by omega)).mp h25⟩).symm
    | exact (zb_f (fun q => h25 ((bit_f hzo (by omega)).mpr q.2.2))).symm
    | exact (zb_f (fun q => h11 ⟨q.1, q.2.1⟩)).symm
  · have h11 := zb_n.mp h11
    refine zx_aloadN dX10_has_14 rfl rfl ?_
    refine zx_iloadN dX10_has_15 rfl rfl ?_
    refine zx_iloadN dX10_has_16 rfl rfl ?_
    refine zy_cv [zi ((p : Nat) : Int), zi ((o : Nat) : Int)] (sX10_ofPrinter (D := D) (p := p) (o := o) hfl hz (by first | assumption | omega) (by first | assumption | (refine Rel_put (by decide) ?_; assumption) | (refine Rel_put (by decide) (Rel_put (by decide) ?_); assumption) | (refine Rel_put (by decide) (Rel_put (by decide) (Rel_put (by decide) ?_)); assumption)) (by first | assumption | omega) (by first | assumption | omega)) dX10_has_17 (by decide) rfl cw_RX10_82 okX10_ofPrinter rfl (Nat.le_of_ble_eq_true rfl) ⟨Nat.le_of_ble_eq_true rfl, Nat.le_of_ble_eq_true rfl, Nat.le_of_ble_eq_true rfl, Nat.le_of_ble_eq_true rfl⟩ ?_
    refine zx_iloadN dX10_has_20 rfl rfl ?_
    refine zx_ishr dX10_has_21 ?_
    refine zx_iconst dX10_has_22 ?_
    refine zx_iand dX10_has_23 ?_
    refine zx_iconst dX10_has_24 ?_
    refine zx_icmp_ne (tgt := 32) (by first | exact hz _ _ | assumption | exact zr_b _ | exact zcmp_r _ _ | exact zr_t _ | (unfold zr at *; omega)) (by first | exact hz _ _ | assumption | exact zr_b _ | exact zcmp_r _ _ | exact zr_t _ | (unfold zr at *; omega)) dX10_has_25 (by decide) (fun h25 => ?_) (fun h25 => ?_)
    · refine zx_iconst dX10_has_32 ?_
      refine zx_iret rfl rfl dX10_has_33 ?_
      rw [hQ]
      refine ⟨congrArg (fun z : Int => (Sum.inl (some (zi z)) : Option zV ⊕ String)) ?_, by first | rfl | (exfalso; omega)⟩
      first
      | exact (zb_t ⟨h11.1, h11.2, (bit_f hzo (by omega)).mp h25⟩).symm
      | exact (zb_f (fun q => h25 ((bit_f hzo (by omega)).mpr q.2.2))).symm
      | exact (zb_f (fun q => h11 ⟨q.1, q.2.1⟩)).symm
    · refine zx_iconst dX10_has_28 ?_
      refine zx_goto (tgt := 33) dX10_has_29 (by decide) ?_
      refine zx_iret rfl rfl dX10_has_33 ?_
      rw [hQ]
      refine ⟨congrArg (fun z : Int => (Sum.inl (some (zi z)) : Option zV ⊕ String)) ?_, by first | rfl | (exfalso; omega)⟩
      first
      | exact (zb_t ⟨h11.1, h11.2, (bit_f hzo (by omega)).mp h25⟩).symm
      | exact (zb_f (fun q => h25 ((bit_f hzo (by omega)).mpr q.2.2))).symm
      | exact (zb_f (fun q => h11 ⟨q.1, q.2.1⟩)).symm
set_option maxRecDepth 20000 in
set_option maxHeartbeats 2000000 in
theorem sX10_ownsDevice {l : Launch} {w : zW} (hfl : l.stackTraces = false) {σ : zS} {D : zBk} {p : Nat} {y : Int} (hz : zOK σ) (hW : WF D) (hR : Rel D (σ.1 262)) (hp : (p : Int) < D 1 0) (hy : zr y) : Sp l w mX10_ownsDevice 2 0 [zf 10 261, zi ((p : Nat) : Int), zi y] σ (zret (zi (zb (hasDev D p y))) σ) := by
  obtain ⟨Q, hQ⟩ : ∃ Q : zQ, Q = (zret (zi (zb (hasDev D p y))) σ) := ⟨_, rfl⟩
  rw [← hQ]
  refine zx_enter hfl (by decide) rfl 0 rfl ?_
  show zX l w mX10_ownsDevice (zMQ w 2 0 Q) 0 [zf 10 261, zi ((p : Nat) : Int), zi y] [] 0 σ
  have hP : 0 ≤ D 1 0 ∧ D 1 0 ≤ 8 := hW.1.1
  have hM : 0 ≤ D 1 7 ∧ D 1 7 ≤ 8 := hW.1.2.1
  have hE : 0 ≤ D 1 10 ∧ D 1 10 ≤ 12 := hW.1.2.2.1
  have hK : 0 ≤ D 12 0 ∧ D 12 0 ≤ 40 := hW.1.2.2.2
  have r0 : σ.1 262 0 = D 1 0 := hR.1.1
  have r1 : σ.1 262 1 = D 1 7 := hR.1.2.1
  have r2 : σ.1 262 2 = D 1 10 := hR.1.2.2.1
  have r3 : σ.1 262 3 = D 12 0 := hR.1.2.2.2
  refine zx_aloadN dX10_ownsDevice_0 rfl rfl ?_
  refine zx_iloadN dX10_ownsDevice_1 rfl rfl ?_
  refine zx_bipush dX10_ownsDevice_2 rfl ?_
  refine zx_iloadN dX10_ownsDevice_4 rfl rfl ?_
  refine zx_bipush dX10_ownsDevice_5 rfl ?_
  refine zy_cv [zi ((p : Nat) : Int), zi 10, zi y, zi 32] (sX10_has (D := D) (p := p) (o := 10) hfl hz (by first | assumption | omega) (by first | assumption | (refine Rel_put (by decide) ?_; assumption) | (refine Rel_put (by decide) (Rel_put (by decide) ?_); assumption) | (refine Rel_put (by decide) (Rel_put (by decide) (Rel_put (by decide) ?_)); assumption)) (by first | assumption | omega) (by first | assumption | omega) (by first | exact hz _ _ | assumption | exact zr_b _ | exact zcmp_r _ _ | (unfold zr at *; omega)) (by first | assumption | omega)) dX10_ownsDevice_7 (by decide) rfl cw_RX10_86 okX10_has rfl (Nat.le_of_ble_eq_true rfl) ⟨Nat.le_of_ble_eq_true rfl, Nat.le_of_ble_eq_true rfl, Nat.le_of_ble_eq_true rfl, Nat.le_of_ble_eq_true rfl⟩ ?_
  refine zy_top (b := zb (0 ≤ y ∧ y ≤ 32 - 1 ∧ ¬ zand (zushr (D 6 p) y) 1 = 0)) rfl ?_
  refine zx_iret rfl (zb_nar _) dX10_ownsDevice_10 ?_
  rw [hQ]
  refine ⟨congrArg (fun z : Int => (Sum.inl (some (zi z)) : Option zV ⊕ String)) ?_, by first | rfl | (exfalso; omega)⟩
  unfold hasDev; exact zb_c ⟨fun q => ⟨q.1, by omega, q.2.2⟩, fun q => ⟨q.1, by omega, q.2.2⟩⟩
set_option maxRecDepth 20000 in
set_option maxHeartbeats 2000000 in
theorem sX10_ownsType {l : Launch} {w : zW} (hfl : l.stackTraces = false) {σ : zS} {D : zBk} {p : Nat} {y : Int} (hz : zOK σ) (hW : WF D) (hR : Rel D (σ.1 262)) (hp : (p : Int) < D 1 0) (hy : zr y) : Sp l w mX10_ownsType 2 0 [zf 10 261, zi ((p : Nat) : Int), zi y] σ (zret (zi (zb (hasTyp D p y))) σ) := by
  obtain ⟨Q, hQ⟩ : ∃ Q : zQ, Q = (zret (zi (zb (hasTyp D p y))) σ) := ⟨_, rfl⟩
  rw [← hQ]
  refine zx_enter hfl (by decide) rfl 0 rfl ?_
  show zX l w mX10_ownsType (zMQ w 2 0 Q) 0 [zf 10 261, zi ((p : Nat) : Int), zi y] [] 0 σ
  have hP : 0 ≤ D 1 0 ∧ D 1 0 ≤ 8 := hW.1.1
  have hM : 0 ≤ D 1 7 ∧ D 1 7 ≤ 8 := hW.1.2.1
  have hE : 0 ≤ D 1 10 ∧ D 1 10 ≤ 12 := hW.1.2.2.1
  have hK : 0 ≤ D 12 0 ∧ D 12 0 ≤ 40 := hW.1.2.2.2
  have r0 : σ.1 262 0 = D 1 0 := hR.1.1
  have r1 : σ.1 262 1 = D 1 7 := hR.1.2.1
  have r2 : σ.1 262 2 = D 1 10 := hR.1.2.2.1
  have r3 : σ.1 262 3 = D 12 0 := hR.1.2.2.2
  refine zx_aloadN dX10_ownsType_0 rfl rfl ?_
  refine zx_iloadN dX10_ownsType_1 rfl rfl ?_
  refine zx_bipush dX10_ownsType_2 rfl ?_
  refine zx_iloadN dX10_ownsType_4 rfl rfl ?_
  refine zx_bipush dX10_ownsType_5 rfl ?_
  refine zy_cv [zi ((p : Nat) : Int), zi 11, zi y, zi 16] (sX10_has (D := D) (p := p) (o := 11) hfl hz (by first | assumption | omega) (by first | assumption | (refine Rel_put (by decide) ?_; assumption) | (refine Rel_put (by decide) (Rel_put (by decide) ?_); assumption) | (refine Rel_put (by decide) (Rel_put (by decide) (Rel_put (by decide) ?_)); assumption)) (by first | assumption | omega) (by first | assumption | omega) (by first | exact hz _ _ | assumption | exact zr_b _ | exact zcmp_r _ _ | (unfold zr at *; omega)) (by first | assumption | omega)) dX10_ownsType_7 (by decide) rfl cw_RX10_86 okX10_has rfl (Nat.le_of_ble_eq_true rfl) ⟨Nat.le_of_ble_eq_true rfl, Nat.le_of_ble_eq_true rfl, Nat.le_of_ble_eq_true rfl, Nat.le_of_ble_eq_true rfl⟩ ?_
  refine zy_top (b := zb (0 ≤ y ∧ y ≤ 16 - 1 ∧ ¬ zand (zushr (D 7 p) y) 1 = 0)) rfl ?_
  refine zx_iret rfl (zb_nar _) dX10_ownsType_10 ?_
  rw [hQ]
  refine ⟨congrArg (fun z : Int => (Sum.inl (some (zi z)) : Option zV ⊕ String)) ?_, by first | rfl | (exfalso; omega)⟩
  unfold hasTyp; exact zb_c ⟨fun q => ⟨q.1, by omega, q.2.2⟩, fun q => ⟨q.1, by omega, q.2.2⟩⟩
set_option maxRecDepth 20000 in
set_option maxHeartbeats 2000000 in
theorem sX10_owners {l : Launch} {w : zW} (hfl : l.stackTraces = false) {σ : zS} {D : zBk} {y : Int} (hz : zOK σ) (hW : WF D) (hR : Rel D (σ.1 262)) (hy : zr y) : Sp l w mX10_owners 3 0 [zf 10 261, zi y] σ (zret (zi (zs (fun p => zb (hasDev D p y)) (D 1 0).toNat)) σ) := by
  obtain ⟨Q, hQ⟩ : ∃ Q : zQ, Q = (zret (zi (zs (fun p => zb (hasDev D p y)) (D 1 0).toNat)) σ) := ⟨_, rfl⟩
  rw [← hQ]
  refine zx_enter hfl (by decide) rfl 2 rfl ?_
  show zX l w mX10_owners (zMQ w 3 0 Q) 0 [zf 10 261, zi y, zu, zu] [] 0 σ
  have hP : 0 ≤ D 1 0 ∧ D 1 0 ≤ 8 := hW.1.1
  have hM : 0 ≤ D 1 7 ∧ D 1 7 ≤ 8 := hW.1.2.1
  have hE : 0 ≤ D 1 10 ∧ D 1 10 ≤ 12 := hW.1.2.2.1
  have hK : 0 ≤ D 12 0 ∧ D 12 0 ≤ 40 := hW.1.2.2.2
  have r0 : σ.1 262 0 = D 1 0 := hR.1.1
  have r1 : σ.1 262 1 = D 1 7 := hR.1.2.1
  have r2 : σ.1 262 2 = D 1 10 := hR.1.2.2.1
  have r3 : σ.1 262 3 = D 12 0 := hR.1.2.2.2
  refine zx_iconst dX10_owners_0 ?_
  refine zy_istoreN [zf 10 261, zi y, zi 0, zu] dX10_owners_1 rfl (Nat.le_of_ble_eq_true rfl) (Nat.le_of_ble_eq_true rfl) rfl rfl ?_
  refine zx_iconst dX10_owners_2 ?_
  refine zy_istoreN [zf 10 261, zi y, zi 0, zi 0] dX10_owners_3 rfl (Nat.le_of_ble_eq_true rfl) (Nat.le_of_ble_eq_true rfl) rfl rfl ?_
  have L4 : ∀ (N : Nat) (p : Nat) (acc : Int), ((p : Int) ≤ D 1 0) → (acc = zs (fun p => zb (hasDev D p y)) p) → (9 - p) < N → zX l w mX10_owners (zMQ w 3 0 Q) 4 [zf 10 261, zi y, zi acc, zi ((p : Nat) : Int)] [] 0 σ := by
    intro N
    induction N with
    | zero => intro p acc _ _ _; exact absurd (by assumption) (Nat.not_lt_zero _)
    | succ N ih4 =>
      intro p acc hp_ hacc hN
      refine zx_iloadN dX10_owners_4 rfl rfl ?_
      refine zx_aloadN dX10_owners_5 rfl rfl ?_
      refine zy_getR (q' := 262) fl_RX10_7 rfl dX10_owners_6 rfl ?_
      refine zx_iconst dX10_owners_9 ?_
      refine zy_iald (v := σ.1 262 0) rfl (by decide) (by decide) dX10_owners_10 (by omega) (by omega) rfl ?_
      refine zx_icmp_ge (tgt := 32) (by first | exact hz _ _ | assumption | exact zr_b _ | exact zcmp_r _ _ | (unfold zr at *; omega)) (by first | exact hz _ _ | assumption | exact zr_b _ | exact zcmp_r _ _ | (unfold zr at *; omega)) dX10_owners_11 (by decide) (fun h11 => ?_) (fun h11 => ?_)
      · refine zx_iloadN dX10_owners_32 rfl rfl ?_
        refine zx_iret rfl rfl dX10_owners_33 ?_
        rw [hQ]
        refine ⟨congrArg (fun z : Int => (Sum.inl (some (zi z)) : Option zV ⊕ String)) ?_, by first | rfl | (exfalso; omega)⟩
        rw [hacc]; congr 1; omega
      · refine zx_iloadN dX10_owners_14 rfl rfl ?_
        refine zx_aloadN dX10_owners_15 rfl rfl ?_
        refine zx_iloadN dX10_owners_16 rfl rfl ?_
        refine zx_iloadN dX10_owners_17 rfl rfl ?_
        refine zy_cv [zi ((p : Nat) : Int), zi y] (sX10_ownsDevice (D := D) (p := p) hfl hz (by first | assumption | omega) (by first | assumption | (refine Rel_put (by decide) ?_; assumption) | (refine Rel_put (by decide) (Rel_put (by decide) ?_); assumption) | (refine Rel_put (by decide) (Rel_put (by decide) (Rel_put (by decide) ?_)); assumption)) (by first | assumption | omega) (by first | exact hz _ _ | assumption | exact zr_b _ | exact zcmp_r _ _ | (unfold zr at *; omega))) dX10_owners_18 (by decide) rfl cw_RX10_90 okX10_ownsDevice rfl (Nat.le_of_ble_eq_true rfl) ⟨Nat.le_of_ble_eq_true rfl, Nat.le_of_ble_eq_true rfl, Nat.le_of_ble_eq_true rfl, Nat.le_of_ble_eq_true rfl⟩ ?_
        refine zy_cs [zi (zb (hasDev D p y))] (sX10_truth (A := (hasDev D p y)) hfl hz ) dX10_owners_21 cw_RX10_94 okX10_truth rfl (Nat.le_of_ble_eq_true rfl) ⟨Nat.le_of_ble_eq_true rfl, Nat.le_of_ble_eq_true rfl, Nat.le_of_ble_eq_true rfl, Nat.le_of_ble_eq_true rfl⟩ ?_
        refine zx_iadd dX10_owners_24 ?_
        refine zy_istoreN [zf 10 261, zi y, zi (acc + (zb (hasDev D p y))), zi ((p : Nat) : Int)] dX10_owners_25 rfl (Nat.le_of_ble_eq_true rfl) (Nat.le_of_ble_eq_true rfl) rfl rfl ?_
        refine zy_iinc (b := ((p + 1 : Nat) : Int)) [zf 10 261, zi y, zi (acc + (zb (hasDev D p y))), zi ((p + 1 : Nat) : Int)] dX10_owners_26 rfl (by omega) (Nat.le_of_ble_eq_true rfl) rfl rfl ?_
        refine zx_goto (tgt := 4) dX10_owners_29 (by decide) ?_
        exact ih4 (p + 1) (acc + (zb (hasDev D p y))) (by first | assumption | omega) (by subst hacc; exact (zs_s _ _).symm) (by omega)
  exact L4 _ 0 0 (by first | assumption | omega) rfl (Nat.lt_succ_self _)
set_option maxRecDepth 20000 in
set_option maxHeartbeats 2000000 in
theorem sX10_suits {l : Launch} {w : zW} (hfl : l.stackTraces = false) {σ : zS} {D : zBk} {c p : Nat} (hz : zOK σ) (hW : WF D) (hR : Rel D (σ.1 262)) (hc : (c : Int) < D 12 0) (hp : (p : Int) < D 1 0) : Sp l w mX10_suits 3 0 [zf 10 261, zi ((c : Nat) : Int), zi ((p : Nat) : Int)] σ (zret (zi (zb (pFit D p c))) σ) := by
  obtain ⟨Q, hQ⟩ : ∃ Q : zQ, Q = (zret (zi (zb (pFit D p c))) σ) := ⟨_, rfl⟩
  rw [← hQ]
  refine zx_enter hfl (by decide) rfl 1 rfl ?_
  show zX l w mX10_suits (zMQ w 3 0 Q) 0 [zf 10 261, zi ((c : Nat) : Int), zi ((p : Nat) : Int), zu] [] 0 σ
  have hP : 0 ≤ D 1 0 ∧ D 1 0 ≤ 8 := hW.1.1
  have hM : 0 ≤ D 1 7 ∧ D 1 7 ≤ 8 := hW.1.2.1
  have hE : 0 ≤ D 1 10 ∧ D 1 10 ≤ 12 := hW.1.2.2.1
  have hK : 0 ≤ D 12 0 ∧ D 12 0 ≤ 40 := hW.1.2.2.2
  have r0 : σ.1 262 0 = D 1 0 := hR.1.1
  have r1 : σ.1 262 1 = D 1 7 := hR.1.2.1
  have r2 : σ.1 262 2 = D 1 10 := hR.1.2.2.1
  have r3 : σ.1 262 3 = D 12 0 := hR.1.2.2.2
  have hcl := hW.2.2.2.2.1 c hc
  have hkd := hcl.2.1
  unfold WFk at hkd
  have hpc := (hW.2.1 p hp).1
  refine zx_aloadN dX10_suits_0 rfl rfl ?_
  refine zx_iloadN dX10_suits_1 rfl rfl ?_
  refine zx_iconst dX10_suits_2 ?_
  refine zy_cv [zi ((c : Nat) : Int), zi 2] (sX10_of (D := D) (c := c) (o := 2) hfl hz (by first | assumption | omega) (by first | assumption | (refine Rel_put (by decide) ?_; assumption) | (refine Rel_put (by decide) (Rel_put (by decide) ?_); assumption) | (refine Rel_put (by decide) (Rel_put (by decide) (Rel_put (by decide) ?_)); assumption)) (by first | assumption | omega) (by first | assumption | omega)) dX10_suits_3 (by decide) rfl cw_RX10_102 okX10_of rfl (Nat.le_of_ble_eq_true rfl) ⟨Nat.le_of_ble_eq_true rfl, Nat.le_of_ble_eq_true rfl, Nat.le_of_ble_eq_true rfl, Nat.le_of_ble_eq_true rfl⟩ ?_
  refine zy_top (b := D 15 c) rfl ?_
  have hz15 : zr (D 15 c) := by unfold zr; omega
  refine zy_istoreN [zf 10 261, zi ((c : Nat) : Int), zi ((p : Nat) : Int), zi (D 15 c)] dX10_suits_6 rfl (Nat.le_of_ble_eq_true rfl) (Nat.le_of_ble_eq_true rfl) rfl rfl ?_
  refine zx_aloadN dX10_suits_7 rfl rfl ?_
  refine zx_iloadN dX10_suits_8 rfl rfl ?_
  refine zx_iconst dX10_suits_9 ?_
  refine zy_cv [zi ((c : Nat) : Int), zi 1] (sX10_of (D := D) (c := c) (o := 1) hfl hz (by first | assumption | omega) (by first | assumption | (refine Rel_put (by decide) ?_; assumption) | (refine Rel_put (by decide) (Rel_put (by decide) ?_); assumption) | (refine Rel_put (by decide) (Rel_put (by decide) (Rel_put (by decide) ?_)); assumption)) (by first | assumption | omega) (by first | assumption | omega)) dX10_suits_10 (by decide) rfl cw_RX10_102 okX10_of rfl (Nat.le_of_ble_eq_true rfl) ⟨Nat.le_of_ble_eq_true rfl, Nat.le_of_ble_eq_true rfl, Nat.le_of_ble_eq_true rfl, Nat.le_of_ble_eq_true rfl⟩ ?_
  refine zy_top (b := D 14 c) rfl ?_
  rcases (by omega : (D 14 c) = 0 ∨ (D 14 c) = 1 ∨ (D 14 c) = 2 ∨ (D 14 c) = 3 ∨ (D 14 c < 0 ∨ 3 < D 14 c)) with h13 | h13 | h13 | h13 | h13
  · refine zx_tableIn (off := 31) (tgt := 44) (by first | exact hz _ _ | assumption | exact zr_b _ | exact zcmp_r _ _ | (unfold zr at *; omega)) dX10_suits_13 (by omega) (by omega) (by rw [h13]; rfl) (by decide) ?_
    refine zx_aloadN dX10_suits_44 rfl rfl ?_
    refine zx_iloadN dX10_suits_45 rfl rfl ?_
    refine zx_iloadN dX10_suits_46 rfl rfl ?_
    refine zy_cv [zi ((p : Nat) : Int), zi (D 15 c)] (sX10_ownsDevice (D := D) (p := p) hfl hz (by first | assumption | omega) (by first | assumption | (refine Rel_put (by decide) ?_; assumption) | (refine Rel_put (by decide) (Rel_put (by decide) ?_); assumption) | (refine Rel_put (by decide) (Rel_put (by decide) (Rel_put (by decide) ?_)); assumption)) (by first | assumption | omega) (by first | exact hz _ _ | assumption | exact zr_b _ | exact zcmp_r _ _ | (unfold zr at *; omega))) dX10_suits_47 (by decide) rfl cw_RX10_90 okX10_ownsDevice rfl (Nat.le_of_ble_eq_true rfl) ⟨Nat.le_of_ble_eq_true rfl, Nat.le_of_ble_eq_true rfl, Nat.le_of_ble_eq_true rfl, Nat.le_of_ble_eq_true rfl⟩ ?_
    refine zx_iret rfl (zb_nar _) dX10_suits_50 ?_
    rw [hQ]
    refine ⟨congrArg (fun z : Int => (Sum.inl (some (zi z)) : Option zV ⊕ String)) ?_, by first | rfl | (exfalso; omega)⟩
    unfold pFit
    first
    | exact zb_c ⟨fun q => ⟨fun _ => q, fun h => absurd h (by omega), fun h => absurd h (by omega)⟩, fun q => q.1 (by omega)⟩
    | exact zb_c ⟨fun q => ⟨fun h => absurd h (by omega), fun _ => q, fun h => absurd h (by omega)⟩, fun q => q.2.1 (by omega)⟩
    | exact (zb_t ⟨fun h => absurd h (by omega), fun h => absurd h (by omega), fun h => by omega⟩).symm
    | exact (zb_f (fun q => by have := q.2.2 (by omega); omega)).symm
  · refine zx_tableIn (off := 38) (tgt := 51) (by first | exact hz _ _ | assumption | exact zr_b _ | exact zcmp_r _ _ | (unfold zr at *; omega)) dX10_suits_13 (by omega) (by omega) (by rw [h13]; rfl) (by decide) ?_
    refine zx_aloadN dX10_suits_51 rfl rfl ?_
    refine zx_iloadN dX10_suits_52 rfl rfl ?_
    refine zx_iloadN dX10_suits_53 rfl rfl ?_
    refine zy_cv [zi ((p : Nat) : Int), zi (D 15 c)] (sX10_ownsType (D := D) (p := p) hfl hz (by first | assumption | omega) (by first | assumption | (refine Rel_put (by decide) ?_; assumption) | (refine Rel_put (by decide) (Rel_put (by decide) ?_); assumption) | (refine Rel_put (by decide) (Rel_put (by decide) (Rel_put (by decide) ?_)); assumption)) (by first | assumption | omega) (by first | exact hz _ _ | assumption | exact zr_b _ | exact zcmp_r _ _ | (unfold zr at *; omega))) dX10_suits_54 (by decide) rfl cw_RX10_105 okX10_ownsType rfl (Nat.le_of_ble_eq_true rfl) ⟨Nat.le_of_ble_eq_true rfl, Nat.le_of_ble_eq_true rfl, Nat.le_of_ble_eq_true rfl, Nat.le_of_ble_eq_true rfl⟩ ?_
    refine zx_iret rfl (zb_nar _) dX10_suits_57 ?_
    rw [hQ]
    refine ⟨congrArg (fun z : Int => (Sum.inl (some (zi z)) : Option zV ⊕ String)) ?_, by first | rfl | (exfalso; omega)⟩
    unfold pFit
    first
    | exact zb_c ⟨fun q => ⟨fun _ => q, fun h => absurd h (by omega), fun h => absurd h (by omega)⟩, fun q => q.1 (by omega)⟩
    | exact zb_c ⟨fun q => ⟨fun h => absurd h (by omega), fun _ => q, fun h => absurd h (by omega)⟩, fun q => q.2.1 (by omega)⟩
    | exact (zb_t ⟨fun h => absurd h (by omega), fun h => absurd h (by omega), fun h => by omega⟩).symm
    | exact (zb_f (fun q => by have := q.2.2 (by omega); omega)).symm
  · refine zx_tableIn (off := 62) (tgt := 75) (by first | exact hz _ _ | assumption | exact zr_b _ | exact zcmp_r _ _ | (unfold zr at *; omega)) dX10_suits_13 (by omega) (by omega) (by rw [h13]; rfl) (by decide) ?_
    refine zx_iconst dX10_suits_75 ?_
    refine zx_iret rfl rfl dX10_suits_76 ?_
    rw [hQ]
    refine ⟨congrArg (fun z : Int => (Sum.inl (some (zi z)) : Option zV ⊕ String)) ?_, by first | rfl | (exfalso; omega)⟩
    unfold pFit
    first
    | exact zb_c ⟨fun q => ⟨fun _ => q, fun h => absurd h (by omega), fun h => absurd h (by omega)⟩, fun q => q.1 (by omega)⟩
    | exact zb_c ⟨fun q => ⟨fun h => absurd h (by omega), fun _ => q, fun h => absurd h (by omega)⟩, fun q => q.2.1 (by omega)⟩
    | exact (zb_t ⟨fun h => absurd h (by omega), fun h => absurd h (by omega), fun h => by omega⟩).symm
    | exact (zb_f (fun q => by have := q.2.2 (by omega); omega)).symm
  · refine zx_tableIn (off := 45) (tgt := 58) (by first | exact hz _ _ | assumption | exact zr_b _ | exact zcmp_r _ _ | (unfold zr at *; omega)) dX10_suits_13 (by omega) (by omega) (by rw [h13]; rfl) (by decide) ?_
    refine zx_aloadN dX10_suits_58 rfl rfl ?_
    refine zx_iloadN dX10_suits_59 rfl rfl ?_
    refine zx_bipush dX10_suits_60 rfl ?_
    refine zy_cv [zi ((p : Nat) : Int), zi 7] (sX10_ofPrinter (D := D) (p := p) (o := 7) hfl hz (by first | assumption | omega) (by first | assumption | (refine Rel_put (by decide) ?_; assumption) | (refine Rel_put (by decide) (Rel_put (by decide) ?_); assumption) | (refine Rel_put (by decide) (Rel_put (by decide) (Rel_put (by decide) ?_)); assumption)) (by first | assumption | omega) (by first | assumption | omega)) dX10_suits_62 (by decide) rfl cw_RX10_82 okX10_ofPrinter rfl (Nat.le_of_ble_eq_true rfl) ⟨Nat.le_of_ble_eq_true rfl, Nat.le_of_ble_eq_true rfl, Nat.le_of_ble_eq_true rfl, Nat.le_of_ble_eq_true rfl⟩ ?_
    refine zy_top (b := D 3 p) rfl ?_
    refine zx_iloadN dX10_suits_65 rfl rfl ?_
    refine zx_icmp_ne (tgt := 73) (by first | exact hz _ _ | assumption | exact zr_b _ | exact zcmp_r _ _ | (unfold zr at *; omega)) (by first | exact hz _ _ | assumption | exact zr_b _ | exact zcmp_r _ _ | (unfold zr at *; omega)) dX10_suits_66 (by decide) (fun h66 => ?_) (fun h66 => ?_)
    · refine zx_iconst dX10_suits_73 ?_
      refine zx_iret rfl rfl dX10_suits_74 ?_
      rw [hQ]
      refine ⟨congrArg (fun z : Int => (Sum.inl (some (zi z)) : Option zV ⊕ String)) ?_, by first | rfl | (exfalso; omega)⟩
      unfold pFit
      first
      | exact zb_c ⟨fun q => ⟨fun _ => q, fun h => absurd h (by omega), fun h => absurd h (by omega)⟩, fun q => q.1 (by omega)⟩
      | exact zb_c ⟨fun q => ⟨fun h => absurd h (by omega), fun _ => q, fun h => absurd h (by omega)⟩, fun q => q.2.1 (by omega)⟩
      | exact (zb_t ⟨fun h => absurd h (by omega), fun h => absurd h (by omega), fun h => by omega⟩).symm
      | exact (zb_f (fun q => by have := q.2.2 (by omega); omega)).symm
    · refine zx_iconst dX10_suits_69 ?_
      refine zx_goto (tgt := 74) dX10_suits_70 (by decide) ?_
      refine zx_iret rfl rfl dX10_suits_74 ?_
      rw [hQ]
      refine ⟨congrArg (fun z : Int => (Sum.inl (some (zi z)) : Option zV ⊕ String)) ?_, by first | rfl | (exfalso; omega)⟩
      unfold pFit
      first
      | exact zb_c ⟨fun q => ⟨fun _ => q, fun h => absurd h (by omega), fun h => absurd h (by omega)⟩, fun q => q.1 (by omega)⟩
      | exact zb_c ⟨fun q => ⟨fun h => absurd h (by omega), fun _ => q, fun h => absurd h (by omega)⟩, fun q => q.2.1 (by omega)⟩
      | exact (zb_t ⟨fun h => absurd h (by omega), fun h => absurd h (by omega), fun h => by omega⟩).symm
      | exact (zb_f (fun q => by have := q.2.2 (by omega); omega)).symm
  · refine zx_tableOut (tgt := 75) (by first | exact hz _ _ | assumption | exact zr_b _ | exact zcmp_r _ _ | (unfold zr at *; omega)) dX10_suits_13 (by omega) (by decide) ?_
    refine zx_iconst dX10_suits_75 ?_
    refine zx_iret rfl rfl dX10_suits_76 ?_
    rw [hQ]
    refine ⟨congrArg (fun z : Int => (Sum.inl (some (zi z)) : Option zV ⊕ String)) ?_, by first | rfl | (exfalso; omega)⟩
    unfold pFit
    first
    | exact zb_c ⟨fun q => ⟨fun _ => q, fun h => absurd h (by omega), fun h => absurd h (by omega)⟩, fun q => q.1 (by omega)⟩
    | exact zb_c ⟨fun q => ⟨fun h => absurd h (by omega), fun _ => q, fun h => absurd h (by omega)⟩, fun q => q.2.1 (by omega)⟩
    | exact (zb_t ⟨fun h => absurd h (by omega), fun h => absurd h (by omega), fun h => by omega⟩).symm
    | exact (zb_f (fun q => by have := q.2.2 (by omega); omega)).symm
set_option maxRecDepth 20000 in
set_option maxHeartbeats 2000000 in
theorem sX10_earliest {l : Launch} {w : zW} (hfl : l.stackTraces = false) {σ : zS} {D : zBk} {c : Nat} (hz : zOK σ) (hW : WF D) (hR : Rel D (σ.1 262)) (hc : (c : Int) < D 12 0) : Sp l w mX10_earliest 1 0 [zf 10 261, zi ((c : Nat) : Int)] σ (zret (zi (eYr D c)) σ) := by
  obtain ⟨Q, hQ⟩ : ∃ Q : zQ, Q = (zret (zi (eYr D c)) σ) := ⟨_, rfl⟩
  rw [← hQ]
  refine zx_enter hfl (by decide) rfl 1 rfl ?_
  show zX l w mX10_earliest (zMQ w 1 0 Q) 0 [zf 10 261, zi ((c : Nat) : Int), zu] [] 0 σ
  have hP : 0 ≤ D 1 0 ∧ D 1 0 ≤ 8 := hW.1.1
  have hM : 0 ≤ D 1 7 ∧ D 1 7 ≤ 8 := hW.1.2.1
  have hE : 0 ≤ D 1 10 ∧ D 1 10 ≤ 12 := hW.1.2.2.1
  have hK : 0 ≤ D 12 0 ∧ D 12 0 ≤ 40 := hW.1.2.2.2
  have r0 : σ.1 262 0 = D 1 0 := hR.1.1
  have r1 : σ.1 262 1 = D 1 7 := hR.1.2.1
  have r2 : σ.1 262 2 = D 1 10 := hR.1.2.2.1
  have r3 : σ.1 262 3 = D 12 0 := hR.1.2.2.2
  have hcl := hW.2.2.2.2.1 c hc
  have hkd := hcl.2.1
  unfold WFk at hkd
  have hmk : D 14 c = 2 → σ.1 262 (100 + 2 * (D 15 c).toNat) = D 8 (D 15 c).toNat ∧ σ.1 262 (100 + 2 * (D 15 c).toNat + 1) = D 9 (D 15 c).toNat ∧ (1450 ≤ D 8 (D 15 c).toNat ∧ D 9 (D 15 c).toNat ≤ 1999 ∧ D 8 (D 15 c).toNat ≤ D 9 (D 15 c).toNat) := fun q => by
    have h1 := hR.2.2.1 (D 15 c).toNat (by omega)
    have h2 := hW.2.2.1 (D 15 c).toNat (by omega)
    exact ⟨h1.1, h1.2, by omega⟩
  refine zx_aloadN dX10_earliest_0 rfl rfl ?_
  refine zx_iloadN dX10_earliest_1 rfl rfl ?_
  refine zx_iconst dX10_earliest_2 ?_
  refine zy_cv [zi ((c : Nat) : Int), zi 2] (sX10_of (D := D) (c := c) (o := 2) hfl hz (by first | assumption | omega) (by first | assumption | (refine Rel_put (by decide) ?_; assumption) | (refine Rel_put (by decide) (Rel_put (by decide) ?_); assumption) | (refine Rel_put (by decide) (Rel_put (by decide) (Rel_put (by decide) ?_)); assumption)) (by first | assumption | omega) (by first | assumption | omega)) dX10_earliest_3 (by decide) rfl cw_RX10_102 okX10_of rfl (Nat.le_of_ble_eq_true rfl) ⟨Nat.le_of_ble_eq_true rfl, Nat.le_of_ble_eq_true rfl, Nat.le_of_ble_eq_true rfl, Nat.le_of_ble_eq_true rfl⟩ ?_
  refine zy_top (b := D 15 c) rfl ?_
  have hz15 : zr (D 15 c) := by unfold zr; omega
  refine zy_istoreN [zf 10 261, zi ((c : Nat) : Int), zi (D 15 c)] dX10_earliest_6 rfl (Nat.le_of_ble_eq_true rfl) (Nat.le_of_ble_eq_true rfl) rfl rfl ?_
  refine zx_aloadN dX10_earliest_7 rfl rfl ?_
  refine zx_iloadN dX10_earliest_8 rfl rfl ?_
  refine zx_iconst dX10_earliest_9 ?_
  refine zy_cv [zi ((c : Nat) : Int), zi 1] (sX10_of (D := D) (c := c) (o := 1) hfl hz (by first | assumption | omega) (by first | assumption | (refine Rel_put (by decide) ?_; assumption) | (refine Rel_put (by decide) (Rel_put (by decide) ?_); assumption) | (refine Rel_put (by decide) (Rel_put (by decide) (Rel_put (by decide) ?_)); assumption)) (by first | assumption | omega) (by first | assumption | omega)) dX10_earliest_10 (by decide) rfl cw_RX10_102 okX10_of rfl (Nat.le_of_ble_eq_true rfl) ⟨Nat.le_of_ble_eq_true rfl, Nat.le_of_ble_eq_true rfl, Nat.le_of_ble_eq_true rfl, Nat.le_of_ble_eq_true rfl⟩ ?_
  refine zy_top (b := D 14 c) rfl ?_
  rcases (by omega : (D 14 c) = 2 ∨ (D 14 c) = 4 ∨ (¬ (D 14 c) = 2 ∧ ¬ (D 14 c) = 4)) with h13 | h13 | h13
  · refine zx_lookup (off := 27) (tgt := 40) (by first | exact hz _ _ | assumption | exact zr_b _ | exact zcmp_r _ _ | (unfold zr at *; omega)) dX10_earliest_13 rfl (by rw [h13]; rfl) (by decide) ?_
    refine zx_aloadN dX10_earliest_40 rfl rfl ?_
    refine zy_getR (q' := 262) fl_RX10_7 rfl dX10_earliest_41 rfl ?_
    refine zx_bipush dX10_earliest_44 rfl ?_
    refine zx_iconst dX10_earliest_46 ?_
    refine zx_iloadN dX10_earliest_47 rfl rfl ?_
    refine zx_imul dX10_earliest_48 ?_
    refine zx_iadd dX10_earliest_49 ?_
    refine zy_top (b := ((100 + 2 * (D 15 c).toNat : Nat) : Int)) (by omega) ?_
    refine zy_iald (v := σ.1 262 (100 + 2 * (D 15 c).toNat)) rfl (by decide) (by decide) dX10_earliest_50 (by omega) (by omega) rfl ?_
    refine zx_iret rfl rfl dX10_earliest_51 ?_
    rw [hQ]
    refine ⟨congrArg (fun z : Int => (Sum.inl (some (zi z)) : Option zV ⊕ String)) ?_, by first | rfl | (exfalso; omega)⟩
    unfold eYr
    first | (rw [if_neg (by omega), if_pos (by omega)]; omega) | (rw [if_pos (by omega)]) | (rw [if_neg (by omega), if_neg (by omega)])
  · refine zx_lookup (off := 39) (tgt := 52) (by first | exact hz _ _ | assumption | exact zr_b _ | exact zcmp_r _ _ | (unfold zr at *; omega)) dX10_earliest_13 rfl (by rw [h13]; rfl) (by decide) ?_
    refine zx_iloadN dX10_earliest_52 rfl rfl ?_
    refine zx_iret rfl rfl dX10_earliest_53 ?_
    rw [hQ]
    refine ⟨congrArg (fun z : Int => (Sum.inl (some (zi z)) : Option zV ⊕ String)) ?_, by first | rfl | (exfalso; omega)⟩
    unfold eYr
    first | (rw [if_neg (by omega), if_pos (by omega)]; omega) | (rw [if_pos (by omega)]) | (rw [if_neg (by omega), if_neg (by omega)])
  · refine zx_lookup (off := 41) (tgt := 54) (by first | exact hz _ _ | assumption | exact zr_b _ | exact zcmp_r _ _ | (unfold zr at *; omega)) dX10_earliest_13 rfl (by show (if (2 : Int) = (D 14 c) then (27 : Int) else if (4 : Int) = (D 14 c) then (39 : Int) else 41) = (41 : Int); rw [if_neg (by omega), if_neg (by omega)]) (by decide) ?_
    refine zx_sipush dX10_earliest_54 rfl ?_
    refine zx_iret rfl rfl dX10_earliest_57 ?_
    rw [hQ]
    refine ⟨congrArg (fun z : Int => (Sum.inl (some (zi z)) : Option zV ⊕ String)) ?_, by first | rfl | (exfalso; omega)⟩
    unfold eYr
    first | (rw [if_neg (by omega), if_pos (by omega)]; omega) | (rw [if_pos (by omega)]) | (rw [if_neg (by omega), if_neg (by omega)])
set_option maxRecDepth 20000 in
set_option maxHeartbeats 2000000 in
theorem sX10_latest {l : Launch} {w : zW} (hfl : l.stackTraces = false) {σ : zS} {D : zBk} {c : Nat} (hz : zOK σ) (hW : WF D) (hR : Rel D (σ.1 262)) (hc : (c : Int) < D 12 0) : Sp l w mX10_latest 1 0 [zf 10 261, zi ((c : Nat) : Int)] σ (zret (zi (lYr D c)) σ) := by
  obtain ⟨Q, hQ⟩ : ∃ Q : zQ, Q = (zret (zi (lYr D c)) σ) := ⟨_, rfl⟩
  rw [← hQ]
  refine zx_enter hfl (by decide) rfl 1 rfl ?_
  show zX l w mX10_latest (zMQ w 1 0 Q) 0 [zf 10 261, zi ((c : Nat) : Int), zu] [] 0 σ
  have hP : 0 ≤ D 1 0 ∧ D 1 0 ≤ 8 := hW.1.1
  have hM : 0 ≤ D 1 7 ∧ D 1 7 ≤ 8 := hW.1.2.1
  have hE : 0 ≤ D 1 10 ∧ D 1 10 ≤ 12 := hW.1.2.2.1
  have hK : 0 ≤ D 12 0 ∧ D 12 0 ≤ 40 := hW.1.2.2.2
  have r0 : σ.1 262 0 = D 1 0 := hR.1.1
  have r1 : σ.1 262 1 = D 1 7 := hR.1.2.1
  have r2 : σ.1 262 2 = D 1 10 := hR.1.2.2.1
  have r3 : σ.1 262 3 = D 12 0 := hR.1.2.2.2
  have hcl := hW.2.2.2.2.1 c hc
  have hkd := hcl.2.1
  unfold WFk at hkd
  have hmk : D 14 c = 2 → σ.1 262 (100 + 2 * (D 15 c).toNat) = D 8 (D 15 c).toNat ∧ σ.1 262 (100 + 2 * (D 15 c).toNat + 1) = D 9 (D 15 c).toNat ∧ (1450 ≤ D 8 (D 15 c).toNat ∧ D 9 (D 15 c).toNat ≤ 1999 ∧ D 8 (D 15 c).toNat ≤ D 9 (D 15 c).toNat) := fun q => by
    have h1 := hR.2.2.1 (D 15 c).toNat (by omega)
    have h2 := hW.2.2.1 (D 15 c).toNat (by omega)
    exact ⟨h1.1, h1.2, by omega⟩
  refine zx_aloadN dX10_latest_0 rfl rfl ?_
  refine zx_iloadN dX10_latest_1 rfl rfl ?_
  refine zx_iconst dX10_latest_2 ?_
  refine zy_cv [zi ((c : Nat) : Int), zi 2] (sX10_of (D := D) (c := c) (o := 2) hfl hz (by first | assumption | omega) (by first | assumption | (refine Rel_put (by decide) ?_; assumption) | (refine Rel_put (by decide) (Rel_put (by decide) ?_); assumption) | (refine Rel_put (by decide) (Rel_put (by decide) (Rel_put (by decide) ?_)); assumption)) (by first | assumption | omega) (by first | assumption | omega)) dX10_latest_3 (by decide) rfl cw_RX10_102 okX10_of rfl (Nat.le_of_ble_eq_true rfl) ⟨Nat.le_of_ble_eq_true rfl, Nat.le_of_ble_eq_true rfl, Nat.le_of_ble_eq_true rfl, Nat.le_of_ble_eq_true rfl⟩ ?_
  refine zy_top (b := D 15 c) rfl ?_
  have hz15 : zr (D 15 c) := by unfold zr; omega
  refine zy_istoreN [zf 10 261, zi ((c : Nat) : Int), zi (D 15 c)] dX10_latest_6 rfl (Nat.le_of_ble_eq_true rfl) (Nat.le_of_ble_eq_true rfl) rfl rfl ?_
  refine zx_aloadN dX10_latest_7 rfl rfl ?_
  refine zx_iloadN dX10_latest_8 rfl rfl ?_
  refine zx_iconst dX10_latest_9 ?_
  refine zy_cv [zi ((c : Nat) : Int), zi 1] (sX10_of (D := D) (c := c) (o := 1) hfl hz (by first | assumption | omega) (by first | assumption | (refine Rel_put (by decide) ?_; assumption) | (refine Rel_put (by decide) (Rel_put (by decide) ?_); assumption) | (refine Rel_put (by decide) (Rel_put (by decide) (Rel_put (by decide) ?_)); assumption)) (by first | assumption | omega) (by first | assumption | omega)) dX10_latest_10 (by decide) rfl cw_RX10_102 okX10_of rfl (Nat.le_of_ble_eq_true rfl) ⟨Nat.le_of_ble_eq_true rfl, Nat.le_of_ble_eq_true rfl, Nat.le_of_ble_eq_true rfl, Nat.le_of_ble_eq_true rfl⟩ ?_
  refine zy_top (b := D 14 c) rfl ?_
  rcases (by omega : (D 14 c) = 2 ∨ (D 14 c) = 4 ∨ (¬ (D 14 c) = 2 ∧ ¬ (D 14 c) = 4)) with h13 | h13 | h13
  · refine zx_lookup (off := 27) (tgt := 40) (by first | exact hz _ _ | assumption | exact zr_b _ | exact zcmp_r _ _ | (unfold zr at *; omega)) dX10_latest_13 rfl (by rw [h13]; rfl) (by decide) ?_
    refine zx_aloadN dX10_latest_40 rfl rfl ?_
    refine zy_getR (q' := 262) fl_RX10_7 rfl dX10_latest_41 rfl ?_
    refine zx_bipush dX10_latest_44 rfl ?_
    refine zx_iconst dX10_latest_46 ?_
    refine zx_iloadN dX10_latest_47 rfl rfl ?_
    refine zx_imul dX10_latest_48 ?_
    refine zx_iadd dX10_latest_49 ?_
    refine zx_iconst dX10_latest_50 ?_
    refine zx_iadd dX10_latest_51 ?_
    refine zy_top (b := ((100 + 2 * (D 15 c).toNat + 1 : Nat) : Int)) (by omega) ?_
    refine zy_iald (v := σ.1 262 (100 + 2 * (D 15 c).toNat + 1)) rfl (by decide) (by decide) dX10_latest_52 (by omega) (by omega) rfl ?_
    refine zx_iconst dX10_latest_53 ?_
    refine zx_iadd dX10_latest_54 ?_
    refine zx_iret rfl rfl dX10_latest_55 ?_
    rw [hQ]
    refine ⟨congrArg (fun z : Int => (Sum.inl (some (zi z)) : Option zV ⊕ String)) ?_, by first | rfl | (exfalso; omega)⟩
    unfold lYr
    first | (rw [if_neg (by omega), if_pos (by omega)]; omega) | (rw [if_pos (by omega)]) | (rw [if_neg (by omega), if_neg (by omega)])
  · refine zx_lookup (off := 43) (tgt := 56) (by first | exact hz _ _ | assumption | exact zr_b _ | exact zcmp_r _ _ | (unfold zr at *; omega)) dX10_latest_13 rfl (by rw [h13]; rfl) (by decide) ?_
    refine zx_iloadN dX10_latest_56 rfl rfl ?_
    refine zx_iret rfl rfl dX10_latest_57 ?_
    rw [hQ]
    refine ⟨congrArg (fun z : Int => (Sum.inl (some (zi z)) : Option zV ⊕ String)) ?_, by first | rfl | (exfalso; omega)⟩
    unfold lYr
    first | (rw [if_neg (by omega), if_pos (by omega)]; omega) | (rw [if_pos (by omega)]) | (rw [if_neg (by omega), if_neg (by omega)])
  · refine zx_lookup (off := 45) (tgt := 58) (by first | exact hz _ _ | assumption | exact zr_b _ | exact zcmp_r _ _ | (unfold zr at *; omega)) dX10_latest_13 rfl (by show (if (2 : Int) = (D 14 c) then (27 : Int) else if (4 : Int) = (D 14 c) then (43 : Int) else 45) = (45 : Int); rw [if_neg (by omega), if_neg (by omega)]) (by decide) ?_
    refine zx_sipush dX10_latest_58 rfl ?_
    refine zx_iret rfl rfl dX10_latest_61 ?_
    rw [hQ]
    refine ⟨congrArg (fun z : Int => (Sum.inl (some (zi z)) : Option zV ⊕ String)) ?_, by first | rfl | (exfalso; omega)⟩
    unfold lYr
    first | (rw [if_neg (by omega), if_pos (by omega)]; omega) | (rw [if_pos (by omega)]) | (rw [if_neg (by omega), if_neg (by omega)])
set_option maxRecDepth 20000 in
set_option maxHeartbeats 2000000 in
theorem sX10_isExplained {l : Launch} {w : zW} (hfl : l.stackTraces = false) {σ : zS} {D : zBk} {c p : Nat} {y : Int} (hz : zOK σ) (hW : WF D) (hR : Rel D (σ.1 262)) (hc : (c : Int) < D 12 0) (hp : (p : Int) < D 1 0) (hy : zr y) : Sp l w mX10_isExplained 4 0 [zf 10 261, zi ((c : Nat) : Int), zi ((p : Nat) : Int), zi y] σ (zret (zi (zb (works D p y ∧ cFit D p y c))) σ) := by
  obtain ⟨Q, hQ⟩ : ∃ Q : zQ, Q = (zret (zi (zb (works D p y ∧ cFit D p y c))) σ) := ⟨_, rfl⟩
  rw [← hQ]
  refine zx_enter hfl (by decide) rfl 0 rfl ?_
  show zX l w mX10_isExplained (zMQ w 4 0 Q) 0 [zf 10 261, zi ((c : Nat) : Int), zi ((p : Nat) : Int), zi y] [] 0 σ
  have hP : 0 ≤ D 1 0 ∧ D 1 0 ≤ 8 := hW.1.1
  have hM : 0 ≤ D 1 7 ∧ D 1 7 ≤ 8 := hW.1.2.1
  have hE : 0 ≤ D 1 10 ∧ D 1 10 ≤ 12 := hW.1.2.2.1
  have hK : 0 ≤ D 12 0 ∧ D 12 0 ≤ 40 := hW.1.2.2.2
  have r0 : σ.1 262 0 = D 1 0 := hR.1.1
  have r1 : σ.1 262 1 = D 1 7 := hR.1.2.1
  have r2 : σ.1 262 2 = D 1 10 := hR.1.2.2.1
  have r3 : σ.1 262 3 = D 12 0 := hR.1.2.2.2
  have hYc := WF_y hW hc
  have hze : zr (eYr D c) := by unfold zr; omega
  have hzl : zr (lYr D c) := by unfold zr; omega
  refine zx_aloadN dX10_isExplained_0 rfl rfl ?_
  refine zx_iloadN dX10_isExplained_1 rfl rfl ?_
  refine zx_iloadN dX10_isExplained_2 rfl rfl ?_
  refine zy_cv [zi ((p : Nat) : Int), zi y] (sX10_isWorking (D := D) (p := p) hfl hz (by first | assumption | omega) (by first | assumption | (refine Rel_put (by decide) ?_; assumption) | (refine Rel_put (by decide) (Rel_put (by decide) ?_); assumption) | (refine Rel_put (by decide) (Rel_put (by decide) (Rel_put (by decide) ?_)); assumption)) (by first | assumption | omega) (by first | exact hz _ _ | assumption | exact zr_b _ | exact zcmp_r _ _ | (unfold zr at *; omega))) dX10_isExplained_3 (by decide) rfl cw_RX10_108 okX10_isWorking rfl (Nat.le_of_ble_eq_true rfl) ⟨Nat.le_of_ble_eq_true rfl, Nat.le_of_ble_eq_true rfl, Nat.le_of_ble_eq_true rfl, Nat.le_of_ble_eq_true rfl⟩ ?_
  refine zx_if_eq (tgt := 42) (by first | exact hz _ _ | assumption | exact zr_b _ | exact zcmp_r _ _ | (unfold zr at *; omega)) dX10_isExplained_6 (by decide) (fun h6 => ?_) (fun h6 => ?_)
  · have h6 := zb_0.mp h6
    refine zx_iconst dX10_isExplained_42 ?_
    refine zx_iret rfl rfl dX10_isExplained_43 ?_
    rw [hQ]
    refine ⟨congrArg (fun z : Int => (Sum.inl (some (zi z)) : Option zV ⊕ String)) ?_, by first | rfl | (exfalso; omega)⟩
    first | exact (zb_t ⟨h6, h15, h35⟩).symm | exact (zb_f (fun q => h6 q.1)).symm | exact (zb_f (fun q => h15 q.2.1)).symm | exact (zb_f (fun q => h35 q.2.2)).symm
  · have h6 := zb_n.mp h6
    refine zx_aloadN dX10_isExplained_9 rfl rfl ?_
    refine zx_iloadN dX10_isExplained_10 rfl rfl ?_
    refine zx_iloadN dX10_isExplained_11 rfl rfl ?_
    refine zy_cv [zi ((c : Nat) : Int), zi ((p : Nat) : Int)] (sX10_suits (D := D) (c := c) (p := p) hfl hz (by first | assumption | omega) (by first | assumption | (refine Rel_put (by decide) ?_; assumption) | (refine Rel_put (by decide) (Rel_put (by decide) ?_); assumption) | (refine Rel_put (by decide) (Rel_put (by decide) (Rel_put (by decide) ?_)); assumption)) (by first | assumption | omega) (by first | assumption | omega)) dX10_isExplained_12 (by decide) rfl cw_RX10_111 okX10_suits rfl (Nat.le_of_ble_eq_true rfl) ⟨Nat.le_of_ble_eq_true rfl, Nat.le_of_ble_eq_true rfl, Nat.le_of_ble_eq_true rfl, Nat.le_of_ble_eq_true rfl⟩ ?_
    refine zx_if_eq (tgt := 42) (by first | exact hz _ _ | assumption | exact zr_b _ | exact zcmp_r _ _ | (unfold zr at *; omega)) dX10_isExplained_15 (by decide) (fun h15 => ?_) (fun h15 => ?_)
    · have h15 := zb_0.mp h15
      refine zx_iconst dX10_isExplained_42 ?_
      refine zx_iret rfl rfl dX10_isExplained_43 ?_
      rw [hQ]
      refine ⟨congrArg (fun z : Int => (Sum.inl (some (zi z)) : Option zV ⊕ String)) ?_, by first | rfl | (exfalso; omega)⟩
      first | exact (zb_t ⟨h6, h15, h35⟩).symm | exact (zb_f (fun q => h6 q.1)).symm | exact (zb_f (fun q => h15 q.2.1)).symm | exact (zb_f (fun q => h35 q.2.2)).symm
    · have h15 := zb_n.mp h15
      refine zx_iloadN dX10_isExplained_18 rfl rfl ?_
      refine zx_i2l (by first | exact hz _ _ | assumption | exact zr_b _ | exact zcmp_r _ _ | (unfold zr at *; omega)) dX10_isExplained_19 ?_
      refine zx_aloadN dX10_isExplained_20 rfl rfl ?_
      refine zx_iloadN dX10_isExplained_21 rfl rfl ?_
      refine zy_cv [zi ((c : Nat) : Int)] (sX10_earliest (D := D) (c := c) hfl hz (by first | assumption | omega) (by first | assumption | (refine Rel_put (by decide) ?_; assumption) | (refine Rel_put (by decide) (Rel_put (by decide) ?_); assumption) | (refine Rel_put (by decide) (Rel_put (by decide) (Rel_put (by decide) ?_)); assumption)) (by first | assumption | omega)) dX10_isExplained_22 (by decide) rfl cw_RX10_114 okX10_earliest rfl (Nat.le_of_ble_eq_true rfl) ⟨Nat.le_of_ble_eq_true rfl, Nat.le_of_ble_eq_true rfl, Nat.le_of_ble_eq_true rfl, Nat.le_of_ble_eq_true rfl⟩ ?_
      refine zx_i2l (by first | exact hz _ _ | assumption | exact zr_b _ | exact zcmp_r _ _ | (unfold zr at *; omega)) dX10_isExplained_25 ?_
      refine zx_aloadN dX10_isExplained_26 rfl rfl ?_
      refine zx_iloadN dX10_isExplained_27 rfl rfl ?_
      refine zy_cv [zi ((c : Nat) : Int)] (sX10_latest (D := D) (c := c) hfl hz (by first | assumption | omega) (by first | assumption | (refine Rel_put (by decide) ?_; assumption) | (refine Rel_put (by decide) (Rel_put (by decide) ?_); assumption) | (refine Rel_put (by decide) (Rel_put (by decide) (Rel_put (by decide) ?_)); assumption)) (by first | assumption | omega)) dX10_isExplained_28 (by decide) rfl cw_RX10_118 okX10_latest rfl (Nat.le_of_ble_eq_true rfl) ⟨Nat.le_of_ble_eq_true rfl, Nat.le_of_ble_eq_true rfl, Nat.le_of_ble_eq_true rfl, Nat.le_of_ble_eq_true rfl⟩ ?_
      refine zx_i2l (by first | exact hz _ _ | assumption | exact zr_b _ | exact zcmp_r _ _ | (unfold zr at *; omega)) dX10_isExplained_31 ?_
      refine zy_cs [zl y, zl (eYr D c), zl (lYr D c)] (sX10_in  hfl hz (by first | exact hz _ _ | assumption | exact zr_b _ | exact zcmp_r _ _ | (unfold zr at *; omega)) (by first | exact hz _ _ | assumption | exact zr_b _ | exact zcmp_r _ _ | (unfold zr at *; omega)) (by first | exact hz _ _ | assumption | exact zr_b _ | exact zcmp_r _ _ | (unfold zr at *; omega))) dX10_isExplained_32 cw_RX10_74 okX10_in rfl (Nat.le_of_ble_eq_true rfl) ⟨Nat.le_of_ble_eq_true rfl, Nat.le_of_ble_eq_true rfl, Nat.le_of_ble_eq_true rfl, Nat.le_of_ble_eq_true rfl⟩ ?_
      refine zx_if_eq (tgt := 42) (by first | exact hz _ _ | assumption | exact zr_b _ | exact zcmp_r _ _ | (unfold zr at *; omega)) dX10_isExplained_35 (by decide) (fun h35 => ?_) (fun h35 => ?_)
      · have h35 := zb_0.mp h35
        refine zx_iconst dX10_isExplained_42 ?_
        refine zx_iret rfl rfl dX10_isExplained_43 ?_
        rw [hQ]
        refine ⟨congrArg (fun z : Int => (Sum.inl (some (zi z)) : Option zV ⊕ String)) ?_, by first | rfl | (exfalso; omega)⟩
        first | exact (zb_t ⟨h6, h15, h35⟩).symm | exact (zb_f (fun q => h6 q.1)).symm | exact (zb_f (fun q => h15 q.2.1)).symm | exact (zb_f (fun q => h35 q.2.2)).symm
      · have h35 := zb_n.mp h35
        refine zx_iconst dX10_isExplained_38 ?_
        refine zx_goto (tgt := 43) dX10_isExplained_39 (by decide) ?_
        refine zx_iret rfl rfl dX10_isExplained_43 ?_
        rw [hQ]
        refine ⟨congrArg (fun z : Int => (Sum.inl (some (zi z)) : Option zV ⊕ String)) ?_, by first | rfl | (exfalso; omega)⟩
        first | exact (zb_t ⟨h6, h15, h35⟩).symm | exact (zb_f (fun q => h6 q.1)).symm | exact (zb_f (fun q => h15 q.2.1)).symm | exact (zb_f (fun q => h35 q.2.2)).symm
set_option maxRecDepth 20000 in
set_option maxHeartbeats 2000000 in
theorem sX10_isCounted {l : Launch} {w : zW} (hfl : l.stackTraces = false) {σ : zS} {D : zBk} {c : Nat} (hz : zOK σ) (hW : WF D) (hR : Rel D (σ.1 262)) (hc : (c : Int) < D 12 0) : Sp l w mX10_isCounted 1 0 [zf 10 261, zi ((c : Nat) : Int)] σ (zret (zi (zb (Ht D c))) σ) := by
  obtain ⟨Q, hQ⟩ : ∃ Q : zQ, Q = (zret (zi (zb (Ht D c))) σ) := ⟨_, rfl⟩
  rw [← hQ]
  refine zx_enter hfl (by decide) rfl 0 rfl ?_
  show zX l w mX10_isCounted (zMQ w 1 0 Q) 0 [zf 10 261, zi ((c : Nat) : Int)] [] 0 σ
  have hP : 0 ≤ D 1 0 ∧ D 1 0 ≤ 8 := hW.1.1
  have hM : 0 ≤ D 1 7 ∧ D 1 7 ≤ 8 := hW.1.2.1
  have hE : 0 ≤ D 1 10 ∧ D 1 10 ≤ 12 := hW.1.2.2.1
  have hK : 0 ≤ D 12 0 ∧ D 12 0 ≤ 40 := hW.1.2.2.2
  have r0 : σ.1 262 0 = D 1 0 := hR.1.1
  have r1 : σ.1 262 1 = D 1 7 := hR.1.2.1
  have r2 : σ.1 262 2 = D 1 10 := hR.1.2.2.1
  have r3 : σ.1 262 3 = D 12 0 := hR.1.2.2.2
  have hb := (hW.2.2.2.2.1 c hc).2.2.2
  have hz17 : zr (D 17 c) := by unfold zr; omega
  have hz18 : zr (D 18 c) := by unfold zr; omega
  refine zx_aloadN dX10_isCounted_0 rfl rfl ?_
  refine zx_iloadN dX10_isCounted_1 rfl rfl ?_
  refine zx_iconst dX10_isCounted_2 ?_
  refine zy_cv [zi ((c : Nat) : Int), zi 4] (sX10_of (D := D) (c := c) (o := 4) hfl hz (by first | assumption | omega) (by first | assumption | (refine Rel_put (by decide) ?_; assumption) | (refine Rel_put (by decide) (Rel_put (by decide) ?_); assumption) | (refine Rel_put (by decide) (Rel_put (by decide) (Rel_put (by decide) ?_)); assumption)) (by first | assumption | omega) (by first | assumption | omega)) dX10_isCounted_3 (by decide) rfl cw_RX10_102 okX10_of rfl (Nat.le_of_ble_eq_true rfl) ⟨Nat.le_of_ble_eq_true rfl, Nat.le_of_ble_eq_true rfl, Nat.le_of_ble_eq_true rfl, Nat.le_of_ble_eq_true rfl⟩ ?_
  refine zy_top (b := D 17 c) rfl ?_
  refine zx_iconst dX10_isCounted_6 ?_
  refine zx_icmp_ne (tgt := 23) (by first | exact hz _ _ | assumption | exact zr_b _ | exact zcmp_r _ _ | (unfold zr at *; omega)) (by first | exact hz _ _ | assumption | exact zr_b _ | exact zcmp_r _ _ | (unfold zr at *; omega)) dX10_isCounted_7 (by decide) (fun h7 => ?_) (fun h7 => ?_)
  · refine zx_iconst dX10_isCounted_23 ?_
    refine zx_iret rfl rfl dX10_isCounted_24 ?_
    rw [hQ]
    refine ⟨congrArg (fun z : Int => (Sum.inl (some (zi z)) : Option zV ⊕ String)) ?_, by first | rfl | (exfalso; omega)⟩
    unfold Ht
    first | exact (zb_t ⟨by omega, by omega⟩).symm | exact (zb_f (by omega)).symm
  · refine zx_aloadN dX10_isCounted_10 rfl rfl ?_
    refine zx_iloadN dX10_isCounted_11 rfl rfl ?_
    refine zx_iconst dX10_isCounted_12 ?_
    refine zy_cv [zi ((c : Nat) : Int), zi 5] (sX10_of (D := D) (c := c) (o := 5) hfl hz (by first | assumption | omega) (by first | assumption | (refine Rel_put (by decide) ?_; assumption) | (refine Rel_put (by decide) (Rel_put (by decide) ?_); assumption) | (refine Rel_put (by decide) (Rel_put (by decide) (Rel_put (by decide) ?_)); assumption)) (by first | assumption | omega) (by first | assumption | omega)) dX10_isCounted_13 (by decide) rfl cw_RX10_102 okX10_of rfl (Nat.le_of_ble_eq_true rfl) ⟨Nat.le_of_ble_eq_true rfl, Nat.le_of_ble_eq_true rfl, Nat.le_of_ble_eq_true rfl, Nat.le_of_ble_eq_true rfl⟩ ?_
    refine zy_top (b := D 18 c) rfl ?_
    refine zx_if_ne (tgt := 23) (by first | exact hz _ _ | assumption | exact zr_b _ | exact zcmp_r _ _ | (unfold zr at *; omega)) dX10_isCounted_16 (by decide) (fun h16 => ?_) (fun h16 => ?_)
    · refine zx_iconst dX10_isCounted_23 ?_
      refine zx_iret rfl rfl dX10_isCounted_24 ?_
      rw [hQ]
      refine ⟨congrArg (fun z : Int => (Sum.inl (some (zi z)) : Option zV ⊕ String)) ?_, by first | rfl | (exfalso; omega)⟩
      unfold Ht
      first | exact (zb_t ⟨by omega, by omega⟩).symm | exact (zb_f (by omega)).symm
    · refine zx_iconst dX10_isCounted_19 ?_
      refine zx_goto (tgt := 24) dX10_isCounted_20 (by decide) ?_
      refine zx_iret rfl rfl dX10_isCounted_24 ?_
      rw [hQ]
      refine ⟨congrArg (fun z : Int => (Sum.inl (some (zi z)) : Option zV ⊕ String)) ?_, by first | rfl | (exfalso; omega)⟩
      unfold Ht
      first | exact (zb_t ⟨by omega, by omega⟩).symm | exact (zb_f (by omega)).symm
set_option maxRecDepth 20000 in
set_option maxHeartbeats 2000000 in
theorem sX10_counted {l : Launch} {w : zW} (hfl : l.stackTraces = false) {σ : zS} {D : zBk}  (hz : zOK σ) (hW : WF D) (hR : Rel D (σ.1 262)) : Sp l w mX10_counted 2 0 [zf 10 261] σ (zret (zi (cW D)) σ) := by
  obtain ⟨Q, hQ⟩ : ∃ Q : zQ, Q = (zret (zi (cW D)) σ) := ⟨_, rfl⟩
  rw [← hQ]
  refine zx_enter hfl (by decide) rfl 2 rfl ?_
  show zX l w mX10_counted (zMQ w 2 0 Q) 0 [zf 10 261, zu, zu] [] 0 σ
  have hP : 0 ≤ D 1 0 ∧ D 1 0 ≤ 8 := hW.1.1
  have hM : 0 ≤ D 1 7 ∧ D 1 7 ≤ 8 := hW.1.2.1
  have hE : 0 ≤ D 1 10 ∧ D 1 10 ≤ 12 := hW.1.2.2.1
  have hK : 0 ≤ D 12 0 ∧ D 12 0 ≤ 40 := hW.1.2.2.2
  have r0 : σ.1 262 0 = D 1 0 := hR.1.1
  have r1 : σ.1 262 1 = D 1 7 := hR.1.2.1
  have r2 : σ.1 262 2 = D 1 10 := hR.1.2.2.1
  have r3 : σ.1 262 3 = D 12 0 := hR.1.2.2.2
  have hz16 : ∀ c : Nat, (c : Int) < D 12 0 → zr (D 16 c) := fun c hc => by have := (hW.2.2.2.2.1 c hc).2.2.1; unfold zr; omega
  refine zx_iconst dX10_counted_0 ?_
  refine zy_istoreN [zf 10 261, zi 0, zu] dX10_counted_1 rfl (Nat.le_of_ble_eq_true rfl) (Nat.le_of_ble_eq_true rfl) rfl rfl ?_
  refine zx_iconst dX10_counted_2 ?_
  refine zy_istoreN [zf 10 261, zi 0, zi 0] dX10_counted_3 rfl (Nat.le_of_ble_eq_true rfl) (Nat.le_of_ble_eq_true rfl) rfl rfl ?_
  have L4 : ∀ (N : Nat) (c : Nat) (acc : Int), ((c : Int) ≤ D 12 0) → (acc = zs (fun c => zif (Ht D c) (D 16 c)) c) → (41 - c) < N → zX l w mX10_counted (zMQ w 2 0 Q) 4 [zf 10 261, zi acc, zi ((c : Nat) : Int)] [] 0 σ := by
    intro N
    induction N with
    | zero => intro c acc _ _ _; exact absurd (by assumption) (Nat.not_lt_zero _)
    | succ N ih4 =>
      intro c acc hc_ hacc hN
      refine zx_iloadN dX10_counted_4 rfl rfl ?_
      refine zx_aloadN dX10_counted_5 rfl rfl ?_
      refine zy_getR (q' := 262) fl_RX10_7 rfl dX10_counted_6 rfl ?_
      refine zx_iconst dX10_counted_9 ?_
      refine zy_iald (v := σ.1 262 3) rfl (by decide) (by decide) dX10_counted_10 (by omega) (by omega) rfl ?_
      refine zx_icmp_ge (tgt := 41) (by first | exact hz _ _ | assumption | exact zr_b _ | exact zcmp_r _ _ | (unfold zr at *; omega)) (by first | exact hz _ _ | assumption | exact zr_b _ | exact zcmp_r _ _ | (unfold zr at *; omega)) dX10_counted_11 (by decide) (fun h11 => ?_) (fun h11 => ?_)
      · refine zx_iloadN dX10_counted_41 rfl rfl ?_
        refine zx_iret rfl rfl dX10_counted_42 ?_
        rw [hQ]
        refine ⟨congrArg (fun z : Int => (Sum.inl (some (zi z)) : Option zV ⊕ String)) ?_, by first | rfl | (exfalso; omega)⟩
        rw [hacc]; unfold cW; congr 1; omega
      · refine zx_iloadN dX10_counted_14 rfl rfl ?_
        refine zx_aloadN dX10_counted_15 rfl rfl ?_
        refine zx_iloadN dX10_counted_16 rfl rfl ?_
        refine zy_cv [zi ((c : Nat) : Int)] (sX10_isCounted (D := D) (c := c) hfl hz (by first | assumption | omega) (by first | assumption | (refine Rel_put (by decide) ?_; assumption) | (refine Rel_put (by decide) (Rel_put (by decide) ?_); assumption) | (refine Rel_put (by decide) (Rel_put (by decide) (Rel_put (by decide) ?_)); assumption)) (by first | assumption | omega)) dX10_counted_17 (by decide) rfl cw_RX10_121 okX10_isCounted rfl (Nat.le_of_ble_eq_true rfl) ⟨Nat.le_of_ble_eq_true rfl, Nat.le_of_ble_eq_true rfl, Nat.le_of_ble_eq_true rfl, Nat.le_of_ble_eq_true rfl⟩ ?_
        refine zx_if_eq (tgt := 32) (by first | exact hz _ _ | assumption | exact zr_b _ | exact zcmp_r _ _ | (unfold zr at *; omega)) dX10_counted_20 (by decide) (fun h20 => ?_) (fun h20 => ?_)
        · have h20 := zb_0.mp h20
          refine zx_iconst dX10_counted_32 ?_
          refine zx_iadd dX10_counted_33 ?_
          refine zy_istoreN [zf 10 261, zi (acc + 0), zi ((c : Nat) : Int)] dX10_counted_34 rfl (Nat.le_of_ble_eq_true rfl) (Nat.le_of_ble_eq_true rfl) rfl rfl ?_
          refine zy_iinc (b := ((c + 1 : Nat) : Int)) [zf 10 261, zi (acc + 0), zi ((c + 1 : Nat) : Int)] dX10_counted_35 rfl (by omega) (Nat.le_of_ble_eq_true rfl) rfl rfl ?_
          refine zx_goto (tgt := 4) dX10_counted_38 (by decide) ?_
          exact ih4 (c + 1) (acc + 0) (by first | assumption | omega) (by subst hacc; first | exact zsw_t (P := Ht D) (v := D 16) h20 | (rw [Int.add_zero]; exact zsw_f (P := Ht D) (v := D 16) h20)) (by omega)
        · have h20 := zb_n.mp h20
          refine zx_aloadN dX10_counted_23 rfl rfl ?_
          refine zx_iloadN dX10_counted_24 rfl rfl ?_
          refine zx_iconst dX10_counted_25 ?_
          refine zy_cv [zi ((c : Nat) : Int), zi 3] (sX10_of (D := D) (c := c) (o := 3) hfl hz (by first | assumption | omega) (by first | assumption | (refine Rel_put (by decide) ?_; assumption) | (refine Rel_put (by decide) (Rel_put (by decide) ?_); assumption) | (refine Rel_put (by decide) (Rel_put (by decide) (Rel_put (by decide) ?_)); assumption)) (by first | assumption | omega) (by first | assumption | omega)) dX10_counted_26 (by decide) rfl cw_RX10_102 okX10_of rfl (Nat.le_of_ble_eq_true rfl) ⟨Nat.le_of_ble_eq_true rfl, Nat.le_of_ble_eq_true rfl, Nat.le_of_ble_eq_true rfl, Nat.le_of_ble_eq_true rfl⟩ ?_
          refine zy_top (b := D 16 c) rfl ?_
          refine zx_goto (tgt := 33) dX10_counted_29 (by decide) ?_
          refine zx_iadd dX10_counted_33 ?_
          refine zy_istoreN [zf 10 261, zi (acc + (D 16 c)), zi ((c : Nat) : Int)] dX10_counted_34 rfl (Nat.le_of_ble_eq_true rfl) (Nat.le_of_ble_eq_true rfl) rfl rfl ?_
          refine zy_iinc (b := ((c + 1 : Nat) : Int)) [zf 10 261, zi (acc + (D 16 c)), zi ((c + 1 : Nat) : Int)] dX10_counted_35 rfl (by omega) (Nat.le_of_ble_eq_true rfl) rfl rfl ?_
          refine zx_goto (tgt := 4) dX10_counted_38 (by decide) ?_
          exact ih4 (c + 1) (acc + (D 16 c)) (by first | assumption | omega) (by subst hacc; first | exact zsw_t (P := Ht D) (v := D 16) h20 | (rw [Int.add_zero]; exact zsw_f (P := Ht D) (v := D 16) h20)) (by omega)
  exact L4 _ 0 0 (by first | assumption | omega) rfl (Nat.lt_succ_self _)
set_option maxRecDepth 20000 in
set_option maxHeartbeats 2000000 in
theorem sX10_scoreOf {l : Launch} {w : zW} (hfl : l.stackTraces = false) {σ : zS} {D : zBk} {p : Nat} {y : Int} (hz : zOK σ) (hW : WF D) (hR : Rel D (σ.1 262)) (hp : (p : Int) < D 1 0) (hy : zr y) : Sp l w mX10_scoreOf 5 0 [zf 10 261, zi ((p : Nat) : Int), zi y] σ (zret (zi (zs (fun c => zif (Ht D c ∧ works D p y ∧ cFit D p y c) (D 16 c)) (D 12 0).toNat)) σ) := by
  obtain ⟨Q, hQ⟩ : ∃ Q : zQ, Q = (zret (zi (zs (fun c => zif (Ht D c ∧ works D p y ∧ cFit D p y c) (D 16 c)) (D 12 0).toNat)) σ) := ⟨_, rfl⟩
  rw [← hQ]
  refine zx_enter hfl (by decide) rfl 2 rfl ?_
  show zX l w mX10_scoreOf (zMQ w 5 0 Q) 0 [zf 10 261, zi ((p : Nat) : Int), zi y, zu, zu] [] 0 σ
  have hP : 0 ≤ D 1 0 ∧ D 1 0 ≤ 8 := hW.1.1
  have hM : 0 ≤ D 1 7 ∧ D 1 7 ≤ 8 := hW.1.2.1
  have hE : 0 ≤ D 1 10 ∧ D 1 10 ≤ 12 := hW.1.2.2.1
  have hK : 0 ≤ D 12 0 ∧ D 12 0 ≤ 40 := hW.1.2.2.2
  have r0 : σ.1 262 0 = D 1 0 := hR.1.1
  have r1 : σ.1 262 1 = D 1 7 := hR.1.2.1
  have r2 : σ.1 262 2 = D 1 10 := hR.1.2.2.1
  have r3 : σ.1 262 3 = D 12 0 := hR.1.2.2.2
  have hz16 : ∀ c : Nat, (c : Int) < D 12 0 → zr (D 16 c) := fun c hc => by have := (hW.2.2.2.2.1 c hc).2.2.1; unfold zr; omega
  refine zx_iconst dX10_scoreOf_0 ?_
  refine zy_istoreN [zf 10 261, zi ((p : Nat) : Int), zi y, zi 0, zu] dX10_scoreOf_1 rfl (Nat.le_of_ble_eq_true rfl) (Nat.le_of_ble_eq_true rfl) rfl rfl ?_
  refine zx_iconst dX10_scoreOf_2 ?_
  refine zy_istore [zf 10 261, zi ((p : Nat) : Int), zi y, zi 0, zi 0] dX10_scoreOf_3 (Nat.le_of_ble_eq_true rfl) (Nat.le_of_ble_eq_true rfl) rfl rfl ?_
  have L5 : ∀ (N : Nat) (c : Nat) (acc : Int), ((c : Int) ≤ D 12 0) → (acc = zs (fun c => zif (Ht D c ∧ works D p y ∧ cFit D p y c) (D 16 c)) c) → (41 - c) < N → zX l w mX10_scoreOf (zMQ w 5 0 Q) 5 [zf 10 261, zi ((p : Nat) : Int), zi y, zi acc, zi ((c : Nat) : Int)] [] 0 σ := by
    intro N
    induction N with
    | zero => intro c acc _ _ _; exact absurd (by assumption) (Nat.not_lt_zero _)
    | succ N ih5 =>
      intro c acc hc_ hacc hN
      refine zx_iload dX10_scoreOf_5 rfl ?_
      refine zx_aloadN dX10_scoreOf_7 rfl rfl ?_
      refine zy_getR (q' := 262) fl_RX10_7 rfl dX10_scoreOf_8 rfl ?_
      refine zx_iconst dX10_scoreOf_11 ?_
      refine zy_iald (v := σ.1 262 3) rfl (by decide) (by decide) dX10_scoreOf_12 (by omega) (by omega) rfl ?_
      refine zx_icmp_ge (tgt := 56) (by first | exact hz _ _ | assumption | exact zr_b _ | exact zcmp_r _ _ | (unfold zr at *; omega)) (by first | exact hz _ _ | assumption | exact zr_b _ | exact zcmp_r _ _ | (unfold zr at *; omega)) dX10_scoreOf_13 (by decide) (fun h13 => ?_) (fun h13 => ?_)
      · refine zx_iloadN dX10_scoreOf_56 rfl rfl ?_
        refine zx_iret rfl rfl dX10_scoreOf_57 ?_
        rw [hQ]
        refine ⟨congrArg (fun z : Int => (Sum.inl (some (zi z)) : Option zV ⊕ String)) ?_, by first | rfl | (exfalso; omega)⟩
        rw [hacc]; congr 1; omega
      · refine zx_iloadN dX10_scoreOf_16 rfl rfl ?_
        refine zx_aloadN dX10_scoreOf_17 rfl rfl ?_
        refine zx_iload dX10_scoreOf_18 rfl ?_
        refine zy_cv [zi ((c : Nat) : Int)] (sX10_isCounted (D := D) (c := c) hfl hz (by first | assumption | omega) (by first | assumption | (refine Rel_put (by decide) ?_; assumption) | (refine Rel_put (by decide) (Rel_put (by decide) ?_); assumption) | (refine Rel_put (by decide) (Rel_put (by decide) (Rel_put (by decide) ?_)); assumption)) (by first | assumption | omega)) dX10_scoreOf_20 (by decide) rfl cw_RX10_121 okX10_isCounted rfl (Nat.le_of_ble_eq_true rfl) ⟨Nat.le_of_ble_eq_true rfl, Nat.le_of_ble_eq_true rfl, Nat.le_of_ble_eq_true rfl, Nat.le_of_ble_eq_true rfl⟩ ?_
        refine zx_if_eq (tgt := 47) (by first | exact hz _ _ | assumption | exact zr_b _ | exact zcmp_r _ _ | (unfold zr at *; omega)) dX10_scoreOf_23 (by decide) (fun h23 => ?_) (fun h23 => ?_)
        · have h23 := zb_0.mp h23
          refine zx_iconst dX10_scoreOf_47 ?_
          refine zx_iadd dX10_scoreOf_48 ?_
          refine zy_istoreN [zf 10 261, zi ((p : Nat) : Int), zi y, zi (acc + 0), zi ((c : Nat) : Int)] dX10_scoreOf_49 rfl (Nat.le_of_ble_eq_true rfl) (Nat.le_of_ble_eq_true rfl) rfl rfl ?_
          refine zy_iinc (b := ((c + 1 : Nat) : Int)) [zf 10 261, zi ((p : Nat) : Int), zi y, zi (acc + 0), zi ((c + 1 : Nat) : Int)] dX10_scoreOf_50 rfl (by omega) (Nat.le_of_ble_eq_true rfl) rfl rfl ?_
          refine zx_goto (tgt := 5) dX10_scoreOf_53 (by decide) ?_
          exact ih5 (c + 1) (acc + 0) (by first | assumption | omega) (by subst hacc; first | exact zsw_t (P := (fun c => Ht D c ∧ works D p y ∧ cFit D p y c)) (v := D 16) ⟨h23, h34⟩ | (rw [Int.add_zero]; exact zsw_f (P := (fun c => Ht D c ∧ works D p y ∧ cFit D p y c)) (v := D 16) (fun q => h23 q.1)) | (rw [Int.add_zero]; exact zsw_f (P := (fun c => Ht D c ∧ works D p y ∧ cFit D p y c)) (v := D 16) (fun q => h34 q.2))) (by omega)
        · have h23 := zb_n.mp h23
          refine zx_aloadN dX10_scoreOf_26 rfl rfl ?_
          refine zx_iload dX10_scoreOf_27 rfl ?_
          refine zx_iloadN dX10_scoreOf_29 rfl rfl ?_
          refine zx_iloadN dX10_scoreOf_30 rfl rfl ?_
          refine zy_cv [zi ((c : Nat) : Int), zi ((p : Nat) : Int), zi y] (sX10_isExplained (D := D) (c := c) (p := p) hfl hz (by first | assumption | omega) (by first | assumption | (refine Rel_put (by decide) ?_; assumption) | (refine Rel_put (by decide) (Rel_put (by decide) ?_); assumption) | (refine Rel_put (by decide) (Rel_put (by decide) (Rel_put (by decide) ?_)); assumption)) (by first | assumption | omega) (by first | assumption | omega) (by first | exact hz _ _ | assumption | exact zr_b _ | exact zcmp_r _ _ | (unfold zr at *; omega))) dX10_scoreOf_31 (by decide) rfl cw_RX10_125 okX10_isExplained rfl (Nat.le_of_ble_eq_true rfl) ⟨Nat.le_of_ble_eq_true rfl, Nat.le_of_ble_eq_true rfl, Nat.le_of_ble_eq_true rfl, Nat.le_of_ble_eq_true rfl⟩ ?_
          refine zx_if_eq (tgt := 47) (by first | exact hz _ _ | assumption | exact zr_b _ | exact zcmp_r _ _ | (unfold zr at *; omega)) dX10_scoreOf_34 (by decide) (fun h34 => ?_) (fun h34 => ?_)
          · have h34 := zb_0.mp h34
            refine zx_iconst dX10_scoreOf_47 ?_
            refine zx_iadd dX10_scoreOf_48 ?_
            refine zy_istoreN [zf 10 261, zi ((p : Nat) : Int), zi y, zi (acc + 0), zi ((c : Nat) : Int)] dX10_scoreOf_49 rfl (Nat.le_of_ble_eq_true rfl) (Nat.le_of_ble_eq_true rfl) rfl rfl ?_
            refine zy_iinc (b := ((c + 1 : Nat) : Int)) [zf 10 261, zi ((p : Nat) : Int), zi y, zi (acc + 0), zi ((c + 1 : Nat) : Int)] dX10_scoreOf_50 rfl (by omega) (Nat.le_of_ble_eq_true rfl) rfl rfl ?_
            refine zx_goto (tgt := 5) dX10_scoreOf_53 (by decide) ?_
            exact ih5 (c + 1) (acc + 0) (by first | assumption | omega) (by subst hacc; first | exact zsw_t (P := (fun c => Ht D c ∧ works D p y ∧ cFit D p y c)) (v := D 16) ⟨h23, h34⟩ | (rw [Int.add_zero]; exact zsw_f (P := (fun c => Ht D c ∧ works D p y ∧ cFit D p y c)) (v := D 16) (fun q => h23 q.1)) | (rw [Int.add_zero]; exact zsw_f (P := (fun c => Ht D c ∧ works D p y ∧ cFit D p y c)) (v := D 16) (fun q => h34 q.2))) (by omega)
          · have h34 := zb_n.mp h34
            refine zx_aloadN dX10_scoreOf_37 rfl rfl ?_
            refine zx_iload dX10_scoreOf_38 rfl ?_
            refine zx_iconst dX10_scoreOf_40 ?_
            refine zy_cv [zi ((c : Nat) : Int), zi 3] (sX10_of (D := D) (c := c) (o := 3) hfl hz (by first | assumption | omega) (by first | assumption | (refine Rel_put (by decide) ?_; assumption) | (refine Rel_put (by decide) (Rel_put (by decide) ?_); assumption) | (refine Rel_put (by decide) (Rel_put (by decide) (Rel_put (by decide) ?_)); assumption)) (by first | assumption | omega) (by first | assumption | omega)) dX10_scoreOf_41 (by decide) rfl cw_RX10_102 okX10_of rfl (Nat.le_of_ble_eq_true rfl) ⟨Nat.le_of_ble_eq_true rfl, Nat.le_of_ble_eq_true rfl, Nat.le_of_ble_eq_true rfl, Nat.le_of_ble_eq_true rfl⟩ ?_
            refine zy_top (b := D 16 c) rfl ?_
            refine zx_goto (tgt := 48) dX10_scoreOf_44 (by decide) ?_
            refine zx_iadd dX10_scoreOf_48 ?_
            refine zy_istoreN [zf 10 261, zi ((p : Nat) : Int), zi y, zi (acc + (D 16 c)), zi ((c : Nat) : Int)] dX10_scoreOf_49 rfl (Nat.le_of_ble_eq_true rfl) (Nat.le_of_ble_eq_true rfl) rfl rfl ?_
            refine zy_iinc (b := ((c + 1 : Nat) : Int)) [zf 10 261, zi ((p : Nat) : Int), zi y, zi (acc + (D 16 c)), zi ((c + 1 : Nat) : Int)] dX10_scoreOf_50 rfl (by omega) (Nat.le_of_ble_eq_true rfl) rfl rfl ?_
            refine zx_goto (tgt := 5) dX10_scoreOf_53 (by decide) ?_
            exact ih5 (c + 1) (acc + (D 16 c)) (by first | assumption | omega) (by subst hacc; first | exact zsw_t (P := (fun c => Ht D c ∧ works D p y ∧ cFit D p y c)) (v := D 16) ⟨h23, h34⟩ | (rw [Int.add_zero]; exact zsw_f (P := (fun c => Ht D c ∧ works D p y ∧ cFit D p y c)) (v := D 16) (fun q => h23 q.1)) | (rw [Int.add_zero]; exact zsw_f (P := (fun c => Ht D c ∧ works D p y ∧ cFit D p y c)) (v := D 16) (fun q => h34 q.2))) (by omega)
  exact L5 _ 0 0 (by first | assumption | omega) rfl (Nat.lt_succ_self _)

