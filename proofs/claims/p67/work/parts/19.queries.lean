abbrev mX9_requirePrinter : zM := (yX9_requirePrinter, cX9_requirePrinter, 2, none, [])
theorem okX9_requirePrinter : zMok mX9_requirePrinter 1 := ⟨by decide, by decide, by decide +kernel⟩
theorem dX9_requirePrinter_0 : decode cX9_requirePrinter 0 = .ok (.aload_n 0, 1) := by decide +kernel
theorem dX9_requirePrinter_1 : decode cX9_requirePrinter 1 = .ok (.getfield 33, 3) := by decide +kernel
theorem fl_RX9_33 : zFl RX9 33 9 3 := ⟨RX9, TX9, 9, rfl, by decide, zmem1 564 (by decide +kernel) rfl, rfl⟩
theorem dX9_requirePrinter_4 : decode cX9_requirePrinter 4 = .ok (.getfield 134, 3) := by decide +kernel
theorem fl_RX9_134 : zFl RX9 134 1 0 := ⟨RX1, TX1, 2, rfl, by decide, zmem1 206 (by decide +kernel) rfl, rfl⟩
theorem dX9_requirePrinter_7 : decode cX9_requirePrinter 7 = .ok (.iload_n 1, 1) := by decide +kernel
theorem dX9_requirePrinter_8 : decode cX9_requirePrinter 8 = .ok (.invokevirtual 378, 3) := by decide +kernel
theorem cw_RX9_378 : zCwV RX9 378 mX0_hasPrinter := zall [1052, 528, 529, 35, 530] (by decide +kernel) (by decide +kernel)
theorem dX9_requirePrinter_11 : decode cX9_requirePrinter 11 = .ok (.ifCond .ne 14, 3) := by decide +kernel
theorem dX9_requirePrinter_14 : decode cX9_requirePrinter 14 = .ok (.new 369, 3) := by decide +kernel
theorem th_RX9_373_369_k : Cond.classLink RX9 369 "java/lang/IndexOutOfBoundsException" ∈ zgood := zmem1 759 (by decide +kernel) rfl
theorem ei_IndexOutOfBoundsException : Cond.initialized "java/lang/IndexOutOfBoundsException" ∈ zgood := zmem1 46 (by decide +kernel) rfl
theorem dX9_requirePrinter_17 : decode cX9_requirePrinter 17 = .ok (.dup, 1) := by decide +kernel
theorem dX9_requirePrinter_18 : decode cX9_requirePrinter 18 = .ok (.ldc_w 381, 3) := by decide +kernel
theorem dX9_requirePrinter_21 : decode cX9_requirePrinter 21 = .ok (.invokespecial 373, 3) := by decide +kernel
theorem dX9_requirePrinter_24 : decode cX9_requirePrinter 24 = .ok (.athrow, 1) := by decide +kernel
theorem th_RX9_373 : (∀ x ∈ vx_atS RX9 373 "java/lang/IndexOutOfBoundsException" ["java/lang/RuntimeException", "java/lang/Exception"], x ∈ lw_tbl) := by decide +kernel
theorem th_RX9_373_o : (∀ x ∈ Cond.classLink RX9 369 "java/lang/IndexOutOfBoundsException" :: Cond.initialized "java/lang/IndexOutOfBoundsException" :: vx_atS RX9 373 "java/lang/IndexOutOfBoundsException" ["java/lang/RuntimeException", "java/lang/Exception"], vx_ot x = true) := by decide +kernel
theorem th_RX9_373_g : (∀ x ∈ vx_atS RX9 373 "java/lang/IndexOutOfBoundsException" ["java/lang/RuntimeException", "java/lang/Exception"], goodWord x = true ∨ (x.onTables && x.keepsFace) = true) := by decide +kernel
theorem dX9_requirePrinter_25 : decode cX9_requirePrinter 25 = .ok (.return_, 1) := by decide +kernel
abbrev mX9_requireClue : zM := (yX9_requireClue, cX9_requireClue, 2, none, [])
theorem okX9_requireClue : zMok mX9_requireClue 1 := ⟨by decide, by decide, by decide +kernel⟩
theorem dX9_requireClue_0 : decode cX9_requireClue 0 = .ok (.aload_n 0, 1) := by decide +kernel
theorem dX9_requireClue_1 : decode cX9_requireClue 1 = .ok (.getfield 33, 3) := by decide +kernel
theorem dX9_requireClue_4 : decode cX9_requireClue 4 = .ok (.getfield 125, 3) := by decide +kernel
theorem fl_RX9_125 : zFl RX9 125 1 1 := ⟨RX1, TX1, 2, rfl, by decide, zmem1 209 (by decide +kernel) rfl, rfl⟩
theorem dX9_requireClue_7 : decode cX9_requireClue 7 = .ok (.iload_n 1, 1) := by decide +kernel
theorem dX9_requireClue_8 : decode cX9_requireClue 8 = .ok (.invokevirtual 383, 3) := by decide +kernel
theorem cw_RX9_383 : zCwV RX9 383 mX2_has := zall [965, 512, 513, 36, 514] (by decide +kernel) (by decide +kernel)
theorem dX9_requireClue_11 : decode cX9_requireClue 11 = .ok (.ifCond .ne 14, 3) := by decide +kernel
theorem dX9_requireClue_14 : decode cX9_requireClue 14 = .ok (.new 369, 3) := by decide +kernel
theorem dX9_requireClue_17 : decode cX9_requireClue 17 = .ok (.dup, 1) := by decide +kernel
theorem dX9_requireClue_18 : decode cX9_requireClue 18 = .ok (.ldc_w 386, 3) := by decide +kernel
theorem dX9_requireClue_21 : decode cX9_requireClue 21 = .ok (.invokespecial 373, 3) := by decide +kernel
theorem dX9_requireClue_24 : decode cX9_requireClue 24 = .ok (.athrow, 1) := by decide +kernel
theorem dX9_requireClue_25 : decode cX9_requireClue 25 = .ok (.return_, 1) := by decide +kernel
abbrev mX9_requireYear : zM := (yX9_requireYear, cX9_requireYear, 1, none, [])
theorem okX9_requireYear : zMok mX9_requireYear 1 := ⟨by decide, by decide, by decide +kernel⟩
theorem dX9_requireYear_0 : decode cX9_requireYear 0 = .ok (.iload_n 0, 1) := by decide +kernel
theorem dX9_requireYear_1 : decode cX9_requireYear 1 = .ok (.sipush 1450, 3) := by decide +kernel
theorem dX9_requireYear_4 : decode cX9_requireYear 4 = .ok (.sipush 1999, 3) := by decide +kernel
theorem dX9_requireYear_7 : decode cX9_requireYear 7 = .ok (.invokestatic 388, 3) := by decide +kernel
theorem cw_RX9_388 : zCwS RX9 388 mX9_isWithin := zall [1076, 420, 31, 421] (by decide +kernel) (by decide +kernel)
theorem dX9_requireYear_10 : decode cX9_requireYear 10 = .ok (.ifCond .ne 14, 3) := by decide +kernel
theorem dX9_requireYear_13 : decode cX9_requireYear 13 = .ok (.new 115, 3) := by decide +kernel
theorem th_RX9_119_115_k : Cond.classLink RX9 115 "java/lang/IllegalArgumentException" ∈ zgood := zmem1 704 (by decide +kernel) rfl
theorem ei_IllegalArgumentException : Cond.initialized "java/lang/IllegalArgumentException" ∈ zgood := zmem1 44 (by decide +kernel) rfl
theorem dX9_requireYear_16 : decode cX9_requireYear 16 = .ok (.dup, 1) := by decide +kernel
theorem dX9_requireYear_17 : decode cX9_requireYear 17 = .ok (.ldc_w 391, 3) := by decide +kernel
theorem dX9_requireYear_20 : decode cX9_requireYear 20 = .ok (.invokespecial 119, 3) := by decide +kernel
theorem dX9_requireYear_23 : decode cX9_requireYear 23 = .ok (.athrow, 1) := by decide +kernel
theorem th_RX9_119 : (∀ x ∈ vx_atS RX9 119 "java/lang/IllegalArgumentException" ["java/lang/RuntimeException", "java/lang/Exception"], x ∈ lw_tbl) := by decide +kernel
theorem th_RX9_119_o : (∀ x ∈ Cond.classLink RX9 115 "java/lang/IllegalArgumentException" :: Cond.initialized "java/lang/IllegalArgumentException" :: vx_atS RX9 119 "java/lang/IllegalArgumentException" ["java/lang/RuntimeException", "java/lang/Exception"], vx_ot x = true) := by decide +kernel
theorem th_RX9_119_g : (∀ x ∈ vx_atS RX9 119 "java/lang/IllegalArgumentException" ["java/lang/RuntimeException", "java/lang/Exception"], goodWord x = true ∨ (x.onTables && x.keepsFace) = true) := by decide +kernel
theorem dX9_requireYear_24 : decode cX9_requireYear 24 = .ok (.return_, 1) := by decide +kernel
abbrev mX9_requirePrediction : zM := (yX9_requirePrediction, cX9_requirePrediction, 1, none, [])
theorem okX9_requirePrediction : zMok mX9_requirePrediction 1 := ⟨by decide, by decide, by decide +kernel⟩
theorem dX9_requirePrediction_0 : decode cX9_requirePrediction 0 = .ok (.iload_n 0, 1) := by decide +kernel
theorem dX9_requirePrediction_1 : decode cX9_requirePrediction 1 = .ok (.iconst 0, 1) := by decide +kernel
theorem dX9_requirePrediction_2 : decode cX9_requirePrediction 2 = .ok (.bipush 40, 2) := by decide +kernel
theorem dX9_requirePrediction_4 : decode cX9_requirePrediction 4 = .ok (.invokestatic 388, 3) := by decide +kernel
theorem dX9_requirePrediction_7 : decode cX9_requirePrediction 7 = .ok (.ifCond .ne 14, 3) := by decide +kernel
theorem dX9_requirePrediction_10 : decode cX9_requirePrediction 10 = .ok (.new 115, 3) := by decide +kernel
theorem dX9_requirePrediction_13 : decode cX9_requirePrediction 13 = .ok (.dup, 1) := by decide +kernel
theorem dX9_requirePrediction_14 : decode cX9_requirePrediction 14 = .ok (.ldc_w 393, 3) := by decide +kernel
theorem dX9_requirePrediction_17 : decode cX9_requirePrediction 17 = .ok (.invokespecial 119, 3) := by decide +kernel
theorem dX9_requirePrediction_20 : decode cX9_requirePrediction 20 = .ok (.athrow, 1) := by decide +kernel
theorem dX9_requirePrediction_21 : decode cX9_requirePrediction 21 = .ok (.return_, 1) := by decide +kernel
abbrev mX9_refuse : zM := (yX9_refuse, cX9_refuse, 1, none, [])
theorem okX9_refuse : zMok mX9_refuse 1 := ⟨by decide, by decide, by decide +kernel⟩
theorem dX9_refuse_0 : decode cX9_refuse 0 = .ok (.iload_n 0, 1) := by decide +kernel
theorem dX9_refuse_1 : decode cX9_refuse 1 = .ok (.iconst 1, 1) := by decide +kernel
theorem dX9_refuse_2 : decode cX9_refuse 2 = .ok (.if_icmp .ne 14, 3) := by decide +kernel
theorem dX9_refuse_16 : decode cX9_refuse 16 = .ok (.iload_n 0, 1) := by decide +kernel
theorem dX9_refuse_17 : decode cX9_refuse 17 = .ok (.iconst 2, 1) := by decide +kernel
theorem dX9_refuse_18 : decode cX9_refuse 18 = .ok (.if_icmp .ne 14, 3) := by decide +kernel
theorem dX9_refuse_32 : decode cX9_refuse 32 = .ok (.iload_n 0, 1) := by decide +kernel
theorem dX9_refuse_33 : decode cX9_refuse 33 = .ok (.iconst 3, 1) := by decide +kernel
theorem dX9_refuse_34 : decode cX9_refuse 34 = .ok (.if_icmp .ne 14, 3) := by decide +kernel
theorem dX9_refuse_5 : decode cX9_refuse 5 = .ok (.new 369, 3) := by decide +kernel
theorem dX9_refuse_8 : decode cX9_refuse 8 = .ok (.dup, 1) := by decide +kernel
theorem dX9_refuse_9 : decode cX9_refuse 9 = .ok (.ldc_w 371, 3) := by decide +kernel
theorem dX9_refuse_12 : decode cX9_refuse 12 = .ok (.invokespecial 373, 3) := by decide +kernel
theorem dX9_refuse_15 : decode cX9_refuse 15 = .ok (.athrow, 1) := by decide +kernel
theorem dX9_refuse_21 : decode cX9_refuse 21 = .ok (.new 115, 3) := by decide +kernel
theorem dX9_refuse_24 : decode cX9_refuse 24 = .ok (.dup, 1) := by decide +kernel
theorem dX9_refuse_25 : decode cX9_refuse 25 = .ok (.ldc_w 374, 3) := by decide +kernel
theorem dX9_refuse_28 : decode cX9_refuse 28 = .ok (.invokespecial 119, 3) := by decide +kernel
theorem dX9_refuse_31 : decode cX9_refuse 31 = .ok (.athrow, 1) := by decide +kernel
theorem dX9_refuse_37 : decode cX9_refuse 37 = .ok (.new 102, 3) := by decide +kernel
theorem th_RX9_106_102_k : Cond.classLink RX9 102 "java/lang/IllegalStateException" ∈ zgood := zmem1 601 (by decide +kernel) rfl
theorem ei_IllegalStateException : Cond.initialized "java/lang/IllegalStateException" ∈ zgood := zmem1 45 (by decide +kernel) rfl
theorem dX9_refuse_40 : decode cX9_refuse 40 = .ok (.dup, 1) := by decide +kernel
theorem dX9_refuse_41 : decode cX9_refuse 41 = .ok (.ldc_w 376, 3) := by decide +kernel
theorem dX9_refuse_44 : decode cX9_refuse 44 = .ok (.invokespecial 106, 3) := by decide +kernel
theorem dX9_refuse_47 : decode cX9_refuse 47 = .ok (.athrow, 1) := by decide +kernel
theorem th_RX9_106 : (∀ x ∈ vx_atS RX9 106 "java/lang/IllegalStateException" ["java/lang/RuntimeException", "java/lang/Exception"], x ∈ lw_tbl) := by decide +kernel
theorem th_RX9_106_o : (∀ x ∈ Cond.classLink RX9 102 "java/lang/IllegalStateException" :: Cond.initialized "java/lang/IllegalStateException" :: vx_atS RX9 106 "java/lang/IllegalStateException" ["java/lang/RuntimeException", "java/lang/Exception"], vx_ot x = true) := by decide +kernel
theorem th_RX9_106_g : (∀ x ∈ vx_atS RX9 106 "java/lang/IllegalStateException" ["java/lang/RuntimeException", "java/lang/Exception"], goodWord x = true ∨ (x.onTables && x.keepsFace) = true) := by decide +kernel
theorem dX9_refuse_48 : decode cX9_refuse 48 = .ok (.return_, 1) := by decide +kernel
abbrev mX9_judgePresent : zM := (yX9_judgePresent, cX9_judgePresent, 1, none, [])
theorem okX9_judgePresent : zMok mX9_judgePresent 0 := ⟨by decide, by decide, by decide +kernel⟩
theorem dX9_judgePresent_0 : decode cX9_judgePresent 0 = .ok (.aload_n 0, 1) := by decide +kernel
theorem dX9_judgePresent_1 : decode cX9_judgePresent 1 = .ok (.getfield 54, 3) := by decide +kernel
theorem fl_RX9_54 : zFl RX9 54 9 7 := ⟨RX9, TX9, 9, rfl, by decide, zmem1 568 (by decide +kernel) rfl, rfl⟩
theorem dX9_judgePresent_4 : decode cX9_judgePresent 4 = .ok (.aload_n 0, 1) := by decide +kernel
theorem dX9_judgePresent_5 : decode cX9_judgePresent 5 = .ok (.getfield 33, 3) := by decide +kernel
theorem dX9_judgePresent_8 : decode cX9_judgePresent 8 = .ok (.iconst 0, 1) := by decide +kernel
theorem dX9_judgePresent_9 : decode cX9_judgePresent 9 = .ok (.iconst (-1), 1) := by decide +kernel
theorem dX9_judgePresent_10 : decode cX9_judgePresent 10 = .ok (.invokevirtual 280, 3) := by decide +kernel
theorem cw_RX9_280 : zCwV RX9 280 mX7_weigh := zall [834, 835, 836, 39, 837] (by decide +kernel) (by decide +kernel)
theorem dX9_judgePresent_13 : decode cX9_judgePresent 13 = .ok (.return_, 1) := by decide +kernel
abbrev mX9_printerCount : zM := (yX9_printerCount, cX9_printerCount, 1, (some .int), [])
theorem okX9_printerCount : zMok mX9_printerCount 0 := ⟨by decide, by decide, by decide +kernel⟩
theorem dX9_printerCount_0 : decode cX9_printerCount 0 = .ok (.aload_n 0, 1) := by decide +kernel
theorem dX9_printerCount_1 : decode cX9_printerCount 1 = .ok (.getfield 33, 3) := by decide +kernel
theorem dX9_printerCount_4 : decode cX9_printerCount 4 = .ok (.getfield 134, 3) := by decide +kernel
theorem dX9_printerCount_7 : decode cX9_printerCount 7 = .ok (.getfield 160, 3) := by decide +kernel
theorem fl_RX9_160 : zFl RX9 160 0 0 := ⟨RX0, TX0, 13, rfl, by decide, zmem1 106 (by decide +kernel) rfl, rfl⟩
theorem dX9_printerCount_10 : decode cX9_printerCount 10 = .ok (.ireturn, 1) := by decide +kernel
abbrev mX9_clueCount : zM := (yX9_clueCount, cX9_clueCount, 1, (some .int), [])
theorem okX9_clueCount : zMok mX9_clueCount 0 := ⟨by decide, by decide, by decide +kernel⟩
theorem dX9_clueCount_0 : decode cX9_clueCount 0 = .ok (.aload_n 0, 1) := by decide +kernel
theorem dX9_clueCount_1 : decode cX9_clueCount 1 = .ok (.getfield 33, 3) := by decide +kernel
theorem dX9_clueCount_4 : decode cX9_clueCount 4 = .ok (.getfield 125, 3) := by decide +kernel
theorem dX9_clueCount_7 : decode cX9_clueCount 7 = .ok (.getfield 129, 3) := by decide +kernel
theorem fl_RX9_129 : zFl RX9 129 2 0 := ⟨RX2, TX2, 8, rfl, by decide, zmem1 165 (by decide +kernel) rfl, rfl⟩
theorem dX9_clueCount_10 : decode cX9_clueCount 10 = .ok (.ireturn, 1) := by decide +kernel
abbrev mX9_cityOf : zM := (yX9_cityOf, cX9_cityOf, 2, (some .int), [])
theorem okX9_cityOf : zMok mX9_cityOf 1 := ⟨by decide, by decide, by decide +kernel⟩
theorem dX9_cityOf_0 : decode cX9_cityOf 0 = .ok (.aload_n 0, 1) := by decide +kernel
theorem dX9_cityOf_1 : decode cX9_cityOf 1 = .ok (.iload_n 1, 1) := by decide +kernel
theorem dX9_cityOf_2 : decode cX9_cityOf 2 = .ok (.invokevirtual 172, 3) := by decide +kernel
theorem cw_RX9_172 : zCwV RX9 172 mX9_requirePrinter := zall [1048, 1050, 17, 31, 1051] (by decide +kernel) (by decide +kernel)
theorem dX9_cityOf_5 : decode cX9_cityOf 5 = .ok (.aload_n 0, 1) := by decide +kernel
theorem dX9_cityOf_6 : decode cX9_cityOf 6 = .ok (.getfield 33, 3) := by decide +kernel
theorem dX9_cityOf_9 : decode cX9_cityOf 9 = .ok (.getfield 134, 3) := by decide +kernel
theorem dX9_cityOf_12 : decode cX9_cityOf 12 = .ok (.getfield 175, 3) := by decide +kernel
theorem fl_RX9_175 : zFl RX9 175 0 2 := ⟨RX0, TX0, 13, rfl, by decide, zmem1 110 (by decide +kernel) rfl, rfl⟩
theorem dX9_cityOf_15 : decode cX9_cityOf 15 = .ok (.iload_n 1, 1) := by decide +kernel
theorem dX9_cityOf_16 : decode cX9_cityOf 16 = .ok (.iaload, 1) := by decide +kernel
theorem dX9_cityOf_17 : decode cX9_cityOf 17 = .ok (.ireturn, 1) := by decide +kernel
abbrev mX9_isActive : zM := (yX9_isActive, cX9_isActive, 3, (some .boolean), [])
theorem okX9_isActive : zMok mX9_isActive 2 := ⟨by decide, by decide, by decide +kernel⟩
theorem dX9_isActive_0 : decode cX9_isActive 0 = .ok (.aload_n 0, 1) := by decide +kernel
theorem dX9_isActive_1 : decode cX9_isActive 1 = .ok (.iload_n 1, 1) := by decide +kernel
theorem dX9_isActive_2 : decode cX9_isActive 2 = .ok (.invokevirtual 172, 3) := by decide +kernel
theorem dX9_isActive_5 : decode cX9_isActive 5 = .ok (.iload_n 2, 1) := by decide +kernel
theorem dX9_isActive_6 : decode cX9_isActive 6 = .ok (.invokestatic 179, 3) := by decide +kernel
theorem cw_RX9_179 : zCwS RX9 179 mX9_requireYear := zall [1073, 1074, 31, 1075] (by decide +kernel) (by decide +kernel)
theorem dX9_isActive_9 : decode cX9_isActive 9 = .ok (.aload_n 0, 1) := by decide +kernel
theorem dX9_isActive_10 : decode cX9_isActive 10 = .ok (.getfield 33, 3) := by decide +kernel
theorem dX9_isActive_13 : decode cX9_isActive 13 = .ok (.getfield 134, 3) := by decide +kernel
theorem dX9_isActive_16 : decode cX9_isActive 16 = .ok (.iload_n 1, 1) := by decide +kernel
theorem dX9_isActive_17 : decode cX9_isActive 17 = .ok (.iload_n 2, 1) := by decide +kernel
theorem dX9_isActive_18 : decode cX9_isActive 18 = .ok (.invokevirtual 182, 3) := by decide +kernel
theorem cw_RX9_182 : zCwV RX9 182 mX0_worksIn := zall [1078, 1079, 1080, 35, 1081] (by decide +kernel) (by decide +kernel)
theorem dX9_isActive_21 : decode cX9_isActive 21 = .ok (.ireturn, 1) := by decide +kernel
abbrev mX9_hasDevice : zM := (yX9_hasDevice, cX9_hasDevice, 3, (some .boolean), [])
theorem okX9_hasDevice : zMok mX9_hasDevice 2 := ⟨by decide, by decide, by decide +kernel⟩
theorem dX9_hasDevice_0 : decode cX9_hasDevice 0 = .ok (.aload_n 0, 1) := by decide +kernel
theorem dX9_hasDevice_1 : decode cX9_hasDevice 1 = .ok (.iload_n 1, 1) := by decide +kernel
theorem dX9_hasDevice_2 : decode cX9_hasDevice 2 = .ok (.invokevirtual 172, 3) := by decide +kernel
theorem dX9_hasDevice_5 : decode cX9_hasDevice 5 = .ok (.aload_n 0, 1) := by decide +kernel
theorem dX9_hasDevice_6 : decode cX9_hasDevice 6 = .ok (.getfield 33, 3) := by decide +kernel
theorem dX9_hasDevice_9 : decode cX9_hasDevice 9 = .ok (.getfield 134, 3) := by decide +kernel
theorem dX9_hasDevice_12 : decode cX9_hasDevice 12 = .ok (.iload_n 1, 1) := by decide +kernel
theorem dX9_hasDevice_13 : decode cX9_hasDevice 13 = .ok (.iload_n 2, 1) := by decide +kernel
theorem dX9_hasDevice_14 : decode cX9_hasDevice 14 = .ok (.invokevirtual 186, 3) := by decide +kernel
theorem cw_RX9_186 : zCwV RX9 186 mX0_ownsDevice := zall [1054, 898, 899, 35, 900] (by decide +kernel) (by decide +kernel)
theorem dX9_hasDevice_17 : decode cX9_hasDevice 17 = .ok (.ireturn, 1) := by decide +kernel
abbrev mX9_hasTypeface : zM := (yX9_hasTypeface, cX9_hasTypeface, 3, (some .boolean), [])
theorem okX9_hasTypeface : zMok mX9_hasTypeface 2 := ⟨by decide, by decide, by decide +kernel⟩
theorem dX9_hasTypeface_0 : decode cX9_hasTypeface 0 = .ok (.aload_n 0, 1) := by decide +kernel
theorem dX9_hasTypeface_1 : decode cX9_hasTypeface 1 = .ok (.iload_n 1, 1) := by decide +kernel
theorem dX9_hasTypeface_2 : decode cX9_hasTypeface 2 = .ok (.invokevirtual 172, 3) := by decide +kernel
theorem dX9_hasTypeface_5 : decode cX9_hasTypeface 5 = .ok (.aload_n 0, 1) := by decide +kernel
theorem dX9_hasTypeface_6 : decode cX9_hasTypeface 6 = .ok (.getfield 33, 3) := by decide +kernel
theorem dX9_hasTypeface_9 : decode cX9_hasTypeface 9 = .ok (.getfield 134, 3) := by decide +kernel
theorem dX9_hasTypeface_12 : decode cX9_hasTypeface 12 = .ok (.iload_n 1, 1) := by decide +kernel
theorem dX9_hasTypeface_13 : decode cX9_hasTypeface 13 = .ok (.iload_n 2, 1) := by decide +kernel
theorem dX9_hasTypeface_14 : decode cX9_hasTypeface 14 = .ok (.invokevirtual 189, 3) := by decide +kernel
theorem cw_RX9_189 : zCwV RX9 189 mX0_ownsTypeface := zall [1115, 902, 903, 35, 904] (by decide +kernel) (by decide +kernel)
theorem dX9_hasTypeface_17 : decode cX9_hasTypeface 17 = .ok (.ireturn, 1) := by decide +kernel
abbrev mX9_deviceOwners : zM := (yX9_deviceOwners, cX9_deviceOwners, 2, (some .int), [])
theorem okX9_deviceOwners : zMok mX9_deviceOwners 1 := ⟨by decide, by decide, by decide +kernel⟩
theorem dX9_deviceOwners_0 : decode cX9_deviceOwners 0 = .ok (.aload_n 0, 1) := by decide +kernel
theorem dX9_deviceOwners_1 : decode cX9_deviceOwners 1 = .ok (.getfield 33, 3) := by decide +kernel
theorem dX9_deviceOwners_4 : decode cX9_deviceOwners 4 = .ok (.getfield 134, 3) := by decide +kernel
theorem dX9_deviceOwners_7 : decode cX9_deviceOwners 7 = .ok (.iload_n 1, 1) := by decide +kernel
theorem dX9_deviceOwners_8 : decode cX9_deviceOwners 8 = .ok (.invokevirtual 192, 3) := by decide +kernel
theorem cw_RX9_192 : zCwV RX9 192 mX0_ownersOf := zall [984, 985, 986, 35, 987] (by decide +kernel) (by decide +kernel)
theorem dX9_deviceOwners_11 : decode cX9_deviceOwners 11 = .ok (.ireturn, 1) := by decide +kernel
abbrev mX9_kindOf : zM := (yX9_kindOf, cX9_kindOf, 2, (some .int), [])
theorem okX9_kindOf : zMok mX9_kindOf 1 := ⟨by decide, by decide, by decide +kernel⟩
theorem dX9_kindOf_0 : decode cX9_kindOf 0 = .ok (.aload_n 0, 1) := by decide +kernel
theorem dX9_kindOf_1 : decode cX9_kindOf 1 = .ok (.iload_n 1, 1) := by decide +kernel
theorem dX9_kindOf_2 : decode cX9_kindOf 2 = .ok (.invokevirtual 204, 3) := by decide +kernel
theorem cw_RX9_204 : zCwV RX9 204 mX9_requireClue := zall [961, 963, 16, 31, 964] (by decide +kernel) (by decide +kernel)
theorem dX9_kindOf_5 : decode cX9_kindOf 5 = .ok (.aload_n 0, 1) := by decide +kernel
theorem dX9_kindOf_6 : decode cX9_kindOf 6 = .ok (.getfield 33, 3) := by decide +kernel
theorem dX9_kindOf_9 : decode cX9_kindOf 9 = .ok (.getfield 125, 3) := by decide +kernel
theorem dX9_kindOf_12 : decode cX9_kindOf 12 = .ok (.getfield 207, 3) := by decide +kernel
theorem fl_RX9_207 : zFl RX9 207 2 2 := ⟨RX2, TX2, 8, rfl, by decide, zmem1 170 (by decide +kernel) rfl, rfl⟩
theorem dX9_kindOf_15 : decode cX9_kindOf 15 = .ok (.iload_n 1, 1) := by decide +kernel
theorem dX9_kindOf_16 : decode cX9_kindOf 16 = .ok (.iaload, 1) := by decide +kernel
theorem dX9_kindOf_17 : decode cX9_kindOf 17 = .ok (.ireturn, 1) := by decide +kernel
abbrev mX9_valueOf : zM := (yX9_valueOf, cX9_valueOf, 2, (some .int), [])
theorem okX9_valueOf : zMok mX9_valueOf 1 := ⟨by decide, by decide, by decide +kernel⟩
theorem dX9_valueOf_0 : decode cX9_valueOf 0 = .ok (.aload_n 0, 1) := by decide +kernel
theorem dX9_valueOf_1 : decode cX9_valueOf 1 = .ok (.iload_n 1, 1) := by decide +kernel
theorem dX9_valueOf_2 : decode cX9_valueOf 2 = .ok (.invokevirtual 204, 3) := by decide +kernel
theorem dX9_valueOf_5 : decode cX9_valueOf 5 = .ok (.aload_n 0, 1) := by decide +kernel
theorem dX9_valueOf_6 : decode cX9_valueOf 6 = .ok (.getfield 33, 3) := by decide +kernel
theorem dX9_valueOf_9 : decode cX9_valueOf 9 = .ok (.getfield 125, 3) := by decide +kernel
theorem dX9_valueOf_12 : decode cX9_valueOf 12 = .ok (.getfield 210, 3) := by decide +kernel
theorem fl_RX9_210 : zFl RX9 210 2 3 := ⟨RX2, TX2, 8, rfl, by decide, zmem1 173 (by decide +kernel) rfl, rfl⟩
theorem dX9_valueOf_15 : decode cX9_valueOf 15 = .ok (.iload_n 1, 1) := by decide +kernel
theorem dX9_valueOf_16 : decode cX9_valueOf 16 = .ok (.iaload, 1) := by decide +kernel
theorem dX9_valueOf_17 : decode cX9_valueOf 17 = .ok (.ireturn, 1) := by decide +kernel
abbrev mX9_pageOf : zM := (yX9_pageOf, cX9_pageOf, 2, (some .int), [])
theorem okX9_pageOf : zMok mX9_pageOf 1 := ⟨by decide, by decide, by decide +kernel⟩
theorem dX9_pageOf_0 : decode cX9_pageOf 0 = .ok (.aload_n 0, 1) := by decide +kernel
theorem dX9_pageOf_1 : decode cX9_pageOf 1 = .ok (.iload_n 1, 1) := by decide +kernel
theorem dX9_pageOf_2 : decode cX9_pageOf 2 = .ok (.invokevirtual 204, 3) := by decide +kernel
theorem dX9_pageOf_5 : decode cX9_pageOf 5 = .ok (.aload_n 0, 1) := by decide +kernel
theorem dX9_pageOf_6 : decode cX9_pageOf 6 = .ok (.getfield 33, 3) := by decide +kernel
theorem dX9_pageOf_9 : decode cX9_pageOf 9 = .ok (.getfield 125, 3) := by decide +kernel
theorem dX9_pageOf_12 : decode cX9_pageOf 12 = .ok (.getfield 213, 3) := by decide +kernel
theorem fl_RX9_213 : zFl RX9 213 2 1 := ⟨RX2, TX2, 8, rfl, by decide, zmem1 167 (by decide +kernel) rfl, rfl⟩
theorem dX9_pageOf_15 : decode cX9_pageOf 15 = .ok (.iload_n 1, 1) := by decide +kernel
theorem dX9_pageOf_16 : decode cX9_pageOf 16 = .ok (.iaload, 1) := by decide +kernel
theorem dX9_pageOf_17 : decode cX9_pageOf 17 = .ok (.ireturn, 1) := by decide +kernel
abbrev mX9_weightOf : zM := (yX9_weightOf, cX9_weightOf, 2, (some .int), [])
theorem okX9_weightOf : zMok mX9_weightOf 1 := ⟨by decide, by decide, by decide +kernel⟩
theorem dX9_weightOf_0 : decode cX9_weightOf 0 = .ok (.aload_n 0, 1) := by decide +kernel
theorem dX9_weightOf_1 : decode cX9_weightOf 1 = .ok (.iload_n 1, 1) := by decide +kernel
theorem dX9_weightOf_2 : decode cX9_weightOf 2 = .ok (.invokevirtual 204, 3) := by decide +kernel
theorem dX9_weightOf_5 : decode cX9_weightOf 5 = .ok (.aload_n 0, 1) := by decide +kernel
theorem dX9_weightOf_6 : decode cX9_weightOf 6 = .ok (.getfield 33, 3) := by decide +kernel
theorem dX9_weightOf_9 : decode cX9_weightOf 9 = .ok (.getfield 125, 3) := by decide +kernel
theorem dX9_weightOf_12 : decode cX9_weightOf 12 = .ok (.getfield 216, 3) := by decide +kernel
theorem fl_RX9_216 : zFl RX9 216 2 4 := ⟨RX2, TX2, 8, rfl, by decide, zmem1 177 (by decide +kernel) rfl, rfl⟩
theorem dX9_weightOf_15 : decode cX9_weightOf 15 = .ok (.iload_n 1, 1) := by decide +kernel
theorem dX9_weightOf_16 : decode cX9_weightOf 16 = .ok (.iaload, 1) := by decide +kernel
theorem dX9_weightOf_17 : decode cX9_weightOf 17 = .ok (.ireturn, 1) := by decide +kernel
abbrev mX9_isRead : zM := (yX9_isRead, cX9_isRead, 2, (some .boolean), [])
theorem okX9_isRead : zMok mX9_isRead 1 := ⟨by decide, by decide, by decide +kernel⟩
theorem dX9_isRead_0 : decode cX9_isRead 0 = .ok (.aload_n 0, 1) := by decide +kernel
theorem dX9_isRead_1 : decode cX9_isRead 1 = .ok (.iload_n 1, 1) := by decide +kernel
theorem dX9_isRead_2 : decode cX9_isRead 2 = .ok (.invokevirtual 204, 3) := by decide +kernel
theorem dX9_isRead_5 : decode cX9_isRead 5 = .ok (.aload_n 0, 1) := by decide +kernel
theorem dX9_isRead_6 : decode cX9_isRead 6 = .ok (.getfield 33, 3) := by decide +kernel
theorem dX9_isRead_9 : decode cX9_isRead 9 = .ok (.getfield 125, 3) := by decide +kernel
theorem dX9_isRead_12 : decode cX9_isRead 12 = .ok (.getfield 219, 3) := by decide +kernel
theorem fl_RX9_219 : zFl RX9 219 2 5 := ⟨RX2, TX2, 8, rfl, by decide, zmem1 179 (by decide +kernel) rfl, rfl⟩
theorem dX9_isRead_15 : decode cX9_isRead 15 = .ok (.iload_n 1, 1) := by decide +kernel
theorem dX9_isRead_16 : decode cX9_isRead 16 = .ok (.baload, 1) := by decide +kernel
theorem dX9_isRead_17 : decode cX9_isRead 17 = .ok (.ireturn, 1) := by decide +kernel
abbrev mX9_isAside : zM := (yX9_isAside, cX9_isAside, 2, (some .boolean), [])
theorem okX9_isAside : zMok mX9_isAside 1 := ⟨by decide, by decide, by decide +kernel⟩
theorem dX9_isAside_0 : decode cX9_isAside 0 = .ok (.aload_n 0, 1) := by decide +kernel
theorem dX9_isAside_1 : decode cX9_isAside 1 = .ok (.iload_n 1, 1) := by decide +kernel
theorem dX9_isAside_2 : decode cX9_isAside 2 = .ok (.invokevirtual 204, 3) := by decide +kernel
theorem dX9_isAside_5 : decode cX9_isAside 5 = .ok (.aload_n 0, 1) := by decide +kernel
theorem dX9_isAside_6 : decode cX9_isAside 6 = .ok (.getfield 33, 3) := by decide +kernel
theorem dX9_isAside_9 : decode cX9_isAside 9 = .ok (.getfield 125, 3) := by decide +kernel
theorem dX9_isAside_12 : decode cX9_isAside 12 = .ok (.getfield 223, 3) := by decide +kernel
theorem fl_RX9_223 : zFl RX9 223 2 6 := ⟨RX2, TX2, 8, rfl, by decide, zmem1 183 (by decide +kernel) rfl, rfl⟩
theorem dX9_isAside_15 : decode cX9_isAside 15 = .ok (.iload_n 1, 1) := by decide +kernel
theorem dX9_isAside_16 : decode cX9_isAside 16 = .ok (.baload, 1) := by decide +kernel
theorem dX9_isAside_17 : decode cX9_isAside 17 = .ok (.ireturn, 1) := by decide +kernel
abbrev mX9_clueInOrder : zM := (yX9_clueInOrder, cX9_clueInOrder, 2, (some .int), [])
theorem okX9_clueInOrder : zMok mX9_clueInOrder 1 := ⟨by decide, by decide, by decide +kernel⟩
theorem dX9_clueInOrder_0 : decode cX9_clueInOrder 0 = .ok (.aload_n 0, 1) := by decide +kernel
theorem dX9_clueInOrder_1 : decode cX9_clueInOrder 1 = .ok (.getfield 33, 3) := by decide +kernel
theorem dX9_clueInOrder_4 : decode cX9_clueInOrder 4 = .ok (.getfield 125, 3) := by decide +kernel
theorem dX9_clueInOrder_7 : decode cX9_clueInOrder 7 = .ok (.iload_n 1, 1) := by decide +kernel
theorem dX9_clueInOrder_8 : decode cX9_clueInOrder 8 = .ok (.invokevirtual 226, 3) := by decide +kernel
theorem cw_RX9_226 : zCwV RX9 226 mX2_clueAt := zall [1145, 508, 509, 36, 510] (by decide +kernel) (by decide +kernel)
theorem dX9_clueInOrder_11 : decode cX9_clueInOrder 11 = .ok (.ireturn, 1) := by decide +kernel
abbrev mX9_nextClue : zM := (yX9_nextClue, cX9_nextClue, 1, (some .int), [])
theorem okX9_nextClue : zMok mX9_nextClue 0 := ⟨by decide, by decide, by decide +kernel⟩
theorem dX9_nextClue_0 : decode cX9_nextClue 0 = .ok (.aload_n 0, 1) := by decide +kernel
theorem dX9_nextClue_1 : decode cX9_nextClue 1 = .ok (.getfield 33, 3) := by decide +kernel
theorem dX9_nextClue_4 : decode cX9_nextClue 4 = .ok (.getfield 125, 3) := by decide +kernel
theorem dX9_nextClue_7 : decode cX9_nextClue 7 = .ok (.invokevirtual 229, 3) := by decide +kernel
theorem cw_RX9_229 : zCwV RX9 229 mX2_firstUnread := zall [1172, 1173, 1174, 36, 1175] (by decide +kernel) (by decide +kernel)
theorem dX9_nextClue_10 : decode cX9_nextClue 10 = .ok (.ireturn, 1) := by decide +kernel
abbrev mX9_countingWeight : zM := (yX9_countingWeight, cX9_countingWeight, 3, (some .int), [])
theorem okX9_countingWeight : zMok mX9_countingWeight 0 := ⟨by decide, by decide, by decide +kernel⟩
theorem dX9_countingWeight_0 : decode cX9_countingWeight 0 = .ok (.iconst 0, 1) := by decide +kernel
theorem dX9_countingWeight_1 : decode cX9_countingWeight 1 = .ok (.istore_n 1, 1) := by decide +kernel
theorem dX9_countingWeight_2 : decode cX9_countingWeight 2 = .ok (.iconst 0, 1) := by decide +kernel
theorem dX9_countingWeight_3 : decode cX9_countingWeight 3 = .ok (.istore_n 2, 1) := by decide +kernel
theorem dX9_countingWeight_4 : decode cX9_countingWeight 4 = .ok (.iload_n 2, 1) := by decide +kernel
theorem dX9_countingWeight_5 : decode cX9_countingWeight 5 = .ok (.aload_n 0, 1) := by decide +kernel
theorem dX9_countingWeight_6 : decode cX9_countingWeight 6 = .ok (.getfield 33, 3) := by decide +kernel
theorem dX9_countingWeight_9 : decode cX9_countingWeight 9 = .ok (.getfield 125, 3) := by decide +kernel
theorem dX9_countingWeight_12 : decode cX9_countingWeight 12 = .ok (.getfield 129, 3) := by decide +kernel
theorem dX9_countingWeight_15 : decode cX9_countingWeight 15 = .ok (.if_icmp .ge 38, 3) := by decide +kernel
theorem dX9_countingWeight_53 : decode cX9_countingWeight 53 = .ok (.iload_n 1, 1) := by decide +kernel
theorem dX9_countingWeight_54 : decode cX9_countingWeight 54 = .ok (.ireturn, 1) := by decide +kernel
theorem dX9_countingWeight_18 : decode cX9_countingWeight 18 = .ok (.aload_n 0, 1) := by decide +kernel
theorem dX9_countingWeight_19 : decode cX9_countingWeight 19 = .ok (.getfield 33, 3) := by decide +kernel
theorem dX9_countingWeight_22 : decode cX9_countingWeight 22 = .ok (.getfield 125, 3) := by decide +kernel
theorem dX9_countingWeight_25 : decode cX9_countingWeight 25 = .ok (.iload_n 2, 1) := by decide +kernel
theorem dX9_countingWeight_26 : decode cX9_countingWeight 26 = .ok (.invokevirtual 233, 3) := by decide +kernel
theorem cw_RX9_233 : zCwV RX9 233 mX2_counts := zall [1007, 1008, 1009, 36, 1010] (by decide +kernel) (by decide +kernel)
theorem dX9_countingWeight_29 : decode cX9_countingWeight 29 = .ok (.ifCond .eq 18, 3) := by decide +kernel
theorem dX9_countingWeight_47 : decode cX9_countingWeight 47 = .ok (.iinc 2 1, 3) := by decide +kernel
theorem dX9_countingWeight_50 : decode cX9_countingWeight 50 = .ok (.goto (-46), 3) := by decide +kernel
theorem dX9_countingWeight_32 : decode cX9_countingWeight 32 = .ok (.iload_n 1, 1) := by decide +kernel
theorem dX9_countingWeight_33 : decode cX9_countingWeight 33 = .ok (.aload_n 0, 1) := by decide +kernel
theorem dX9_countingWeight_34 : decode cX9_countingWeight 34 = .ok (.getfield 33, 3) := by decide +kernel
theorem dX9_countingWeight_37 : decode cX9_countingWeight 37 = .ok (.getfield 125, 3) := by decide +kernel
theorem dX9_countingWeight_40 : decode cX9_countingWeight 40 = .ok (.getfield 216, 3) := by decide +kernel
theorem dX9_countingWeight_43 : decode cX9_countingWeight 43 = .ok (.iload_n 2, 1) := by decide +kernel
theorem dX9_countingWeight_44 : decode cX9_countingWeight 44 = .ok (.iaload, 1) := by decide +kernel
theorem dX9_countingWeight_45 : decode cX9_countingWeight 45 = .ok (.iadd, 1) := by decide +kernel
theorem dX9_countingWeight_46 : decode cX9_countingWeight 46 = .ok (.istore_n 1, 1) := by decide +kernel
abbrev mX9_explains : zM := (yX9_explains, cX9_explains, 4, (some .boolean), [])
theorem okX9_explains : zMok mX9_explains 3 := ⟨by decide, by decide, by decide +kernel⟩
theorem dX9_explains_0 : decode cX9_explains 0 = .ok (.aload_n 0, 1) := by decide +kernel
theorem dX9_explains_1 : decode cX9_explains 1 = .ok (.iload_n 1, 1) := by decide +kernel
theorem dX9_explains_2 : decode cX9_explains 2 = .ok (.invokevirtual 172, 3) := by decide +kernel
theorem dX9_explains_5 : decode cX9_explains 5 = .ok (.aload_n 0, 1) := by decide +kernel
theorem dX9_explains_6 : decode cX9_explains 6 = .ok (.iload_n 3, 1) := by decide +kernel
theorem dX9_explains_7 : decode cX9_explains 7 = .ok (.invokevirtual 204, 3) := by decide +kernel
theorem dX9_explains_10 : decode cX9_explains 10 = .ok (.iload_n 2, 1) := by decide +kernel
theorem dX9_explains_11 : decode cX9_explains 11 = .ok (.invokestatic 179, 3) := by decide +kernel
theorem dX9_explains_14 : decode cX9_explains 14 = .ok (.aload_n 0, 1) := by decide +kernel
theorem dX9_explains_15 : decode cX9_explains 15 = .ok (.getfield 33, 3) := by decide +kernel
theorem dX9_explains_18 : decode cX9_explains 18 = .ok (.getfield 134, 3) := by decide +kernel
theorem dX9_explains_21 : decode cX9_explains 21 = .ok (.iload_n 1, 1) := by decide +kernel
theorem dX9_explains_22 : decode cX9_explains 22 = .ok (.iload_n 2, 1) := by decide +kernel
theorem dX9_explains_23 : decode cX9_explains 23 = .ok (.invokevirtual 182, 3) := by decide +kernel
theorem dX9_explains_26 : decode cX9_explains 26 = .ok (.ifCond .eq 20, 3) := by decide +kernel
theorem dX9_explains_46 : decode cX9_explains 46 = .ok (.iconst 0, 1) := by decide +kernel
theorem dX9_explains_47 : decode cX9_explains 47 = .ok (.ireturn, 1) := by decide +kernel
theorem dX9_explains_29 : decode cX9_explains 29 = .ok (.aload_n 0, 1) := by decide +kernel
theorem dX9_explains_30 : decode cX9_explains 30 = .ok (.getfield 33, 3) := by decide +kernel
theorem dX9_explains_33 : decode cX9_explains 33 = .ok (.iload_n 1, 1) := by decide +kernel
theorem dX9_explains_34 : decode cX9_explains 34 = .ok (.iload_n 2, 1) := by decide +kernel
theorem dX9_explains_35 : decode cX9_explains 35 = .ok (.iload_n 3, 1) := by decide +kernel
theorem dX9_explains_36 : decode cX9_explains 36 = .ok (.invokevirtual 236, 3) := by decide +kernel
theorem cw_RX9_236 : zCwV RX9 236 mX1_candidateFits := zall [1089, 951, 952, 34, 953] (by decide +kernel) (by decide +kernel)
theorem dX9_explains_39 : decode cX9_explains 39 = .ok (.ifCond .eq 7, 3) := by decide +kernel
theorem dX9_explains_42 : decode cX9_explains 42 = .ok (.iconst 1, 1) := by decide +kernel
theorem dX9_explains_43 : decode cX9_explains 43 = .ok (.goto 4, 3) := by decide +kernel
abbrev mX9_score : zM := (yX9_score, cX9_score, 5, (some .int), [])
theorem okX9_score : zMok mX9_score 2 := ⟨by decide, by decide, by decide +kernel⟩
theorem dX9_score_0 : decode cX9_score 0 = .ok (.aload_n 0, 1) := by decide +kernel
theorem dX9_score_1 : decode cX9_score 1 = .ok (.iload_n 1, 1) := by decide +kernel
theorem dX9_score_2 : decode cX9_score 2 = .ok (.invokevirtual 172, 3) := by decide +kernel
theorem dX9_score_5 : decode cX9_score 5 = .ok (.iload_n 2, 1) := by decide +kernel
theorem dX9_score_6 : decode cX9_score 6 = .ok (.invokestatic 179, 3) := by decide +kernel
theorem dX9_score_9 : decode cX9_score 9 = .ok (.aload_n 0, 1) := by decide +kernel
theorem dX9_score_10 : decode cX9_score 10 = .ok (.getfield 33, 3) := by decide +kernel
theorem dX9_score_13 : decode cX9_score 13 = .ok (.getfield 134, 3) := by decide +kernel
theorem dX9_score_16 : decode cX9_score 16 = .ok (.iload_n 1, 1) := by decide +kernel
theorem dX9_score_17 : decode cX9_score 17 = .ok (.iload_n 2, 1) := by decide +kernel
theorem dX9_score_18 : decode cX9_score 18 = .ok (.invokevirtual 182, 3) := by decide +kernel
theorem dX9_score_21 : decode cX9_score 21 = .ok (.ifCond .ne 5, 3) := by decide +kernel
theorem dX9_score_26 : decode cX9_score 26 = .ok (.iconst 0, 1) := by decide +kernel
theorem dX9_score_27 : decode cX9_score 27 = .ok (.istore_n 3, 1) := by decide +kernel
theorem dX9_score_28 : decode cX9_score 28 = .ok (.iconst 0, 1) := by decide +kernel
theorem dX9_score_29 : decode cX9_score 29 = .ok (.istore 4, 2) := by decide +kernel
theorem dX9_score_31 : decode cX9_score 31 = .ok (.iload 4, 2) := by decide +kernel
theorem dX9_score_33 : decode cX9_score 33 = .ok (.aload_n 0, 1) := by decide +kernel
theorem dX9_score_34 : decode cX9_score 34 = .ok (.getfield 33, 3) := by decide +kernel
theorem dX9_score_37 : decode cX9_score 37 = .ok (.getfield 125, 3) := by decide +kernel
theorem dX9_score_40 : decode cX9_score 40 = .ok (.getfield 129, 3) := by decide +kernel
theorem dX9_score_43 : decode cX9_score 43 = .ok (.if_icmp .ge 54, 3) := by decide +kernel
theorem dX9_score_97 : decode cX9_score 97 = .ok (.iload_n 3, 1) := by decide +kernel
theorem dX9_score_98 : decode cX9_score 98 = .ok (.ireturn, 1) := by decide +kernel
theorem dX9_score_46 : decode cX9_score 46 = .ok (.aload_n 0, 1) := by decide +kernel
theorem dX9_score_47 : decode cX9_score 47 = .ok (.getfield 33, 3) := by decide +kernel
theorem dX9_score_50 : decode cX9_score 50 = .ok (.getfield 125, 3) := by decide +kernel
theorem dX9_score_53 : decode cX9_score 53 = .ok (.iload 4, 2) := by decide +kernel
theorem dX9_score_55 : decode cX9_score 55 = .ok (.invokevirtual 233, 3) := by decide +kernel
theorem dX9_score_58 : decode cX9_score 58 = .ok (.ifCond .eq 33, 3) := by decide +kernel
theorem dX9_score_91 : decode cX9_score 91 = .ok (.iinc 4 1, 3) := by decide +kernel
theorem dX9_score_94 : decode cX9_score 94 = .ok (.goto (-63), 3) := by decide +kernel
theorem dX9_score_61 : decode cX9_score 61 = .ok (.aload_n 0, 1) := by decide +kernel
theorem dX9_score_62 : decode cX9_score 62 = .ok (.getfield 33, 3) := by decide +kernel
theorem dX9_score_65 : decode cX9_score 65 = .ok (.iload_n 1, 1) := by decide +kernel
theorem dX9_score_66 : decode cX9_score 66 = .ok (.iload_n 2, 1) := by decide +kernel
theorem dX9_score_67 : decode cX9_score 67 = .ok (.iload 4, 2) := by decide +kernel
theorem dX9_score_69 : decode cX9_score 69 = .ok (.invokevirtual 236, 3) := by decide +kernel
theorem dX9_score_72 : decode cX9_score 72 = .ok (.ifCond .eq 19, 3) := by decide +kernel
theorem dX9_score_75 : decode cX9_score 75 = .ok (.iload_n 3, 1) := by decide +kernel
theorem dX9_score_76 : decode cX9_score 76 = .ok (.aload_n 0, 1) := by decide +kernel
theorem dX9_score_77 : decode cX9_score 77 = .ok (.getfield 33, 3) := by decide +kernel
theorem dX9_score_80 : decode cX9_score 80 = .ok (.getfield 125, 3) := by decide +kernel
theorem dX9_score_83 : decode cX9_score 83 = .ok (.getfield 216, 3) := by decide +kernel
theorem dX9_score_86 : decode cX9_score 86 = .ok (.iload 4, 2) := by decide +kernel
theorem dX9_score_88 : decode cX9_score 88 = .ok (.iaload, 1) := by decide +kernel
theorem dX9_score_89 : decode cX9_score 89 = .ok (.iadd, 1) := by decide +kernel
theorem dX9_score_90 : decode cX9_score 90 = .ok (.istore_n 3, 1) := by decide +kernel
theorem dX9_score_24 : decode cX9_score 24 = .ok (.iconst (-1), 1) := by decide +kernel
theorem dX9_score_25 : decode cX9_score 25 = .ok (.ireturn, 1) := by decide +kernel
abbrev mX9_bestYear : zM := (yX9_bestYear, cX9_bestYear, 2, (some .int), [])
theorem okX9_bestYear : zMok mX9_bestYear 1 := ⟨by decide, by decide, by decide +kernel⟩
theorem dX9_bestYear_0 : decode cX9_bestYear 0 = .ok (.aload_n 0, 1) := by decide +kernel
theorem dX9_bestYear_1 : decode cX9_bestYear 1 = .ok (.iload_n 1, 1) := by decide +kernel
theorem dX9_bestYear_2 : decode cX9_bestYear 2 = .ok (.invokevirtual 172, 3) := by decide +kernel
theorem dX9_bestYear_5 : decode cX9_bestYear 5 = .ok (.aload_n 0, 1) := by decide +kernel
theorem dX9_bestYear_6 : decode cX9_bestYear 6 = .ok (.invokevirtual 240, 3) := by decide +kernel
theorem cw_RX9_240 : zCwV RX9 240 mX9_judgePresent := zall [830, 832, 10, 31, 833] (by decide +kernel) (by decide +kernel)
theorem dX9_bestYear_9 : decode cX9_bestYear 9 = .ok (.aload_n 0, 1) := by decide +kernel
theorem dX9_bestYear_10 : decode cX9_bestYear 10 = .ok (.getfield 54, 3) := by decide +kernel
theorem dX9_bestYear_13 : decode cX9_bestYear 13 = .ok (.getfield 243, 3) := by decide +kernel
theorem fl_RX9_243 : zFl RX9 243 7 2 := ⟨RX7, TX7, 7, rfl, by decide, zmem1 277 (by decide +kernel) rfl, rfl⟩
theorem dX9_bestYear_16 : decode cX9_bestYear 16 = .ok (.iload_n 1, 1) := by decide +kernel
theorem dX9_bestYear_17 : decode cX9_bestYear 17 = .ok (.iaload, 1) := by decide +kernel
theorem dX9_bestYear_18 : decode cX9_bestYear 18 = .ok (.ireturn, 1) := by decide +kernel
abbrev mX9_bestScore : zM := (yX9_bestScore, cX9_bestScore, 2, (some .int), [])
theorem okX9_bestScore : zMok mX9_bestScore 1 := ⟨by decide, by decide, by decide +kernel⟩
theorem dX9_bestScore_0 : decode cX9_bestScore 0 = .ok (.aload_n 0, 1) := by decide +kernel
theorem dX9_bestScore_1 : decode cX9_bestScore 1 = .ok (.iload_n 1, 1) := by decide +kernel
theorem dX9_bestScore_2 : decode cX9_bestScore 2 = .ok (.invokevirtual 172, 3) := by decide +kernel
theorem dX9_bestScore_5 : decode cX9_bestScore 5 = .ok (.aload_n 0, 1) := by decide +kernel
theorem dX9_bestScore_6 : decode cX9_bestScore 6 = .ok (.invokevirtual 240, 3) := by decide +kernel
theorem dX9_bestScore_9 : decode cX9_bestScore 9 = .ok (.aload_n 0, 1) := by decide +kernel
theorem dX9_bestScore_10 : decode cX9_bestScore 10 = .ok (.getfield 54, 3) := by decide +kernel
theorem dX9_bestScore_13 : decode cX9_bestScore 13 = .ok (.getfield 246, 3) := by decide +kernel
theorem fl_RX9_246 : zFl RX9 246 7 3 := ⟨RX7, TX7, 7, rfl, by decide, zmem1 279 (by decide +kernel) rfl, rfl⟩
theorem dX9_bestScore_16 : decode cX9_bestScore 16 = .ok (.iload_n 1, 1) := by decide +kernel
theorem dX9_bestScore_17 : decode cX9_bestScore 17 = .ok (.iaload, 1) := by decide +kernel
theorem dX9_bestScore_18 : decode cX9_bestScore 18 = .ok (.ireturn, 1) := by decide +kernel
abbrev mX9_bestYears : zM := (yX9_bestYears, cX9_bestYears, 2, (some .int), [])
theorem okX9_bestYears : zMok mX9_bestYears 1 := ⟨by decide, by decide, by decide +kernel⟩
theorem dX9_bestYears_0 : decode cX9_bestYears 0 = .ok (.aload_n 0, 1) := by decide +kernel
theorem dX9_bestYears_1 : decode cX9_bestYears 1 = .ok (.iload_n 1, 1) := by decide +kernel
theorem dX9_bestYears_2 : decode cX9_bestYears 2 = .ok (.invokevirtual 172, 3) := by decide +kernel
theorem dX9_bestYears_5 : decode cX9_bestYears 5 = .ok (.aload_n 0, 1) := by decide +kernel
theorem dX9_bestYears_6 : decode cX9_bestYears 6 = .ok (.invokevirtual 240, 3) := by decide +kernel
theorem dX9_bestYears_9 : decode cX9_bestYears 9 = .ok (.aload_n 0, 1) := by decide +kernel
theorem dX9_bestYears_10 : decode cX9_bestYears 10 = .ok (.getfield 54, 3) := by decide +kernel
theorem dX9_bestYears_13 : decode cX9_bestYears 13 = .ok (.getfield 249, 3) := by decide +kernel
theorem fl_RX9_249 : zFl RX9 249 7 4 := ⟨RX7, TX7, 7, rfl, by decide, zmem1 281 (by decide +kernel) rfl, rfl⟩
theorem dX9_bestYears_16 : decode cX9_bestYears 16 = .ok (.iload_n 1, 1) := by decide +kernel
theorem dX9_bestYears_17 : decode cX9_bestYears 17 = .ok (.iaload, 1) := by decide +kernel
theorem dX9_bestYears_18 : decode cX9_bestYears 18 = .ok (.ireturn, 1) := by decide +kernel
abbrev mX9_printerByRank : zM := (yX9_printerByRank, cX9_printerByRank, 2, (some .int), [])
theorem okX9_printerByRank : zMok mX9_printerByRank 1 := ⟨by decide, by decide, by decide +kernel⟩
theorem dX9_printerByRank_0 : decode cX9_printerByRank 0 = .ok (.aload_n 0, 1) := by decide +kernel
theorem dX9_printerByRank_1 : decode cX9_printerByRank 1 = .ok (.invokevirtual 240, 3) := by decide +kernel
theorem dX9_printerByRank_4 : decode cX9_printerByRank 4 = .ok (.aload_n 0, 1) := by decide +kernel
theorem dX9_printerByRank_5 : decode cX9_printerByRank 5 = .ok (.getfield 54, 3) := by decide +kernel
theorem dX9_printerByRank_8 : decode cX9_printerByRank 8 = .ok (.iload_n 1, 1) := by decide +kernel
theorem dX9_printerByRank_9 : decode cX9_printerByRank 9 = .ok (.invokevirtual 252, 3) := by decide +kernel
theorem cw_RX9_252 : zCwV RX9 252 mX7_printerAt := zall [1154, 914, 915, 39, 916] (by decide +kernel) (by decide +kernel)
theorem dX9_printerByRank_12 : decode cX9_printerByRank 12 = .ok (.ireturn, 1) := by decide +kernel
abbrev mX9_verdictPrinter : zM := (yX9_verdictPrinter, cX9_verdictPrinter, 1, (some .int), [])
theorem okX9_verdictPrinter : zMok mX9_verdictPrinter 0 := ⟨by decide, by decide, by decide +kernel⟩
theorem dX9_verdictPrinter_0 : decode cX9_verdictPrinter 0 = .ok (.aload_n 0, 1) := by decide +kernel
theorem dX9_verdictPrinter_1 : decode cX9_verdictPrinter 1 = .ok (.invokevirtual 240, 3) := by decide +kernel
theorem dX9_verdictPrinter_4 : decode cX9_verdictPrinter 4 = .ok (.aload_n 0, 1) := by decide +kernel
theorem dX9_verdictPrinter_5 : decode cX9_verdictPrinter 5 = .ok (.getfield 54, 3) := by decide +kernel
theorem dX9_verdictPrinter_8 : decode cX9_verdictPrinter 8 = .ok (.invokevirtual 255, 3) := by decide +kernel
theorem cw_RX9_255 : zCwV RX9 255 mX7_winner := zall [1128, 943, 944, 39, 945] (by decide +kernel) (by decide +kernel)
theorem dX9_verdictPrinter_11 : decode cX9_verdictPrinter 11 = .ok (.ireturn, 1) := by decide +kernel
abbrev mX9_verdictYear : zM := (yX9_verdictYear, cX9_verdictYear, 1, (some .int), [])
theorem okX9_verdictYear : zMok mX9_verdictYear 0 := ⟨by decide, by decide, by decide +kernel⟩
theorem dX9_verdictYear_0 : decode cX9_verdictYear 0 = .ok (.aload_n 0, 1) := by decide +kernel
theorem dX9_verdictYear_1 : decode cX9_verdictYear 1 = .ok (.invokevirtual 240, 3) := by decide +kernel
theorem dX9_verdictYear_4 : decode cX9_verdictYear 4 = .ok (.aload_n 0, 1) := by decide +kernel
theorem dX9_verdictYear_5 : decode cX9_verdictYear 5 = .ok (.getfield 54, 3) := by decide +kernel
theorem dX9_verdictYear_8 : decode cX9_verdictYear 8 = .ok (.invokevirtual 258, 3) := by decide +kernel
theorem cw_RX9_258 : zCwV RX9 258 mX7_winningYear := zall [1140, 947, 948, 39, 949] (by decide +kernel) (by decide +kernel)
theorem dX9_verdictYear_11 : decode cX9_verdictYear 11 = .ok (.ireturn, 1) := by decide +kernel
abbrev mX9_verdictScore : zM := (yX9_verdictScore, cX9_verdictScore, 1, (some .int), [])
theorem okX9_verdictScore : zMok mX9_verdictScore 0 := ⟨by decide, by decide, by decide +kernel⟩
theorem dX9_verdictScore_0 : decode cX9_verdictScore 0 = .ok (.aload_n 0, 1) := by decide +kernel
theorem dX9_verdictScore_1 : decode cX9_verdictScore 1 = .ok (.invokevirtual 240, 3) := by decide +kernel
theorem dX9_verdictScore_4 : decode cX9_verdictScore 4 = .ok (.aload_n 0, 1) := by decide +kernel
theorem dX9_verdictScore_5 : decode cX9_verdictScore 5 = .ok (.getfield 54, 3) := by decide +kernel
theorem dX9_verdictScore_8 : decode cX9_verdictScore 8 = .ok (.invokevirtual 261, 3) := by decide +kernel
theorem cw_RX9_261 : zCwV RX9 261 mX7_winningScore := zall [918, 919, 920, 39, 921] (by decide +kernel) (by decide +kernel)
theorem dX9_verdictScore_11 : decode cX9_verdictScore 11 = .ok (.ireturn, 1) := by decide +kernel
abbrev mX9_margin : zM := (yX9_margin, cX9_margin, 1, (some .int), [])
theorem okX9_margin : zMok mX9_margin 0 := ⟨by decide, by decide, by decide +kernel⟩
theorem dX9_margin_0 : decode cX9_margin 0 = .ok (.aload_n 0, 1) := by decide +kernel
theorem dX9_margin_1 : decode cX9_margin 1 = .ok (.invokevirtual 240, 3) := by decide +kernel
theorem dX9_margin_4 : decode cX9_margin 4 = .ok (.aload_n 0, 1) := by decide +kernel
theorem dX9_margin_5 : decode cX9_margin 5 = .ok (.getfield 54, 3) := by decide +kernel
theorem dX9_margin_8 : decode cX9_margin 8 = .ok (.invokevirtual 261, 3) := by decide +kernel
theorem dX9_margin_11 : decode cX9_margin 11 = .ok (.aload_n 0, 1) := by decide +kernel
theorem dX9_margin_12 : decode cX9_margin 12 = .ok (.getfield 54, 3) := by decide +kernel
theorem dX9_margin_15 : decode cX9_margin 15 = .ok (.iconst 1, 1) := by decide +kernel
theorem dX9_margin_16 : decode cX9_margin 16 = .ok (.invokevirtual 264, 3) := by decide +kernel
theorem cw_RX9_264 : zCwV RX9 264 mX7_scoreAt := zall [1163, 910, 911, 39, 912] (by decide +kernel) (by decide +kernel)
theorem dX9_margin_19 : decode cX9_margin 19 = .ok (.isub, 1) := by decide +kernel
theorem dX9_margin_20 : decode cX9_margin 20 = .ok (.ireturn, 1) := by decide +kernel
abbrev mX9_unexplainedCount : zM := (yX9_unexplainedCount, cX9_unexplainedCount, 3, (some .int), [])
theorem okX9_unexplainedCount : zMok mX9_unexplainedCount 0 := ⟨by decide, by decide, by decide +kernel⟩
theorem dX9_unexplainedCount_0 : decode cX9_unexplainedCount 0 = .ok (.aload_n 0, 1) := by decide +kernel
theorem dX9_unexplainedCount_1 : decode cX9_unexplainedCount 1 = .ok (.invokevirtual 240, 3) := by decide +kernel
theorem dX9_unexplainedCount_4 : decode cX9_unexplainedCount 4 = .ok (.iconst 0, 1) := by decide +kernel
theorem dX9_unexplainedCount_5 : decode cX9_unexplainedCount 5 = .ok (.istore_n 1, 1) := by decide +kernel
theorem dX9_unexplainedCount_6 : decode cX9_unexplainedCount 6 = .ok (.iconst 0, 1) := by decide +kernel
theorem dX9_unexplainedCount_7 : decode cX9_unexplainedCount 7 = .ok (.istore_n 2, 1) := by decide +kernel
theorem dX9_unexplainedCount_8 : decode cX9_unexplainedCount 8 = .ok (.iload_n 2, 1) := by decide +kernel
theorem dX9_unexplainedCount_9 : decode cX9_unexplainedCount 9 = .ok (.aload_n 0, 1) := by decide +kernel
theorem dX9_unexplainedCount_10 : decode cX9_unexplainedCount 10 = .ok (.getfield 33, 3) := by decide +kernel
theorem dX9_unexplainedCount_13 : decode cX9_unexplainedCount 13 = .ok (.getfield 125, 3) := by decide +kernel
theorem dX9_unexplainedCount_16 : decode cX9_unexplainedCount 16 = .ok (.getfield 129, 3) := by decide +kernel
theorem dX9_unexplainedCount_19 : decode cX9_unexplainedCount 19 = .ok (.if_icmp .ge 27, 3) := by decide +kernel
theorem dX9_unexplainedCount_46 : decode cX9_unexplainedCount 46 = .ok (.iload_n 1, 1) := by decide +kernel
theorem dX9_unexplainedCount_47 : decode cX9_unexplainedCount 47 = .ok (.ireturn, 1) := by decide +kernel
theorem dX9_unexplainedCount_22 : decode cX9_unexplainedCount 22 = .ok (.aload_n 0, 1) := by decide +kernel
theorem dX9_unexplainedCount_23 : decode cX9_unexplainedCount 23 = .ok (.getfield 54, 3) := by decide +kernel
theorem dX9_unexplainedCount_26 : decode cX9_unexplainedCount 26 = .ok (.aload_n 0, 1) := by decide +kernel
theorem dX9_unexplainedCount_27 : decode cX9_unexplainedCount 27 = .ok (.getfield 33, 3) := by decide +kernel
theorem dX9_unexplainedCount_30 : decode cX9_unexplainedCount 30 = .ok (.iload_n 2, 1) := by decide +kernel
theorem dX9_unexplainedCount_31 : decode cX9_unexplainedCount 31 = .ok (.invokevirtual 267, 3) := by decide +kernel
theorem cw_RX9_267 : zCwV RX9 267 mX7_leavesOpen := zall [934, 935, 936, 39, 937] (by decide +kernel) (by decide +kernel)
theorem dX9_unexplainedCount_34 : decode cX9_unexplainedCount 34 = .ok (.ifCond .eq 6, 3) := by decide +kernel
theorem dX9_unexplainedCount_40 : decode cX9_unexplainedCount 40 = .ok (.iinc 2 1, 3) := by decide +kernel
theorem dX9_unexplainedCount_43 : decode cX9_unexplainedCount 43 = .ok (.goto (-35), 3) := by decide +kernel
theorem dX9_unexplainedCount_37 : decode cX9_unexplainedCount 37 = .ok (.iinc 1 1, 3) := by decide +kernel
abbrev mX9_unexplainedClue : zM := (yX9_unexplainedClue, cX9_unexplainedClue, 5, (some .int), [])
theorem okX9_unexplainedClue : zMok mX9_unexplainedClue 1 := ⟨by decide, by decide, by decide +kernel⟩
theorem dX9_unexplainedClue_0 : decode cX9_unexplainedClue 0 = .ok (.aload_n 0, 1) := by decide +kernel
theorem dX9_unexplainedClue_1 : decode cX9_unexplainedClue 1 = .ok (.invokevirtual 240, 3) := by decide +kernel
theorem dX9_unexplainedClue_4 : decode cX9_unexplainedClue 4 = .ok (.iconst 0, 1) := by decide +kernel
theorem dX9_unexplainedClue_5 : decode cX9_unexplainedClue 5 = .ok (.istore_n 2, 1) := by decide +kernel
theorem dX9_unexplainedClue_6 : decode cX9_unexplainedClue 6 = .ok (.iconst 0, 1) := by decide +kernel
theorem dX9_unexplainedClue_7 : decode cX9_unexplainedClue 7 = .ok (.istore_n 3, 1) := by decide +kernel
theorem dX9_unexplainedClue_8 : decode cX9_unexplainedClue 8 = .ok (.iload_n 3, 1) := by decide +kernel
theorem dX9_unexplainedClue_9 : decode cX9_unexplainedClue 9 = .ok (.aload_n 0, 1) := by decide +kernel
theorem dX9_unexplainedClue_10 : decode cX9_unexplainedClue 10 = .ok (.getfield 33, 3) := by decide +kernel
theorem dX9_unexplainedClue_13 : decode cX9_unexplainedClue 13 = .ok (.getfield 125, 3) := by decide +kernel
theorem dX9_unexplainedClue_16 : decode cX9_unexplainedClue 16 = .ok (.getfield 129, 3) := by decide +kernel
theorem dX9_unexplainedClue_19 : decode cX9_unexplainedClue 19 = .ok (.if_icmp .ge 49, 3) := by decide +kernel
theorem dX9_unexplainedClue_68 : decode cX9_unexplainedClue 68 = .ok (.iconst (-1), 1) := by decide +kernel
theorem dX9_unexplainedClue_69 : decode cX9_unexplainedClue 69 = .ok (.ireturn, 1) := by decide +kernel
theorem dX9_unexplainedClue_22 : decode cX9_unexplainedClue 22 = .ok (.aload_n 0, 1) := by decide +kernel
theorem dX9_unexplainedClue_23 : decode cX9_unexplainedClue 23 = .ok (.getfield 33, 3) := by decide +kernel
theorem dX9_unexplainedClue_26 : decode cX9_unexplainedClue 26 = .ok (.getfield 125, 3) := by decide +kernel
theorem dX9_unexplainedClue_29 : decode cX9_unexplainedClue 29 = .ok (.iload_n 3, 1) := by decide +kernel
theorem dX9_unexplainedClue_30 : decode cX9_unexplainedClue 30 = .ok (.invokevirtual 226, 3) := by decide +kernel
theorem dX9_unexplainedClue_33 : decode cX9_unexplainedClue 33 = .ok (.istore 4, 2) := by decide +kernel
theorem dX9_unexplainedClue_35 : decode cX9_unexplainedClue 35 = .ok (.aload_n 0, 1) := by decide +kernel
theorem dX9_unexplainedClue_36 : decode cX9_unexplainedClue 36 = .ok (.getfield 54, 3) := by decide +kernel
theorem dX9_unexplainedClue_39 : decode cX9_unexplainedClue 39 = .ok (.aload_n 0, 1) := by decide +kernel
theorem dX9_unexplainedClue_40 : decode cX9_unexplainedClue 40 = .ok (.getfield 33, 3) := by decide +kernel
theorem dX9_unexplainedClue_43 : decode cX9_unexplainedClue 43 = .ok (.iload 4, 2) := by decide +kernel
theorem dX9_unexplainedClue_45 : decode cX9_unexplainedClue 45 = .ok (.invokevirtual 267, 3) := by decide +kernel
theorem dX9_unexplainedClue_48 : decode cX9_unexplainedClue 48 = .ok (.ifCond .eq 14, 3) := by decide +kernel
theorem dX9_unexplainedClue_62 : decode cX9_unexplainedClue 62 = .ok (.iinc 3 1, 3) := by decide +kernel
theorem dX9_unexplainedClue_65 : decode cX9_unexplainedClue 65 = .ok (.goto (-57), 3) := by decide +kernel
theorem dX9_unexplainedClue_51 : decode cX9_unexplainedClue 51 = .ok (.iload_n 2, 1) := by decide +kernel
theorem dX9_unexplainedClue_52 : decode cX9_unexplainedClue 52 = .ok (.iload_n 1, 1) := by decide +kernel
theorem dX9_unexplainedClue_53 : decode cX9_unexplainedClue 53 = .ok (.if_icmp .ne 6, 3) := by decide +kernel
theorem dX9_unexplainedClue_59 : decode cX9_unexplainedClue 59 = .ok (.iinc 2 1, 3) := by decide +kernel
theorem dX9_unexplainedClue_56 : decode cX9_unexplainedClue 56 = .ok (.iload 4, 2) := by decide +kernel
theorem dX9_unexplainedClue_58 : decode cX9_unexplainedClue 58 = .ok (.ireturn, 1) := by decide +kernel
abbrev mX9_contradict : zM := (yX9_contradict, cX9_contradict, 3, (some .boolean), [])
theorem okX9_contradict : zMok mX9_contradict 2 := ⟨by decide, by decide, by decide +kernel⟩
theorem dX9_contradict_0 : decode cX9_contradict 0 = .ok (.aload_n 0, 1) := by decide +kernel
theorem dX9_contradict_1 : decode cX9_contradict 1 = .ok (.iload_n 1, 1) := by decide +kernel
theorem dX9_contradict_2 : decode cX9_contradict 2 = .ok (.invokevirtual 204, 3) := by decide +kernel
theorem dX9_contradict_5 : decode cX9_contradict 5 = .ok (.aload_n 0, 1) := by decide +kernel
theorem dX9_contradict_6 : decode cX9_contradict 6 = .ok (.iload_n 2, 1) := by decide +kernel
theorem dX9_contradict_7 : decode cX9_contradict 7 = .ok (.invokevirtual 204, 3) := by decide +kernel
theorem dX9_contradict_10 : decode cX9_contradict 10 = .ok (.iload_n 1, 1) := by decide +kernel
theorem dX9_contradict_11 : decode cX9_contradict 11 = .ok (.iload_n 2, 1) := by decide +kernel
theorem dX9_contradict_12 : decode cX9_contradict 12 = .ok (.if_icmp .eq 19, 3) := by decide +kernel
theorem dX9_contradict_31 : decode cX9_contradict 31 = .ok (.iconst 0, 1) := by decide +kernel
theorem dX9_contradict_32 : decode cX9_contradict 32 = .ok (.ireturn, 1) := by decide +kernel
theorem dX9_contradict_15 : decode cX9_contradict 15 = .ok (.aload_n 0, 1) := by decide +kernel
theorem dX9_contradict_16 : decode cX9_contradict 16 = .ok (.getfield 33, 3) := by decide +kernel
theorem dX9_contradict_19 : decode cX9_contradict 19 = .ok (.iload_n 1, 1) := by decide +kernel
theorem dX9_contradict_20 : decode cX9_contradict 20 = .ok (.iload_n 2, 1) := by decide +kernel
theorem dX9_contradict_21 : decode cX9_contradict 21 = .ok (.invokevirtual 274, 3) := by decide +kernel
theorem cw_RX9_274 : zCwV RX9 274 mX1_canBothHold := zall [1105, 1106, 1107, 34, 1108] (by decide +kernel) (by decide +kernel)
theorem dX9_contradict_24 : decode cX9_contradict 24 = .ok (.ifCond .ne 7, 3) := by decide +kernel
theorem dX9_contradict_27 : decode cX9_contradict 27 = .ok (.iconst 1, 1) := by decide +kernel
theorem dX9_contradict_28 : decode cX9_contradict 28 = .ok (.goto 4, 3) := by decide +kernel
abbrev mX9_contradictionsOf : zM := (yX9_contradictionsOf, cX9_contradictionsOf, 4, (some .int), [])
theorem okX9_contradictionsOf : zMok mX9_contradictionsOf 1 := ⟨by decide, by decide, by decide +kernel⟩
theorem dX9_contradictionsOf_0 : decode cX9_contradictionsOf 0 = .ok (.aload_n 0, 1) := by decide +kernel
theorem dX9_contradictionsOf_1 : decode cX9_contradictionsOf 1 = .ok (.iload_n 1, 1) := by decide +kernel
theorem dX9_contradictionsOf_2 : decode cX9_contradictionsOf 2 = .ok (.invokevirtual 204, 3) := by decide +kernel
theorem dX9_contradictionsOf_5 : decode cX9_contradictionsOf 5 = .ok (.iconst 0, 1) := by decide +kernel
theorem dX9_contradictionsOf_6 : decode cX9_contradictionsOf 6 = .ok (.istore_n 2, 1) := by decide +kernel
theorem dX9_contradictionsOf_7 : decode cX9_contradictionsOf 7 = .ok (.iconst 0, 1) := by decide +kernel
theorem dX9_contradictionsOf_8 : decode cX9_contradictionsOf 8 = .ok (.istore_n 3, 1) := by decide +kernel
theorem dX9_contradictionsOf_9 : decode cX9_contradictionsOf 9 = .ok (.iload_n 3, 1) := by decide +kernel
theorem dX9_contradictionsOf_10 : decode cX9_contradictionsOf 10 = .ok (.aload_n 0, 1) := by decide +kernel
theorem dX9_contradictionsOf_11 : decode cX9_contradictionsOf 11 = .ok (.getfield 33, 3) := by decide +kernel
theorem dX9_contradictionsOf_14 : decode cX9_contradictionsOf 14 = .ok (.getfield 125, 3) := by decide +kernel
theorem dX9_contradictionsOf_17 : decode cX9_contradictionsOf 17 = .ok (.getfield 129, 3) := by decide +kernel
theorem dX9_contradictionsOf_20 : decode cX9_contradictionsOf 20 = .ok (.if_icmp .ge 29, 3) := by decide +kernel
theorem dX9_contradictionsOf_49 : decode cX9_contradictionsOf 49 = .ok (.iload_n 2, 1) := by decide +kernel
theorem dX9_contradictionsOf_50 : decode cX9_contradictionsOf 50 = .ok (.ireturn, 1) := by decide +kernel
theorem dX9_contradictionsOf_23 : decode cX9_contradictionsOf 23 = .ok (.iload_n 3, 1) := by decide +kernel
theorem dX9_contradictionsOf_24 : decode cX9_contradictionsOf 24 = .ok (.iload_n 1, 1) := by decide +kernel
theorem dX9_contradictionsOf_25 : decode cX9_contradictionsOf 25 = .ok (.if_icmp .eq 18, 3) := by decide +kernel
theorem dX9_contradictionsOf_43 : decode cX9_contradictionsOf 43 = .ok (.iinc 3 1, 3) := by decide +kernel
theorem dX9_contradictionsOf_46 : decode cX9_contradictionsOf 46 = .ok (.goto (-37), 3) := by decide +kernel
theorem dX9_contradictionsOf_28 : decode cX9_contradictionsOf 28 = .ok (.aload_n 0, 1) := by decide +kernel
theorem dX9_contradictionsOf_29 : decode cX9_contradictionsOf 29 = .ok (.getfield 33, 3) := by decide +kernel
theorem dX9_contradictionsOf_32 : decode cX9_contradictionsOf 32 = .ok (.iload_n 1, 1) := by decide +kernel
theorem dX9_contradictionsOf_33 : decode cX9_contradictionsOf 33 = .ok (.iload_n 3, 1) := by decide +kernel
theorem dX9_contradictionsOf_34 : decode cX9_contradictionsOf 34 = .ok (.invokevirtual 274, 3) := by decide +kernel
theorem dX9_contradictionsOf_37 : decode cX9_contradictionsOf 37 = .ok (.ifCond .ne 6, 3) := by decide +kernel
theorem dX9_contradictionsOf_40 : decode cX9_contradictionsOf 40 = .ok (.iinc 2 1, 3) := by decide +kernel
abbrev mX9_printerAfter : zM := (yX9_printerAfter, cX9_printerAfter, 2, (some .int), [])
theorem okX9_printerAfter : zMok mX9_printerAfter 1 := ⟨by decide, by decide, by decide +kernel⟩
theorem dX9_printerAfter_0 : decode cX9_printerAfter 0 = .ok (.iload_n 1, 1) := by decide +kernel
theorem dX9_printerAfter_1 : decode cX9_printerAfter 1 = .ok (.invokestatic 277, 3) := by decide +kernel
theorem cw_RX9_277 : zCwS RX9 277 mX9_requirePrediction := zall [1193, 1194, 31, 1195] (by decide +kernel) (by decide +kernel)
theorem dX9_printerAfter_4 : decode cX9_printerAfter 4 = .ok (.aload_n 0, 1) := by decide +kernel
theorem dX9_printerAfter_5 : decode cX9_printerAfter 5 = .ok (.getfield 54, 3) := by decide +kernel
theorem dX9_printerAfter_8 : decode cX9_printerAfter 8 = .ok (.aload_n 0, 1) := by decide +kernel
theorem dX9_printerAfter_9 : decode cX9_printerAfter 9 = .ok (.getfield 33, 3) := by decide +kernel
theorem dX9_printerAfter_12 : decode cX9_printerAfter 12 = .ok (.iload_n 1, 1) := by decide +kernel
theorem dX9_printerAfter_13 : decode cX9_printerAfter 13 = .ok (.iconst (-1), 1) := by decide +kernel
theorem dX9_printerAfter_14 : decode cX9_printerAfter 14 = .ok (.invokevirtual 280, 3) := by decide +kernel
theorem dX9_printerAfter_17 : decode cX9_printerAfter 17 = .ok (.aload_n 0, 1) := by decide +kernel
theorem dX9_printerAfter_18 : decode cX9_printerAfter 18 = .ok (.getfield 54, 3) := by decide +kernel
theorem dX9_printerAfter_21 : decode cX9_printerAfter 21 = .ok (.invokevirtual 255, 3) := by decide +kernel
theorem dX9_printerAfter_24 : decode cX9_printerAfter 24 = .ok (.ireturn, 1) := by decide +kernel
abbrev mX9_yearAfter : zM := (yX9_yearAfter, cX9_yearAfter, 2, (some .int), [])
theorem okX9_yearAfter : zMok mX9_yearAfter 1 := ⟨by decide, by decide, by decide +kernel⟩
theorem dX9_yearAfter_0 : decode cX9_yearAfter 0 = .ok (.iload_n 1, 1) := by decide +kernel
theorem dX9_yearAfter_1 : decode cX9_yearAfter 1 = .ok (.invokestatic 277, 3) := by decide +kernel
theorem dX9_yearAfter_4 : decode cX9_yearAfter 4 = .ok (.aload_n 0, 1) := by decide +kernel
theorem dX9_yearAfter_5 : decode cX9_yearAfter 5 = .ok (.getfield 54, 3) := by decide +kernel
theorem dX9_yearAfter_8 : decode cX9_yearAfter 8 = .ok (.aload_n 0, 1) := by decide +kernel
theorem dX9_yearAfter_9 : decode cX9_yearAfter 9 = .ok (.getfield 33, 3) := by decide +kernel
theorem dX9_yearAfter_12 : decode cX9_yearAfter 12 = .ok (.iload_n 1, 1) := by decide +kernel
theorem dX9_yearAfter_13 : decode cX9_yearAfter 13 = .ok (.iconst (-1), 1) := by decide +kernel
theorem dX9_yearAfter_14 : decode cX9_yearAfter 14 = .ok (.invokevirtual 280, 3) := by decide +kernel
theorem dX9_yearAfter_17 : decode cX9_yearAfter 17 = .ok (.aload_n 0, 1) := by decide +kernel
theorem dX9_yearAfter_18 : decode cX9_yearAfter 18 = .ok (.getfield 54, 3) := by decide +kernel
theorem dX9_yearAfter_21 : decode cX9_yearAfter 21 = .ok (.invokevirtual 258, 3) := by decide +kernel
theorem dX9_yearAfter_24 : decode cX9_yearAfter 24 = .ok (.ireturn, 1) := by decide +kernel

noncomputable def nxU (D : zBk) : Int := if zfst (fun i => D 17 (D 19 i).toNat = 0) (D 12 0).toNat = -1 then -1 else D 19 (zfst (fun i => D 17 (D 19 i).toNat = 0) (D 12 0).toNat).toNat
noncomputable def cW (D : zBk) : Int := zs (fun c => zif (Ht D c) (D 16 c)) (D 12 0).toNat
noncomputable def scA (D : zBk) (p : Nat) (y : Int) : Int := @ite Int (works D p y) (Classical.propDecidable _) (zs (fun c => zif (Ht D c ∧ cFit D p y c) (D 16 c)) (D 12 0).toNat) (-1)
theorem scA_y {D : zBk} {p : Nat} {y : Int} (h : works D p y) : scA D p y = zs (fun c => zif (Ht D c ∧ cFit D p y c) (D 16 c)) (D 12 0).toNat := by unfold scA; rw [if_pos h]
theorem scA_n {D : zBk} {p : Nat} {y : Int} (h : ¬ works D p y) : scA D p y = -1 := by unfold scA; rw [if_neg h]
noncomputable def scd (D : zBk) (H : Nat → Prop) : Int := if 2 ≤ D 1 0 then tS D H (rkP D H 1).toNat else 0
def opn (D : zBk) (c : Nat) : Prop := Ht D c ∧ ¬ cFit D (wP D (Ht D)) (wY D (Ht D)) c
noncomputable def unx (D : zBk) (x : Int) : Int := if zfst (fun p => opn D (D 19 p).toNat ∧ zs (fun i => zb (opn D (D 19 i).toNat)) p = x) (D 12 0).toNat = -1 then -1 else D 19 (zfst (fun p => opn D (D 19 p).toNat ∧ zs (fun i => zb (opn D (D 19 i).toNat)) p = x) (D 12 0).toNat).toNat
theorem unx_no {D : zBk} {x : Int} (h : ∀ j, j < (D 12 0).toNat → ¬ (opn D (D 19 j).toNat ∧ zs (fun i => zb (opn D (D 19 i).toNat)) j = x)) : unx D x = -1 := by
  unfold unx; rw [zfst_no h, if_pos rfl]
theorem unx_at {D : zBk} {x : Int} {i : Nat} (hi : (i : Int) < D 12 0) (h : ∀ j, j < i → ¬ (opn D (D 19 j).toNat ∧ zs (fun i => zb (opn D (D 19 i).toNat)) j = x)) (h2 : opn D (D 19 i).toNat ∧ zs (fun i => zb (opn D (D 19 i).toNat)) i = x) : unx D x = D 19 i := by
  unfold unx; rw [zfst_at (by omega) h h2, if_neg (by omega)]; rfl
noncomputable def mEd (D : zBk) : Int := zfst (fun i => D 10 i = (wP D (Ht D) : Nat) ∧ D 11 i - wY D (Ht D) ≤ 1 ∧ wY D (Ht D) - D 11 i ≤ 1) (D 1 10).toNat

set_option maxRecDepth 20000 in
set_option maxHeartbeats 2000000 in
theorem sX9_requirePrinter_t {l : Launch} {w : zW} (hfl : l.stackTraces = false) {σ : zS} {x : Int} (hz : zOK σ) (hx : zr x) (hw : ¬ (0 ≤ x ∧ x < σ.1 31 0)) : Sp l w mX9_requirePrinter 6 1 [zf 9 0, zi x] σ (zthr "java/lang/IndexOutOfBoundsException" σ) := by
  obtain ⟨Q, hQ⟩ : ∃ Q : zQ, Q = (zthr "java/lang/IndexOutOfBoundsException" σ) := ⟨_, rfl⟩
  rw [← hQ]
  refine zx_enter hfl (by decide) rfl 0 rfl ?_
  show zX l w mX9_requirePrinter (zMQ w 6 1 Q) 0 [zf 9 0, zi x] [] 0 σ
  refine zx_aloadN dX9_requirePrinter_0 rfl rfl ?_
  refine zy_getR (q' := 30) fl_RX9_33 rfl dX9_requirePrinter_1 rfl ?_
  refine zy_getR (q' := 31) fl_RX9_134 rfl dX9_requirePrinter_4 rfl ?_
  refine zx_iloadN dX9_requirePrinter_7 rfl rfl ?_
  refine zy_cv [zi x] (sX0_hasPrinter  hfl hz (by first | exact hz _ _ | assumption | exact zr_b _ | exact zcmp_r _ _ | (unfold zr at *; omega))) dX9_requirePrinter_8 (by decide) rfl cw_RX9_378 okX0_hasPrinter rfl (Nat.le_of_ble_eq_true rfl) ⟨Nat.le_of_ble_eq_true rfl, Nat.le_of_ble_eq_true rfl, Nat.le_of_ble_eq_true rfl, Nat.le_of_ble_eq_true rfl⟩ ?_
  refine zx_if_ne (tgt := 25) (by first | exact hz _ _ | assumption | exact zr_b _ | exact zcmp_r _ _ | (unfold zr at *; omega)) dX9_requirePrinter_11 (by decide) (fun h11 => ?_) (fun h11 => ?_)
  · have h11 := zb_n.mp h11
    exfalso; omega
  · have h11 := zb_0.mp h11
    refine zx_throwW (names := ["java/lang/RuntimeException", "java/lang/Exception"]) rfl (by decide +kernel) (by decide +kernel) th_RX9_373_369_k ei_IndexOutOfBoundsException (List.mem_of_getElem? (i := 27) rfl) th_RX9_373 th_RX9_373_o th_RX9_373_g dX9_requirePrinter_14 dX9_requirePrinter_17 dX9_requirePrinter_18 dX9_requirePrinter_21 dX9_requirePrinter_24 (Nat.le_of_ble_eq_true rfl) (Nat.le_of_ble_eq_true rfl) (Nat.le_of_ble_eq_true rfl) (Nat.le_of_ble_eq_true rfl) ?_
    rw [hQ]
    exact ⟨rfl, by first | rfl | (exfalso; omega)⟩
set_option maxRecDepth 20000 in
set_option maxHeartbeats 2000000 in
theorem sX9_requirePrinter {l : Launch} {w : zW} (hfl : l.stackTraces = false) {σ : zS} {x : Int} (hz : zOK σ) (hx : zr x) (hw : 0 ≤ x ∧ x < σ.1 31 0) : Sp l w mX9_requirePrinter 6 0 [zf 9 0, zi x] σ (zrtv σ) := by
  obtain ⟨Q, hQ⟩ : ∃ Q : zQ, Q = (zrtv σ) := ⟨_, rfl⟩
  rw [← hQ]
  refine zx_enter hfl (by decide) rfl 0 rfl ?_
  show zX l w mX9_requirePrinter (zMQ w 6 0 Q) 0 [zf 9 0, zi x] [] 0 σ
  refine zx_aloadN dX9_requirePrinter_0 rfl rfl ?_
  refine zy_getR (q' := 30) fl_RX9_33 rfl dX9_requirePrinter_1 rfl ?_
  refine zy_getR (q' := 31) fl_RX9_134 rfl dX9_requirePrinter_4 rfl ?_
  refine zx_iloadN dX9_requirePrinter_7 rfl rfl ?_
  refine zy_cv [zi x] (sX0_hasPrinter  hfl hz (by first | exact hz _ _ | assumption | exact zr_b _ | exact zcmp_r _ _ | (unfold zr at *; omega))) dX9_requirePrinter_8 (by decide) rfl cw_RX9_378 okX0_hasPrinter rfl (Nat.le_of_ble_eq_true rfl) ⟨Nat.le_of_ble_eq_true rfl, Nat.le_of_ble_eq_true rfl, Nat.le_of_ble_eq_true rfl, Nat.le_of_ble_eq_true rfl⟩ ?_
  refine zx_if_ne (tgt := 25) (by first | exact hz _ _ | assumption | exact zr_b _ | exact zcmp_r _ _ | (unfold zr at *; omega)) dX9_requirePrinter_11 (by decide) (fun h11 => ?_) (fun h11 => ?_)
  · have h11 := zb_n.mp h11
    refine zx_vret rfl dX9_requirePrinter_25 ?_
    rw [hQ]
    exact ⟨rfl, by first | rfl | (exfalso; omega)⟩
  · have h11 := zb_0.mp h11
    exfalso; omega
set_option maxRecDepth 20000 in
set_option maxHeartbeats 2000000 in
theorem sX9_requireClue_t {l : Launch} {w : zW} (hfl : l.stackTraces = false) {σ : zS} {x : Int} (hz : zOK σ) (hx : zr x) (hw : ¬ (0 ≤ x ∧ x < σ.1 42 0)) : Sp l w mX9_requireClue 6 1 [zf 9 0, zi x] σ (zthr "java/lang/IndexOutOfBoundsException" σ) := by
  obtain ⟨Q, hQ⟩ : ∃ Q : zQ, Q = (zthr "java/lang/IndexOutOfBoundsException" σ) := ⟨_, rfl⟩
  rw [← hQ]
  refine zx_enter hfl (by decide) rfl 0 rfl ?_
  show zX l w mX9_requireClue (zMQ w 6 1 Q) 0 [zf 9 0, zi x] [] 0 σ
  refine zx_aloadN dX9_requireClue_0 rfl rfl ?_
  refine zy_getR (q' := 30) fl_RX9_33 rfl dX9_requireClue_1 rfl ?_
  refine zy_getR (q' := 42) fl_RX9_125 rfl dX9_requireClue_4 rfl ?_
  refine zx_iloadN dX9_requireClue_7 rfl rfl ?_
  refine zy_cv [zi x] (sX2_has  hfl hz (by first | exact hz _ _ | assumption | exact zr_b _ | exact zcmp_r _ _ | (unfold zr at *; omega))) dX9_requireClue_8 (by decide) rfl cw_RX9_383 okX2_has rfl (Nat.le_of_ble_eq_true rfl) ⟨Nat.le_of_ble_eq_true rfl, Nat.le_of_ble_eq_true rfl, Nat.le_of_ble_eq_true rfl, Nat.le_of_ble_eq_true rfl⟩ ?_
  refine zx_if_ne (tgt := 25) (by first | exact hz _ _ | assumption | exact zr_b _ | exact zcmp_r _ _ | (unfold zr at *; omega)) dX9_requireClue_11 (by decide) (fun h11 => ?_) (fun h11 => ?_)
  · have h11 := zb_n.mp h11
    exfalso; omega
  · have h11 := zb_0.mp h11
    refine zx_throwW (names := ["java/lang/RuntimeException", "java/lang/Exception"]) rfl (by decide +kernel) (by decide +kernel) th_RX9_373_369_k ei_IndexOutOfBoundsException (List.mem_of_getElem? (i := 25) rfl) th_RX9_373 th_RX9_373_o th_RX9_373_g dX9_requireClue_14 dX9_requireClue_17 dX9_requireClue_18 dX9_requireClue_21 dX9_requireClue_24 (Nat.le_of_ble_eq_true rfl) (Nat.le_of_ble_eq_true rfl) (Nat.le_of_ble_eq_true rfl) (Nat.le_of_ble_eq_true rfl) ?_
    rw [hQ]
    exact ⟨rfl, by first | rfl | (exfalso; omega)⟩
set_option maxRecDepth 20000 in
set_option maxHeartbeats 2000000 in
theorem sX9_requireClue {l : Launch} {w : zW} (hfl : l.stackTraces = false) {σ : zS} {x : Int} (hz : zOK σ) (hx : zr x) (hw : 0 ≤ x ∧ x < σ.1 42 0) : Sp l w mX9_requireClue 6 0 [zf 9 0, zi x] σ (zrtv σ) := by
  obtain ⟨Q, hQ⟩ : ∃ Q : zQ, Q = (zrtv σ) := ⟨_, rfl⟩
  rw [← hQ]
  refine zx_enter hfl (by decide) rfl 0 rfl ?_
  show zX l w mX9_requireClue (zMQ w 6 0 Q) 0 [zf 9 0, zi x] [] 0 σ
  refine zx_aloadN dX9_requireClue_0 rfl rfl ?_
  refine zy_getR (q' := 30) fl_RX9_33 rfl dX9_requireClue_1 rfl ?_
  refine zy_getR (q' := 42) fl_RX9_125 rfl dX9_requireClue_4 rfl ?_
  refine zx_iloadN dX9_requireClue_7 rfl rfl ?_
  refine zy_cv [zi x] (sX2_has  hfl hz (by first | exact hz _ _ | assumption | exact zr_b _ | exact zcmp_r _ _ | (unfold zr at *; omega))) dX9_requireClue_8 (by decide) rfl cw_RX9_383 okX2_has rfl (Nat.le_of_ble_eq_true rfl) ⟨Nat.le_of_ble_eq_true rfl, Nat.le_of_ble_eq_true rfl, Nat.le_of_ble_eq_true rfl, Nat.le_of_ble_eq_true rfl⟩ ?_
  refine zx_if_ne (tgt := 25) (by first | exact hz _ _ | assumption | exact zr_b _ | exact zcmp_r _ _ | (unfold zr at *; omega)) dX9_requireClue_11 (by decide) (fun h11 => ?_) (fun h11 => ?_)
  · have h11 := zb_n.mp h11
    refine zx_vret rfl dX9_requireClue_25 ?_
    rw [hQ]
    exact ⟨rfl, by first | rfl | (exfalso; omega)⟩
  · have h11 := zb_0.mp h11
    exfalso; omega
set_option maxRecDepth 20000 in
set_option maxHeartbeats 2000000 in
theorem sX9_requireYear_t {l : Launch} {w : zW} (hfl : l.stackTraces = false) {σ : zS} {x : Int} (hz : zOK σ) (hx : zr x) (hw : ¬ (1450 ≤ x ∧ x ≤ 1999)) : Sp l w mX9_requireYear 6 1 [zi x] σ (zthr "java/lang/IllegalArgumentException" σ) := by
  obtain ⟨Q, hQ⟩ : ∃ Q : zQ, Q = (zthr "java/lang/IllegalArgumentException" σ) := ⟨_, rfl⟩
  rw [← hQ]
  refine zx_enter hfl (by decide) rfl 0 rfl ?_
  show zX l w mX9_requireYear (zMQ w 6 1 Q) 0 [zi x] [] 0 σ
  refine zx_iloadN dX9_requireYear_0 rfl rfl ?_
  refine zx_sipush dX9_requireYear_1 rfl ?_
  refine zx_sipush dX9_requireYear_4 rfl ?_
  refine zy_cs [zi x, zi 1450, zi 1999] (sX9_isWithin  hfl hz (by first | exact hz _ _ | assumption | exact zr_b _ | exact zcmp_r _ _ | (unfold zr at *; omega)) (by first | exact hz _ _ | assumption | exact zr_b _ | exact zcmp_r _ _ | (unfold zr at *; omega)) (by first | exact hz _ _ | assumption | exact zr_b _ | exact zcmp_r _ _ | (unfold zr at *; omega))) dX9_requireYear_7 cw_RX9_388 okX9_isWithin rfl (Nat.le_of_ble_eq_true rfl) ⟨Nat.le_of_ble_eq_true rfl, Nat.le_of_ble_eq_true rfl, Nat.le_of_ble_eq_true rfl, Nat.le_of_ble_eq_true rfl⟩ ?_
  refine zx_if_ne (tgt := 24) (by first | exact hz _ _ | assumption | exact zr_b _ | exact zcmp_r _ _ | (unfold zr at *; omega)) dX9_requireYear_10 (by decide) (fun h10 => ?_) (fun h10 => ?_)
  · have h10 := zb_n.mp h10
    exfalso; omega
  · have h10 := zb_0.mp h10
    refine zx_throwW (names := ["java/lang/RuntimeException", "java/lang/Exception"]) rfl (by decide +kernel) (by decide +kernel) th_RX9_119_115_k ei_IllegalArgumentException (List.mem_of_getElem? (i := 28) rfl) th_RX9_119 th_RX9_119_o th_RX9_119_g dX9_requireYear_13 dX9_requireYear_16 dX9_requireYear_17 dX9_requireYear_20 dX9_requireYear_23 (Nat.le_of_ble_eq_true rfl) (Nat.le_of_ble_eq_true rfl) (Nat.le_of_ble_eq_true rfl) (Nat.le_of_ble_eq_true rfl) ?_
    rw [hQ]
    exact ⟨rfl, by first | rfl | (exfalso; omega)⟩
set_option maxRecDepth 20000 in
set_option maxHeartbeats 2000000 in
theorem sX9_requireYear {l : Launch} {w : zW} (hfl : l.stackTraces = false) {σ : zS} {x : Int} (hz : zOK σ) (hx : zr x) (hw : 1450 ≤ x ∧ x ≤ 1999) : Sp l w mX9_requireYear 6 0 [zi x] σ (zrtv σ) := by
  obtain ⟨Q, hQ⟩ : ∃ Q : zQ, Q = (zrtv σ) := ⟨_, rfl⟩
  rw [← hQ]
  refine zx_enter hfl (by decide) rfl 0 rfl ?_
  show zX l w mX9_requireYear (zMQ w 6 0 Q) 0 [zi x] [] 0 σ
  refine zx_iloadN dX9_requireYear_0 rfl rfl ?_
  refine zx_sipush dX9_requireYear_1 rfl ?_
  refine zx_sipush dX9_requireYear_4 rfl ?_
  refine zy_cs [zi x, zi 1450, zi 1999] (sX9_isWithin  hfl hz (by first | exact hz _ _ | assumption | exact zr_b _ | exact zcmp_r _ _ | (unfold zr at *; omega)) (by first | exact hz _ _ | assumption | exact zr_b _ | exact zcmp_r _ _ | (unfold zr at *; omega)) (by first | exact hz _ _ | assumption | exact zr_b _ | exact zcmp_r _ _ | (unfold zr at *; omega))) dX9_requireYear_7 cw_RX9_388 okX9_isWithin rfl (Nat.le_of_ble_eq_true rfl) ⟨Nat.le_of_ble_eq_true rfl, Nat.le_of_ble_eq_true rfl, Nat.le_of_ble_eq_true rfl, Nat.le_of_ble_eq_true rfl⟩ ?_
  refine zx_if_ne (tgt := 24) (by first | exact hz _ _ | assumption | exact zr_b _ | exact zcmp_r _ _ | (unfold zr at *; omega)) dX9_requireYear_10 (by decide) (fun h10 => ?_) (fun h10 => ?_)
  · have h10 := zb_n.mp h10
    refine zx_vret rfl dX9_requireYear_24 ?_
    rw [hQ]
    exact ⟨rfl, by first | rfl | (exfalso; omega)⟩
  · have h10 := zb_0.mp h10
    exfalso; omega
set_option maxRecDepth 20000 in
set_option maxHeartbeats 2000000 in
theorem sX9_requirePrediction_t {l : Launch} {w : zW} (hfl : l.stackTraces = false) {σ : zS} {x : Int} (hz : zOK σ) (hx : zr x) (hw : ¬ (0 ≤ x ∧ x ≤ 40)) : Sp l w mX9_requirePrediction 6 1 [zi x] σ (zthr "java/lang/IllegalArgumentException" σ) := by
  obtain ⟨Q, hQ⟩ : ∃ Q : zQ, Q = (zthr "java/lang/IllegalArgumentException" σ) := ⟨_, rfl⟩
  rw [← hQ]
  refine zx_enter hfl (by decide) rfl 0 rfl ?_
  show zX l w mX9_requirePrediction (zMQ w 6 1 Q) 0 [zi x] [] 0 σ
  refine zx_iloadN dX9_requirePrediction_0 rfl rfl ?_
  refine zx_iconst dX9_requirePrediction_1 ?_
  refine zx_bipush dX9_requirePrediction_2 rfl ?_
  refine zy_cs [zi x, zi 0, zi 40] (sX9_isWithin  hfl hz (by first | exact hz _ _ | assumption | exact zr_b _ | exact zcmp_r _ _ | (unfold zr at *; omega)) (by first | exact hz _ _ | assumption | exact zr_b _ | exact zcmp_r _ _ | (unfold zr at *; omega)) (by first | exact hz _ _ | assumption | exact zr_b _ | exact zcmp_r _ _ | (unfold zr at *; omega))) dX9_requirePrediction_4 cw_RX9_388 okX9_isWithin rfl (Nat.le_of_ble_eq_true rfl) ⟨Nat.le_of_ble_eq_true rfl, Nat.le_of_ble_eq_true rfl, Nat.le_of_ble_eq_true rfl, Nat.le_of_ble_eq_true rfl⟩ ?_
  refine zx_if_ne (tgt := 21) (by first | exact hz _ _ | assumption | exact zr_b _ | exact zcmp_r _ _ | (unfold zr at *; omega)) dX9_requirePrediction_7 (by decide) (fun h7 => ?_) (fun h7 => ?_)
  · have h7 := zb_n.mp h7
    exfalso; omega
  · have h7 := zb_0.mp h7
    refine zx_throwW (names := ["java/lang/RuntimeException", "java/lang/Exception"]) rfl (by decide +kernel) (by decide +kernel) th_RX9_119_115_k ei_IllegalArgumentException (List.mem_of_getElem? (i := 29) rfl) th_RX9_119 th_RX9_119_o th_RX9_119_g dX9_requirePrediction_10 dX9_requirePrediction_13 dX9_requirePrediction_14 dX9_requirePrediction_17 dX9_requirePrediction_20 (Nat.le_of_ble_eq_true rfl) (Nat.le_of_ble_eq_true rfl) (Nat.le_of_ble_eq_true rfl) (Nat.le_of_ble_eq_true rfl) ?_
    rw [hQ]
    exact ⟨rfl, by first | rfl | (exfalso; omega)⟩
set_option maxRecDepth 20000 in
set_option maxHeartbeats 2000000 in
theorem sX9_requirePrediction {l : Launch} {w : zW} (hfl : l.stackTraces = false) {σ : zS} {x : Int} (hz : zOK σ) (hx : zr x) (hw : 0 ≤ x ∧ x ≤ 40) : Sp l w mX9_requirePrediction 6 0 [zi x] σ (zrtv σ) := by
  obtain ⟨Q, hQ⟩ : ∃ Q : zQ, Q = (zrtv σ) := ⟨_, rfl⟩
  rw [← hQ]
  refine zx_enter hfl (by decide) rfl 0 rfl ?_
  show zX l w mX9_requirePrediction (zMQ w 6 0 Q) 0 [zi x] [] 0 σ
  refine zx_iloadN dX9_requirePrediction_0 rfl rfl ?_
  refine zx_iconst dX9_requirePrediction_1 ?_
  refine zx_bipush dX9_requirePrediction_2 rfl ?_
  refine zy_cs [zi x, zi 0, zi 40] (sX9_isWithin  hfl hz (by first | exact hz _ _ | assumption | exact zr_b _ | exact zcmp_r _ _ | (unfold zr at *; omega)) (by first | exact hz _ _ | assumption | exact zr_b _ | exact zcmp_r _ _ | (unfold zr at *; omega)) (by first | exact hz _ _ | assumption | exact zr_b _ | exact zcmp_r _ _ | (unfold zr at *; omega))) dX9_requirePrediction_4 cw_RX9_388 okX9_isWithin rfl (Nat.le_of_ble_eq_true rfl) ⟨Nat.le_of_ble_eq_true rfl, Nat.le_of_ble_eq_true rfl, Nat.le_of_ble_eq_true rfl, Nat.le_of_ble_eq_true rfl⟩ ?_
  refine zx_if_ne (tgt := 21) (by first | exact hz _ _ | assumption | exact zr_b _ | exact zcmp_r _ _ | (unfold zr at *; omega)) dX9_requirePrediction_7 (by decide) (fun h7 => ?_) (fun h7 => ?_)
  · have h7 := zb_n.mp h7
    refine zx_vret rfl dX9_requirePrediction_21 ?_
    rw [hQ]
    exact ⟨rfl, by first | rfl | (exfalso; omega)⟩
  · have h7 := zb_0.mp h7
    exfalso; omega
set_option maxRecDepth 20000 in
set_option maxHeartbeats 2000000 in
theorem sX9_refuse_1 {l : Launch} {w : zW} (hfl : l.stackTraces = false) {σ : zS} {x : Int} (hz : zOK σ) (hw : x = 1) : Sp l w mX9_refuse 6 1 [zi x] σ (zthr "java/lang/IndexOutOfBoundsException" σ) := by
  obtain ⟨Q, hQ⟩ : ∃ Q : zQ, Q = (zthr "java/lang/IndexOutOfBoundsException" σ) := ⟨_, rfl⟩
  rw [← hQ]
  refine zx_enter hfl (by decide) rfl 0 rfl ?_
  show zX l w mX9_refuse (zMQ w 6 1 Q) 0 [zi x] [] 0 σ
  have hx : zr x := by unfold zr; omega
  refine zx_iloadN dX9_refuse_0 rfl rfl ?_
  refine zx_iconst dX9_refuse_1 ?_
  refine zx_icmp_ne (tgt := 16) (by first | exact hz _ _ | assumption | exact zr_b _ | exact zcmp_r _ _ | (unfold zr at *; omega)) (by first | exact hz _ _ | assumption | exact zr_b _ | exact zcmp_r _ _ | (unfold zr at *; omega)) dX9_refuse_2 (by decide) (fun h2 => ?_) (fun h2 => ?_)
  · refine zx_iloadN dX9_refuse_16 rfl rfl ?_
    refine zx_iconst dX9_refuse_17 ?_
    refine zx_icmp_ne (tgt := 32) (by first | exact hz _ _ | assumption | exact zr_b _ | exact zcmp_r _ _ | (unfold zr at *; omega)) (by first | exact hz _ _ | assumption | exact zr_b _ | exact zcmp_r _ _ | (unfold zr at *; omega)) dX9_refuse_18 (by decide) (fun h18 => ?_) (fun h18 => ?_)
    · refine zx_iloadN dX9_refuse_32 rfl rfl ?_
      refine zx_iconst dX9_refuse_33 ?_
      refine zx_icmp_ne (tgt := 48) (by first | exact hz _ _ | assumption | exact zr_b _ | exact zcmp_r _ _ | (unfold zr at *; omega)) (by first | exact hz _ _ | assumption | exact zr_b _ | exact zcmp_r _ _ | (unfold zr at *; omega)) dX9_refuse_34 (by decide) (fun h34 => ?_) (fun h34 => ?_)
      · exfalso; omega
      · exfalso; omega
    · exfalso; omega
  · refine zx_throwW (names := ["java/lang/RuntimeException", "java/lang/Exception"]) rfl (by decide +kernel) (by decide +kernel) th_RX9_373_369_k ei_IndexOutOfBoundsException (List.mem_of_getElem? (i := 22) rfl) th_RX9_373 th_RX9_373_o th_RX9_373_g dX9_refuse_5 dX9_refuse_8 dX9_refuse_9 dX9_refuse_12 dX9_refuse_15 (Nat.le_of_ble_eq_true rfl) (Nat.le_of_ble_eq_true rfl) (Nat.le_of_ble_eq_true rfl) (Nat.le_of_ble_eq_true rfl) ?_
    rw [hQ]
    exact ⟨rfl, by first | rfl | (exfalso; omega)⟩
set_option maxRecDepth 20000 in
set_option maxHeartbeats 2000000 in
theorem sX9_refuse_2 {l : Launch} {w : zW} (hfl : l.stackTraces = false) {σ : zS} {x : Int} (hz : zOK σ) (hw : x = 2) : Sp l w mX9_refuse 6 1 [zi x] σ (zthr "java/lang/IllegalArgumentException" σ) := by
  obtain ⟨Q, hQ⟩ : ∃ Q : zQ, Q = (zthr "java/lang/IllegalArgumentException" σ) := ⟨_, rfl⟩
  rw [← hQ]
  refine zx_enter hfl (by decide) rfl 0 rfl ?_
  show zX l w mX9_refuse (zMQ w 6 1 Q) 0 [zi x] [] 0 σ
  have hx : zr x := by unfold zr; omega
  refine zx_iloadN dX9_refuse_0 rfl rfl ?_
  refine zx_iconst dX9_refuse_1 ?_
  refine zx_icmp_ne (tgt := 16) (by first | exact hz _ _ | assumption | exact zr_b _ | exact zcmp_r _ _ | (unfold zr at *; omega)) (by first | exact hz _ _ | assumption | exact zr_b _ | exact zcmp_r _ _ | (unfold zr at *; omega)) dX9_refuse_2 (by decide) (fun h2 => ?_) (fun h2 => ?_)
  · refine zx_iloadN dX9_refuse_16 rfl rfl ?_
    refine zx_iconst dX9_refuse_17 ?_
    refine zx_icmp_ne (tgt := 32) (by first | exact hz _ _ | assumption | exact zr_b _ | exact zcmp_r _ _ | (unfold zr at *; omega)) (by first | exact hz _ _ | assumption | exact zr_b _ | exact zcmp_r _ _ | (unfold zr at *; omega)) dX9_refuse_18 (by decide) (fun h18 => ?_) (fun h18 => ?_)
    · refine zx_iloadN dX9_refuse_32 rfl rfl ?_
      refine zx_iconst dX9_refuse_33 ?_
      refine zx_icmp_ne (tgt := 48) (by first | exact hz _ _ | assumption | exact zr_b _ | exact zcmp_r _ _ | (unfold zr at *; omega)) (by first | exact hz _ _ | assumption | exact zr_b _ | exact zcmp_r _ _ | (unfold zr at *; omega)) dX9_refuse_34 (by decide) (fun h34 => ?_) (fun h34 => ?_)
      · exfalso; omega
      · exfalso; omega
    · refine zx_throwW (names := ["java/lang/RuntimeException", "java/lang/Exception"]) rfl (by decide +kernel) (by decide +kernel) th_RX9_119_115_k ei_IllegalArgumentException (List.mem_of_getElem? (i := 23) rfl) th_RX9_119 th_RX9_119_o th_RX9_119_g dX9_refuse_21 dX9_refuse_24 dX9_refuse_25 dX9_refuse_28 dX9_refuse_31 (Nat.le_of_ble_eq_true rfl) (Nat.le_of_ble_eq_true rfl) (Nat.le_of_ble_eq_true rfl) (Nat.le_of_ble_eq_true rfl) ?_
      rw [hQ]
      exact ⟨rfl, by first | rfl | (exfalso; omega)⟩
  · exfalso; omega
set_option maxRecDepth 20000 in
set_option maxHeartbeats 2000000 in
theorem sX9_refuse_3 {l : Launch} {w : zW} (hfl : l.stackTraces = false) {σ : zS} {x : Int} (hz : zOK σ) (hw : x = 3) : Sp l w mX9_refuse 6 1 [zi x] σ (zthr "java/lang/IllegalStateException" σ) := by
  obtain ⟨Q, hQ⟩ : ∃ Q : zQ, Q = (zthr "java/lang/IllegalStateException" σ) := ⟨_, rfl⟩
  rw [← hQ]
  refine zx_enter hfl (by decide) rfl 0 rfl ?_
  show zX l w mX9_refuse (zMQ w 6 1 Q) 0 [zi x] [] 0 σ
  have hx : zr x := by unfold zr; omega
  refine zx_iloadN dX9_refuse_0 rfl rfl ?_
  refine zx_iconst dX9_refuse_1 ?_
  refine zx_icmp_ne (tgt := 16) (by first | exact hz _ _ | assumption | exact zr_b _ | exact zcmp_r _ _ | (unfold zr at *; omega)) (by first | exact hz _ _ | assumption | exact zr_b _ | exact zcmp_r _ _ | (unfold zr at *; omega)) dX9_refuse_2 (by decide) (fun h2 => ?_) (fun h2 => ?_)
  · refine zx_iloadN dX9_refuse_16 rfl rfl ?_
    refine zx_iconst dX9_refuse_17 ?_
    refine zx_icmp_ne (tgt := 32) (by first | exact hz _ _ | assumption | exact zr_b _ | exact zcmp_r _ _ | (unfold zr at *; omega)) (by first | exact hz _ _ | assumption | exact zr_b _ | exact zcmp_r _ _ | (unfold zr at *; omega)) dX9_refuse_18 (by decide) (fun h18 => ?_) (fun h18 => ?_)
    · refine zx_iloadN dX9_refuse_32 rfl rfl ?_
      refine zx_iconst dX9_refuse_33 ?_
      refine zx_icmp_ne (tgt := 48) (by first | exact hz _ _ | assumption | exact zr_b _ | exact zcmp_r _ _ | (unfold zr at *; omega)) (by first | exact hz _ _ | assumption | exact zr_b _ | exact zcmp_r _ _ | (unfold zr at *; omega)) dX9_refuse_34 (by decide) (fun h34 => ?_) (fun h34 => ?_)
      · exfalso; omega
      · refine zx_throwW (names := ["java/lang/RuntimeException", "java/lang/Exception"]) rfl (by decide +kernel) (by decide +kernel) th_RX9_106_102_k ei_IllegalStateException (List.mem_of_getElem? (i := 24) rfl) th_RX9_106 th_RX9_106_o th_RX9_106_g dX9_refuse_37 dX9_refuse_40 dX9_refuse_41 dX9_refuse_44 dX9_refuse_47 (Nat.le_of_ble_eq_true rfl) (Nat.le_of_ble_eq_true rfl) (Nat.le_of_ble_eq_true rfl) (Nat.le_of_ble_eq_true rfl) ?_
        rw [hQ]
        exact ⟨rfl, by first | rfl | (exfalso; omega)⟩
    · exfalso; omega
  · exfalso; omega
set_option maxRecDepth 20000 in
set_option maxHeartbeats 2000000 in
theorem sX9_refuse {l : Launch} {w : zW} (hfl : l.stackTraces = false) {σ : zS} {x : Int} (hz : zOK σ) (hw : x = 0) : Sp l w mX9_refuse 6 0 [zi x] σ (zrtv σ) := by
  obtain ⟨Q, hQ⟩ : ∃ Q : zQ, Q = (zrtv σ) := ⟨_, rfl⟩
  rw [← hQ]
  refine zx_enter hfl (by decide) rfl 0 rfl ?_
  show zX l w mX9_refuse (zMQ w 6 0 Q) 0 [zi x] [] 0 σ
  have hx : zr x := by unfold zr; omega
  refine zx_iloadN dX9_refuse_0 rfl rfl ?_
  refine zx_iconst dX9_refuse_1 ?_
  refine zx_icmp_ne (tgt := 16) (by first | exact hz _ _ | assumption | exact zr_b _ | exact zcmp_r _ _ | (unfold zr at *; omega)) (by first | exact hz _ _ | assumption | exact zr_b _ | exact zcmp_r _ _ | (unfold zr at *; omega)) dX9_refuse_2 (by decide) (fun h2 => ?_) (fun h2 => ?_)
  · refine zx_iloadN dX9_refuse_16 rfl rfl ?_
    refine zx_iconst dX9_refuse_17 ?_
    refine zx_icmp_ne (tgt := 32) (by first | exact hz _ _ | assumption | exact zr_b _ | exact zcmp_r _ _ | (unfold zr at *; omega)) (by first | exact hz _ _ | assumption | exact zr_b _ | exact zcmp_r _ _ | (unfold zr at *; omega)) dX9_refuse_18 (by decide) (fun h18 => ?_) (fun h18 => ?_)
    · refine zx_iloadN dX9_refuse_32 rfl rfl ?_
      refine zx_iconst dX9_refuse_33 ?_
      refine zx_icmp_ne (tgt := 48) (by first | exact hz _ _ | assumption | exact zr_b _ | exact zcmp_r _ _ | (unfold zr at *; omega)) (by first | exact hz _ _ | assumption | exact zr_b _ | exact zcmp_r _ _ | (unfold zr at *; omega)) dX9_refuse_34 (by decide) (fun h34 => ?_) (fun h34 => ?_)
      · refine zx_vret rfl dX9_refuse_48 ?_
        rw [hQ]
        exact ⟨rfl, by first | rfl | (exfalso; omega)⟩
      · exfalso; omega
    · exfalso; omega
  · exfalso; omega
set_option maxRecDepth 20000 in
set_option maxHeartbeats 2000000 in
theorem sX9_judgePresent {l : Launch} {w : zW} (hfl : l.stackTraces = false) {σ : zS}  (hz : zOK σ) (hW : WF (bk σ 30)) : Sp l w mX9_judgePresent 5 0 [zf 9 0] σ (zqv (none) (fun τ => zOK τ ∧ zSame (fun q => 252 ≤ q ∧ q ≤ 258) σ τ ∧ Jd (bk σ 30) (Ht (bk σ 30)) τ)) := by
  obtain ⟨Q, hQ⟩ : ∃ Q : zQ, Q = (zqv (none) (fun τ => zOK τ ∧ zSame (fun q => 252 ≤ q ∧ q ≤ 258) σ τ ∧ Jd (bk σ 30) (Ht (bk σ 30)) τ)) := ⟨_, rfl⟩
  rw [← hQ]
  refine zx_enter hfl (by decide) rfl 0 rfl ?_
  show zX l w mX9_judgePresent (zMQ w 5 0 Q) 0 [zf 9 0] [] 0 σ
  refine zx_aloadN dX9_judgePresent_0 rfl rfl ?_
  refine zy_getR (q' := 252) fl_RX9_54 rfl dX9_judgePresent_1 rfl ?_
  refine zx_aloadN dX9_judgePresent_4 rfl rfl ?_
  refine zy_getR (q' := 30) fl_RX9_33 rfl dX9_judgePresent_5 rfl ?_
  refine zx_iconst dX9_judgePresent_8 ?_
  refine zx_iconst dX9_judgePresent_9 ?_
  refine zy_cvvR [zf 1 30, zi 0, zi (-1)] (sX7_weigh  hfl hz (by first | assumption | omega) (by omega) (by unfold zr; omega)) dX9_judgePresent_10 (by decide) rfl cw_RX9_280 okX7_weigh rfl (Nat.le_of_ble_eq_true rfl) ⟨Nat.le_of_ble_eq_true rfl, Nat.le_of_ble_eq_true rfl, Nat.le_of_ble_eq_true rfl, Nat.le_of_ble_eq_true rfl⟩ (fun τ10 hr10 => ?_)
  have hz10 : zOK τ10 := hr10.1
  refine zx_vret rfl dX9_judgePresent_13 ?_
  rw [hQ]
  refine ⟨rfl, ?_⟩
  exact ⟨hz10, hr10.2.1, Jd_hc (fun c hc => Hd_Ht hW hc) hr10.2.2⟩
set_option maxRecDepth 20000 in
set_option maxHeartbeats 2000000 in
theorem sX9_printerCount {l : Launch} {w : zW} (hfl : l.stackTraces = false) {σ : zS}  (hz : zOK σ) (hW : WF (bk σ 30)) : Sp l w mX9_printerCount 0 0 [zf 9 0] σ (zret (zi (σ.1 31 0)) σ) := by
  obtain ⟨Q, hQ⟩ : ∃ Q : zQ, Q = (zret (zi (σ.1 31 0)) σ) := ⟨_, rfl⟩
  rw [← hQ]
  refine zx_enter hfl (by decide) rfl 0 rfl ?_
  show zX l w mX9_printerCount (zMQ w 0 0 Q) 0 [zf 9 0] [] 0 σ
  have hP : 0 ≤ σ.1 31 0 ∧ σ.1 31 0 ≤ 8 := hW.1.1
  have hM : 0 ≤ σ.1 31 7 ∧ σ.1 31 7 ≤ 8 := hW.1.2.1
  have hE : 0 ≤ σ.1 31 10 ∧ σ.1 31 10 ≤ 12 := hW.1.2.2.1
  have hK : 0 ≤ σ.1 42 0 ∧ σ.1 42 0 ≤ 40 := hW.1.2.2.2
  refine zx_aloadN dX9_printerCount_0 rfl rfl ?_
  refine zy_getR (q' := 30) fl_RX9_33 rfl dX9_printerCount_1 rfl ?_
  refine zy_getR (q' := 31) fl_RX9_134 rfl dX9_printerCount_4 rfl ?_
  refine zy_getI fl_RX9_160 rfl dX9_printerCount_7 rfl ?_
  refine zx_iret rfl rfl dX9_printerCount_10 ?_
  rw [hQ]
  refine ⟨congrArg (fun z : Int => (Sum.inl (some (zi z)) : Option zV ⊕ String)) ?_, by first | rfl | (exfalso; omega)⟩
  first | rfl | omega | (split <;> first | rfl | omega)
set_option maxRecDepth 20000 in
set_option maxHeartbeats 2000000 in
theorem sX9_clueCount {l : Launch} {w : zW} (hfl : l.stackTraces = false) {σ : zS}  (hz : zOK σ) (hW : WF (bk σ 30)) : Sp l w mX9_clueCount 0 0 [zf 9 0] σ (zret (zi (σ.1 42 0)) σ) := by
  obtain ⟨Q, hQ⟩ : ∃ Q : zQ, Q = (zret (zi (σ.1 42 0)) σ) := ⟨_, rfl⟩
  rw [← hQ]
  refine zx_enter hfl (by decide) rfl 0 rfl ?_
  show zX l w mX9_clueCount (zMQ w 0 0 Q) 0 [zf 9 0] [] 0 σ
  have hP : 0 ≤ σ.1 31 0 ∧ σ.1 31 0 ≤ 8 := hW.1.1
  have hM : 0 ≤ σ.1 31 7 ∧ σ.1 31 7 ≤ 8 := hW.1.2.1
  have hE : 0 ≤ σ.1 31 10 ∧ σ.1 31 10 ≤ 12 := hW.1.2.2.1
  have hK : 0 ≤ σ.1 42 0 ∧ σ.1 42 0 ≤ 40 := hW.1.2.2.2
  refine zx_aloadN dX9_clueCount_0 rfl rfl ?_
  refine zy_getR (q' := 30) fl_RX9_33 rfl dX9_clueCount_1 rfl ?_
  refine zy_getR (q' := 42) fl_RX9_125 rfl dX9_clueCount_4 rfl ?_
  refine zy_getI fl_RX9_129 rfl dX9_clueCount_7 rfl ?_
  refine zx_iret rfl rfl dX9_clueCount_10 ?_
  rw [hQ]
  refine ⟨congrArg (fun z : Int => (Sum.inl (some (zi z)) : Option zV ⊕ String)) ?_, by first | rfl | (exfalso; omega)⟩
  first | rfl | omega | (split <;> first | rfl | omega)
set_option maxRecDepth 20000 in
set_option maxHeartbeats 2000000 in
theorem sX9_cityOf_t0 {l : Launch} {w : zW} (hfl : l.stackTraces = false) {σ : zS} {x : Int} (hz : zOK σ) (hW : WF (bk σ 30)) (hx : zr x) (hw0 : ¬ (0 ≤ x ∧ x < σ.1 31 0)) : Sp l w mX9_cityOf 7 1 [zf 9 0, zi x] σ (zthr "java/lang/IndexOutOfBoundsException" σ) := by
  obtain ⟨Q, hQ⟩ : ∃ Q : zQ, Q = (zthr "java/lang/IndexOutOfBoundsException" σ) := ⟨_, rfl⟩
  rw [← hQ]
  refine zx_enter hfl (by decide) rfl 0 rfl ?_
  show zX l w mX9_cityOf (zMQ w 7 1 Q) 0 [zf 9 0, zi x] [] 0 σ
  have hP : 0 ≤ σ.1 31 0 ∧ σ.1 31 0 ≤ 8 := hW.1.1
  have hM : 0 ≤ σ.1 31 7 ∧ σ.1 31 7 ≤ 8 := hW.1.2.1
  have hE : 0 ≤ σ.1 31 10 ∧ σ.1 31 10 ≤ 12 := hW.1.2.2.1
  have hK : 0 ≤ σ.1 42 0 ∧ σ.1 42 0 ≤ 40 := hW.1.2.2.2
  refine zx_aloadN dX9_cityOf_0 rfl rfl ?_
  refine zx_iloadN dX9_cityOf_1 rfl rfl ?_
  refine zy_cvt [zi x] (sX9_requirePrinter_t  hfl hz (by first | exact hz _ _ | assumption | exact zr_b _ | exact zcmp_r _ _ | (unfold zr at *; omega)) (by first | assumption | omega)) dX9_cityOf_2 (by decide) rfl cw_RX9_172 okX9_requirePrinter rfl (Nat.le_of_ble_eq_true rfl) ⟨Nat.le_of_ble_eq_true rfl, Nat.le_of_ble_eq_true rfl, Nat.le_of_ble_eq_true rfl, Nat.le_of_ble_eq_true rfl⟩ ?_
  refine zxt_out rfl ?_
  rw [hQ]
  exact ⟨rfl, by first | rfl | (exfalso; omega)⟩
set_option maxRecDepth 20000 in
set_option maxHeartbeats 2000000 in
theorem sX9_cityOf {l : Launch} {w : zW} (hfl : l.stackTraces = false) {σ : zS} {x : Int} (hz : zOK σ) (hW : WF (bk σ 30)) (hx : zr x) (hw0 : 0 ≤ x ∧ x < σ.1 31 0) : Sp l w mX9_cityOf 7 0 [zf 9 0, zi x] σ (zret (zi (σ.1 33 x.toNat)) σ) := by
  obtain ⟨Q, hQ⟩ : ∃ Q : zQ, Q = (zret (zi (σ.1 33 x.toNat)) σ) := ⟨_, rfl⟩
  rw [← hQ]
  refine zx_enter hfl (by decide) rfl 0 rfl ?_
  show zX l w mX9_cityOf (zMQ w 7 0 Q) 0 [zf 9 0, zi x] [] 0 σ
  have hP : 0 ≤ σ.1 31 0 ∧ σ.1 31 0 ≤ 8 := hW.1.1
  have hM : 0 ≤ σ.1 31 7 ∧ σ.1 31 7 ≤ 8 := hW.1.2.1
  have hE : 0 ≤ σ.1 31 10 ∧ σ.1 31 10 ≤ 12 := hW.1.2.2.1
  have hK : 0 ≤ σ.1 42 0 ∧ σ.1 42 0 ≤ 40 := hW.1.2.2.2
  refine zx_aloadN dX9_cityOf_0 rfl rfl ?_
  refine zx_iloadN dX9_cityOf_1 rfl rfl ?_
  refine zy_cvv [zi x] (sX9_requirePrinter  hfl hz (by first | exact hz _ _ | assumption | exact zr_b _ | exact zcmp_r _ _ | (unfold zr at *; omega)) (by first | assumption | omega)) dX9_cityOf_2 (by decide) rfl cw_RX9_172 okX9_requirePrinter rfl (Nat.le_of_ble_eq_true rfl) ⟨Nat.le_of_ble_eq_true rfl, Nat.le_of_ble_eq_true rfl, Nat.le_of_ble_eq_true rfl, Nat.le_of_ble_eq_true rfl⟩ ?_
  refine zx_aloadN dX9_cityOf_5 rfl rfl ?_
  refine zy_getR (q' := 30) fl_RX9_33 rfl dX9_cityOf_6 rfl ?_
  refine zy_getR (q' := 31) fl_RX9_134 rfl dX9_cityOf_9 rfl ?_
  refine zy_getR (q' := 33) fl_RX9_175 rfl dX9_cityOf_12 rfl ?_
  refine zx_iloadN dX9_cityOf_15 rfl rfl ?_
  refine zy_iald (v := σ.1 33 x.toNat) rfl (by decide) (by decide) dX9_cityOf_16 (by omega) (by omega) rfl ?_
  refine zx_iret rfl rfl dX9_cityOf_17 ?_
  rw [hQ]
  refine ⟨congrArg (fun z : Int => (Sum.inl (some (zi z)) : Option zV ⊕ String)) ?_, by first | rfl | (exfalso; omega)⟩
  first | rfl | omega | (split <;> first | rfl | omega)
set_option maxRecDepth 20000 in
set_option maxHeartbeats 2000000 in
theorem sX9_isActive_t0 {l : Launch} {w : zW} (hfl : l.stackTraces = false) {σ : zS} {x y : Int} (hz : zOK σ) (hW : WF (bk σ 30)) (hx : zr x) (hy : zr y) (hw0 : ¬ (0 ≤ x ∧ x < σ.1 31 0)) : Sp l w mX9_isActive 7 1 [zf 9 0, zi x, zi y] σ (zthr "java/lang/IndexOutOfBoundsException" σ) := by
  obtain ⟨Q, hQ⟩ : ∃ Q : zQ, Q = (zthr "java/lang/IndexOutOfBoundsException" σ) := ⟨_, rfl⟩
  rw [← hQ]
  refine zx_enter hfl (by decide) rfl 0 rfl ?_
  show zX l w mX9_isActive (zMQ w 7 1 Q) 0 [zf 9 0, zi x, zi y] [] 0 σ
  have hP : 0 ≤ σ.1 31 0 ∧ σ.1 31 0 ≤ 8 := hW.1.1
  have hM : 0 ≤ σ.1 31 7 ∧ σ.1 31 7 ≤ 8 := hW.1.2.1
  have hE : 0 ≤ σ.1 31 10 ∧ σ.1 31 10 ≤ 12 := hW.1.2.2.1
  have hK : 0 ≤ σ.1 42 0 ∧ σ.1 42 0 ≤ 40 := hW.1.2.2.2
  refine zx_aloadN dX9_isActive_0 rfl rfl ?_
  refine zx_iloadN dX9_isActive_1 rfl rfl ?_
  refine zy_cvt [zi x] (sX9_requirePrinter_t  hfl hz (by first | exact hz _ _ | assumption | exact zr_b _ | exact zcmp_r _ _ | (unfold zr at *; omega)) (by first | assumption | omega)) dX9_isActive_2 (by decide) rfl cw_RX9_172 okX9_requirePrinter rfl (Nat.le_of_ble_eq_true rfl) ⟨Nat.le_of_ble_eq_true rfl, Nat.le_of_ble_eq_true rfl, Nat.le_of_ble_eq_true rfl, Nat.le_of_ble_eq_true rfl⟩ ?_
  refine zxt_out rfl ?_
  rw [hQ]
  exact ⟨rfl, by first | rfl | (exfalso; omega)⟩
set_option maxRecDepth 20000 in
set_option maxHeartbeats 2000000 in
theorem sX9_isActive_t1 {l : Launch} {w : zW} (hfl : l.stackTraces = false) {σ : zS} {x y : Int} (hz : zOK σ) (hW : WF (bk σ 30)) (hx : zr x) (hy : zr y) (hw0 : 0 ≤ x ∧ x < σ.1 31 0) (hw1 : ¬ (1450 ≤ y ∧ y ≤ 1999)) : Sp l w mX9_isActive 7 1 [zf 9 0, zi x, zi y] σ (zthr "java/lang/IllegalArgumentException" σ) := by
  obtain ⟨Q, hQ⟩ : ∃ Q : zQ, Q = (zthr "java/lang/IllegalArgumentException" σ) := ⟨_, rfl⟩
  rw [← hQ]
  refine zx_enter hfl (by decide) rfl 0 rfl ?_
  show zX l w mX9_isActive (zMQ w 7 1 Q) 0 [zf 9 0, zi x, zi y] [] 0 σ
  have hP : 0 ≤ σ.1 31 0 ∧ σ.1 31 0 ≤ 8 := hW.1.1
  have hM : 0 ≤ σ.1 31 7 ∧ σ.1 31 7 ≤ 8 := hW.1.2.1
  have hE : 0 ≤ σ.1 31 10 ∧ σ.1 31 10 ≤ 12 := hW.1.2.2.1
  have hK : 0 ≤ σ.1 42 0 ∧ σ.1 42 0 ≤ 40 := hW.1.2.2.2
  refine zx_aloadN dX9_isActive_0 rfl rfl ?_
  refine zx_iloadN dX9_isActive_1 rfl rfl ?_
  refine zy_cvv [zi x] (sX9_requirePrinter  hfl hz (by first | exact hz _ _ | assumption | exact zr_b _ | exact zcmp_r _ _ | (unfold zr at *; omega)) (by first | assumption | omega)) dX9_isActive_2 (by decide) rfl cw_RX9_172 okX9_requirePrinter rfl (Nat.le_of_ble_eq_true rfl) ⟨Nat.le_of_ble_eq_true rfl, Nat.le_of_ble_eq_true rfl, Nat.le_of_ble_eq_true rfl, Nat.le_of_ble_eq_true rfl⟩ ?_
  refine zx_iloadN dX9_isActive_5 rfl rfl ?_
  refine zy_cst [zi y] (sX9_requireYear_t  hfl hz (by first | exact hz _ _ | assumption | exact zr_b _ | exact zcmp_r _ _ | (unfold zr at *; omega)) (by first | assumption | omega)) dX9_isActive_6 cw_RX9_179 okX9_requireYear rfl (Nat.le_of_ble_eq_true rfl) ⟨Nat.le_of_ble_eq_true rfl, Nat.le_of_ble_eq_true rfl, Nat.le_of_ble_eq_true rfl, Nat.le_of_ble_eq_true rfl⟩ ?_
  refine zxt_out rfl ?_
  rw [hQ]
  exact ⟨rfl, by first | rfl | (exfalso; omega)⟩
set_option maxRecDepth 20000 in
set_option maxHeartbeats 2000000 in
theorem sX9_isActive {l : Launch} {w : zW} (hfl : l.stackTraces = false) {σ : zS} {x y : Int} (hz : zOK σ) (hW : WF (bk σ 30)) (hx : zr x) (hy : zr y) (hw0 : 0 ≤ x ∧ x < σ.1 31 0) (hw1 : 1450 ≤ y ∧ y ≤ 1999) : Sp l w mX9_isActive 7 0 [zf 9 0, zi x, zi y] σ (zret (zi (zb (works (bk σ 30) x.toNat y))) σ) := by
  obtain ⟨Q, hQ⟩ : ∃ Q : zQ, Q = (zret (zi (zb (works (bk σ 30) x.toNat y))) σ) := ⟨_, rfl⟩
  rw [← hQ]
  refine zx_enter hfl (by decide) rfl 0 rfl ?_
  show zX l w mX9_isActive (zMQ w 7 0 Q) 0 [zf 9 0, zi x, zi y] [] 0 σ
  have hP : 0 ≤ σ.1 31 0 ∧ σ.1 31 0 ≤ 8 := hW.1.1
  have hM : 0 ≤ σ.1 31 7 ∧ σ.1 31 7 ≤ 8 := hW.1.2.1
  have hE : 0 ≤ σ.1 31 10 ∧ σ.1 31 10 ≤ 12 := hW.1.2.2.1
  have hK : 0 ≤ σ.1 42 0 ∧ σ.1 42 0 ≤ 40 := hW.1.2.2.2
  refine zx_aloadN dX9_isActive_0 rfl rfl ?_
  refine zx_iloadN dX9_isActive_1 rfl rfl ?_
  refine zy_cvv [zi x] (sX9_requirePrinter  hfl hz (by first | exact hz _ _ | assumption | exact zr_b _ | exact zcmp_r _ _ | (unfold zr at *; omega)) (by first | assumption | omega)) dX9_isActive_2 (by decide) rfl cw_RX9_172 okX9_requirePrinter rfl (Nat.le_of_ble_eq_true rfl) ⟨Nat.le_of_ble_eq_true rfl, Nat.le_of_ble_eq_true rfl, Nat.le_of_ble_eq_true rfl, Nat.le_of_ble_eq_true rfl⟩ ?_
  refine zx_iloadN dX9_isActive_5 rfl rfl ?_
  refine zy_csv [zi y] (sX9_requireYear  hfl hz (by first | exact hz _ _ | assumption | exact zr_b _ | exact zcmp_r _ _ | (unfold zr at *; omega)) (by first | assumption | omega)) dX9_isActive_6 cw_RX9_179 okX9_requireYear rfl (Nat.le_of_ble_eq_true rfl) ⟨Nat.le_of_ble_eq_true rfl, Nat.le_of_ble_eq_true rfl, Nat.le_of_ble_eq_true rfl, Nat.le_of_ble_eq_true rfl⟩ ?_
  refine zx_aloadN dX9_isActive_9 rfl rfl ?_
  refine zy_getR (q' := 30) fl_RX9_33 rfl dX9_isActive_10 rfl ?_
  refine zy_getR (q' := 31) fl_RX9_134 rfl dX9_isActive_13 rfl ?_
  refine zx_iloadN dX9_isActive_16 rfl rfl ?_
  refine zx_iloadN dX9_isActive_17 rfl rfl ?_
  refine zy_cv [zi x, zi y] (sX0_worksIn  hfl hz (by first | exact hz _ _ | assumption | exact zr_b _ | exact zcmp_r _ _ | (unfold zr at *; omega)) (by first | exact hz _ _ | assumption | exact zr_b _ | exact zcmp_r _ _ | (unfold zr at *; omega)) (by first | assumption | omega)) dX9_isActive_18 (by decide) rfl cw_RX9_182 okX0_worksIn rfl (Nat.le_of_ble_eq_true rfl) ⟨Nat.le_of_ble_eq_true rfl, Nat.le_of_ble_eq_true rfl, Nat.le_of_ble_eq_true rfl, Nat.le_of_ble_eq_true rfl⟩ ?_
  refine zy_top (b := zb (0 ≤ x ∧ x < σ.1 31 0 ∧ σ.1 34 x.toNat ≤ y ∧ y ≤ σ.1 35 x.toNat)) rfl ?_
  refine zx_iret rfl (zb_nar _) dX9_isActive_21 ?_
  rw [hQ]
  refine ⟨congrArg (fun z : Int => (Sum.inl (some (zi z)) : Option zV ⊕ String)) ?_, by first | rfl | (exfalso; omega)⟩
  exact zb_c ⟨fun q => q.2.2, fun q => ⟨hw0.1, hw0.2, q⟩⟩
set_option maxRecDepth 20000 in
set_option maxHeartbeats 2000000 in
theorem sX9_hasDevice_t0 {l : Launch} {w : zW} (hfl : l.stackTraces = false) {σ : zS} {x y : Int} (hz : zOK σ) (hW : WF (bk σ 30)) (hx : zr x) (hy : zr y) (hw0 : ¬ (0 ≤ x ∧ x < σ.1 31 0)) : Sp l w mX9_hasDevice 7 1 [zf 9 0, zi x, zi y] σ (zthr "java/lang/IndexOutOfBoundsException" σ) := by
  obtain ⟨Q, hQ⟩ : ∃ Q : zQ, Q = (zthr "java/lang/IndexOutOfBoundsException" σ) := ⟨_, rfl⟩
  rw [← hQ]
  refine zx_enter hfl (by decide) rfl 0 rfl ?_
  show zX l w mX9_hasDevice (zMQ w 7 1 Q) 0 [zf 9 0, zi x, zi y] [] 0 σ
  have hP : 0 ≤ σ.1 31 0 ∧ σ.1 31 0 ≤ 8 := hW.1.1
  have hM : 0 ≤ σ.1 31 7 ∧ σ.1 31 7 ≤ 8 := hW.1.2.1
  have hE : 0 ≤ σ.1 31 10 ∧ σ.1 31 10 ≤ 12 := hW.1.2.2.1
  have hK : 0 ≤ σ.1 42 0 ∧ σ.1 42 0 ≤ 40 := hW.1.2.2.2
  refine zx_aloadN dX9_hasDevice_0 rfl rfl ?_
  refine zx_iloadN dX9_hasDevice_1 rfl rfl ?_
  refine zy_cvt [zi x] (sX9_requirePrinter_t  hfl hz (by first | exact hz _ _ | assumption | exact zr_b _ | exact zcmp_r _ _ | (unfold zr at *; omega)) (by first | assumption | omega)) dX9_hasDevice_2 (by decide) rfl cw_RX9_172 okX9_requirePrinter rfl (Nat.le_of_ble_eq_true rfl) ⟨Nat.le_of_ble_eq_true rfl, Nat.le_of_ble_eq_true rfl, Nat.le_of_ble_eq_true rfl, Nat.le_of_ble_eq_true rfl⟩ ?_
  refine zxt_out rfl ?_
  rw [hQ]
  exact ⟨rfl, by first | rfl | (exfalso; omega)⟩
set_option maxRecDepth 20000 in
set_option maxHeartbeats 2000000 in
theorem sX9_hasDevice {l : Launch} {w : zW} (hfl : l.stackTraces = false) {σ : zS} {x y : Int} (hz : zOK σ) (hW : WF (bk σ 30)) (hx : zr x) (hy : zr y) (hw0 : 0 ≤ x ∧ x < σ.1 31 0) : Sp l w mX9_hasDevice 7 0 [zf 9 0, zi x, zi y] σ (zret (zi (zb (hasDev (bk σ 30) x.toNat y))) σ) := by
  obtain ⟨Q, hQ⟩ : ∃ Q : zQ, Q = (zret (zi (zb (hasDev (bk σ 30) x.toNat y))) σ) := ⟨_, rfl⟩
  rw [← hQ]
  refine zx_enter hfl (by decide) rfl 0 rfl ?_
  show zX l w mX9_hasDevice (zMQ w 7 0 Q) 0 [zf 9 0, zi x, zi y] [] 0 σ
  have hP : 0 ≤ σ.1 31 0 ∧ σ.1 31 0 ≤ 8 := hW.1.1
  have hM : 0 ≤ σ.1 31 7 ∧ σ.1 31 7 ≤ 8 := hW.1.2.1
  have hE : 0 ≤ σ.1 31 10 ∧ σ.1 31 10 ≤ 12 := hW.1.2.2.1
  have hK : 0 ≤ σ.1 42 0 ∧ σ.1 42 0 ≤ 40 := hW.1.2.2.2
  refine zx_aloadN dX9_hasDevice_0 rfl rfl ?_
  refine zx_iloadN dX9_hasDevice_1 rfl rfl ?_
  refine zy_cvv [zi x] (sX9_requirePrinter  hfl hz (by first | exact hz _ _ | assumption | exact zr_b _ | exact zcmp_r _ _ | (unfold zr at *; omega)) (by first | assumption | omega)) dX9_hasDevice_2 (by decide) rfl cw_RX9_172 okX9_requirePrinter rfl (Nat.le_of_ble_eq_true rfl) ⟨Nat.le_of_ble_eq_true rfl, Nat.le_of_ble_eq_true rfl, Nat.le_of_ble_eq_true rfl, Nat.le_of_ble_eq_true rfl⟩ ?_
  refine zx_aloadN dX9_hasDevice_5 rfl rfl ?_
  refine zy_getR (q' := 30) fl_RX9_33 rfl dX9_hasDevice_6 rfl ?_
  refine zy_getR (q' := 31) fl_RX9_134 rfl dX9_hasDevice_9 rfl ?_
  refine zx_iloadN dX9_hasDevice_12 rfl rfl ?_
  refine zx_iloadN dX9_hasDevice_13 rfl rfl ?_
  refine zy_cv [zi x, zi y] (sX0_ownsDevice  hfl hz (by first | exact hz _ _ | assumption | exact zr_b _ | exact zcmp_r _ _ | (unfold zr at *; omega)) (by first | exact hz _ _ | assumption | exact zr_b _ | exact zcmp_r _ _ | (unfold zr at *; omega)) (by first | assumption | omega)) dX9_hasDevice_14 (by decide) rfl cw_RX9_186 okX0_ownsDevice rfl (Nat.le_of_ble_eq_true rfl) ⟨Nat.le_of_ble_eq_true rfl, Nat.le_of_ble_eq_true rfl, Nat.le_of_ble_eq_true rfl, Nat.le_of_ble_eq_true rfl⟩ ?_
  refine zy_top (b := zb (0 ≤ x ∧ x < σ.1 31 0 ∧ 0 ≤ y ∧ y ≤ 31 ∧ ¬ zand (zushr (σ.1 36 x.toNat) y) 1 = 0)) rfl ?_
  refine zx_iret rfl (zb_nar _) dX9_hasDevice_17 ?_
  rw [hQ]
  refine ⟨congrArg (fun z : Int => (Sum.inl (some (zi z)) : Option zV ⊕ String)) ?_, by first | rfl | (exfalso; omega)⟩
  exact zb_c ⟨fun q => q.2.2, fun q => ⟨hw0.1, hw0.2, q⟩⟩
set_option maxRecDepth 20000 in
set_option maxHeartbeats 2000000 in
theorem sX9_hasTypeface_t0 {l : Launch} {w : zW} (hfl : l.stackTraces = false) {σ : zS} {x y : Int} (hz : zOK σ) (hW : WF (bk σ 30)) (hx : zr x) (hy : zr y) (hw0 : ¬ (0 ≤ x ∧ x < σ.1 31 0)) : Sp l w mX9_hasTypeface 7 1 [zf 9 0, zi x, zi y] σ (zthr "java/lang/IndexOutOfBoundsException" σ) := by
  obtain ⟨Q, hQ⟩ : ∃ Q : zQ, Q = (zthr "java/lang/IndexOutOfBoundsException" σ) := ⟨_, rfl⟩
  rw [← hQ]
  refine zx_enter hfl (by decide) rfl 0 rfl ?_
  show zX l w mX9_hasTypeface (zMQ w 7 1 Q) 0 [zf 9 0, zi x, zi y] [] 0 σ
  have hP : 0 ≤ σ.1 31 0 ∧ σ.1 31 0 ≤ 8 := hW.1.1
  have hM : 0 ≤ σ.1 31 7 ∧ σ.1 31 7 ≤ 8 := hW.1.2.1
  have hE : 0 ≤ σ.1 31 10 ∧ σ.1 31 10 ≤ 12 := hW.1.2.2.1
  have hK : 0 ≤ σ.1 42 0 ∧ σ.1 42 0 ≤ 40 := hW.1.2.2.2
  refine zx_aloadN dX9_hasTypeface_0 rfl rfl ?_
  refine zx_iloadN dX9_hasTypeface_1 rfl rfl ?_
  refine zy_cvt [zi x] (sX9_requirePrinter_t  hfl hz (by first | exact hz _ _ | assumption | exact zr_b _ | exact zcmp_r _ _ | (unfold zr at *; omega)) (by first | assumption | omega)) dX9_hasTypeface_2 (by decide) rfl cw_RX9_172 okX9_requirePrinter rfl (Nat.le_of_ble_eq_true rfl) ⟨Nat.le_of_ble_eq_true rfl, Nat.le_of_ble_eq_true rfl, Nat.le_of_ble_eq_true rfl, Nat.le_of_ble_eq_true rfl⟩ ?_
  refine zxt_out rfl ?_
  rw [hQ]
  exact ⟨rfl, by first | rfl | (exfalso; omega)⟩
set_option maxRecDepth 20000 in
set_option maxHeartbeats 2000000 in
theorem sX9_hasTypeface {l : Launch} {w : zW} (hfl : l.stackTraces = false) {σ : zS} {x y : Int} (hz : zOK σ) (hW : WF (bk σ 30)) (hx : zr x) (hy : zr y) (hw0 : 0 ≤ x ∧ x < σ.1 31 0) : Sp l w mX9_hasTypeface 7 0 [zf 9 0, zi x, zi y] σ (zret (zi (zb (hasTyp (bk σ 30) x.toNat y))) σ) := by
  obtain ⟨Q, hQ⟩ : ∃ Q : zQ, Q = (zret (zi (zb (hasTyp (bk σ 30) x.toNat y))) σ) := ⟨_, rfl⟩
  rw [← hQ]
  refine zx_enter hfl (by decide) rfl 0 rfl ?_
  show zX l w mX9_hasTypeface (zMQ w 7 0 Q) 0 [zf 9 0, zi x, zi y] [] 0 σ
  have hP : 0 ≤ σ.1 31 0 ∧ σ.1 31 0 ≤ 8 := hW.1.1
  have hM : 0 ≤ σ.1 31 7 ∧ σ.1 31 7 ≤ 8 := hW.1.2.1
  have hE : 0 ≤ σ.1 31 10 ∧ σ.1 31 10 ≤ 12 := hW.1.2.2.1
  have hK : 0 ≤ σ.1 42 0 ∧ σ.1 42 0 ≤ 40 := hW.1.2.2.2
  refine zx_aloadN dX9_hasTypeface_0 rfl rfl ?_
  refine zx_iloadN dX9_hasTypeface_1 rfl rfl ?_
  refine zy_cvv [zi x] (sX9_requirePrinter  hfl hz (by first | exact hz _ _ | assumption | exact zr_b _ | exact zcmp_r _ _ | (unfold zr at *; omega)) (by first | assumption | omega)) dX9_hasTypeface_2 (by decide) rfl cw_RX9_172 okX9_requirePrinter rfl (Nat.le_of_ble_eq_true rfl) ⟨Nat.le_of_ble_eq_true rfl, Nat.le_of_ble_eq_true rfl, Nat.le_of_ble_eq_true rfl, Nat.le_of_ble_eq_true rfl⟩ ?_
  refine zx_aloadN dX9_hasTypeface_5 rfl rfl ?_
  refine zy_getR (q' := 30) fl_RX9_33 rfl dX9_hasTypeface_6 rfl ?_
  refine zy_getR (q' := 31) fl_RX9_134 rfl dX9_hasTypeface_9 rfl ?_
  refine zx_iloadN dX9_hasTypeface_12 rfl rfl ?_
  refine zx_iloadN dX9_hasTypeface_13 rfl rfl ?_
  refine zy_cv [zi x, zi y] (sX0_ownsTypeface  hfl hz (by first | exact hz _ _ | assumption | exact zr_b _ | exact zcmp_r _ _ | (unfold zr at *; omega)) (by first | exact hz _ _ | assumption | exact zr_b _ | exact zcmp_r _ _ | (unfold zr at *; omega)) (by first | assumption | omega)) dX9_hasTypeface_14 (by decide) rfl cw_RX9_189 okX0_ownsTypeface rfl (Nat.le_of_ble_eq_true rfl) ⟨Nat.le_of_ble_eq_true rfl, Nat.le_of_ble_eq_true rfl, Nat.le_of_ble_eq_true rfl, Nat.le_of_ble_eq_true rfl⟩ ?_
  refine zy_top (b := zb (0 ≤ x ∧ x < σ.1 31 0 ∧ 0 ≤ y ∧ y ≤ 15 ∧ ¬ zand (zushr (σ.1 37 x.toNat) y) 1 = 0)) rfl ?_
  refine zx_iret rfl (zb_nar _) dX9_hasTypeface_17 ?_
  rw [hQ]
  refine ⟨congrArg (fun z : Int => (Sum.inl (some (zi z)) : Option zV ⊕ String)) ?_, by first | rfl | (exfalso; omega)⟩
  exact zb_c ⟨fun q => q.2.2, fun q => ⟨hw0.1, hw0.2, q⟩⟩
set_option maxRecDepth 20000 in
set_option maxHeartbeats 2000000 in
theorem sX9_deviceOwners {l : Launch} {w : zW} (hfl : l.stackTraces = false) {σ : zS} {y : Int} (hz : zOK σ) (hW : WF (bk σ 30)) (hy : zr y) : Sp l w mX9_deviceOwners 3 0 [zf 9 0, zi y] σ (zret (zi (zs (fun p => zb (hasDev (bk σ 30) p y)) (σ.1 31 0).toNat)) σ) := by
  obtain ⟨Q, hQ⟩ : ∃ Q : zQ, Q = (zret (zi (zs (fun p => zb (hasDev (bk σ 30) p y)) (σ.1 31 0).toNat)) σ) := ⟨_, rfl⟩
  rw [← hQ]
  refine zx_enter hfl (by decide) rfl 0 rfl ?_
  show zX l w mX9_deviceOwners (zMQ w 3 0 Q) 0 [zf 9 0, zi y] [] 0 σ
  have hP : 0 ≤ σ.1 31 0 ∧ σ.1 31 0 ≤ 8 := hW.1.1
  have hM : 0 ≤ σ.1 31 7 ∧ σ.1 31 7 ≤ 8 := hW.1.2.1
  have hE : 0 ≤ σ.1 31 10 ∧ σ.1 31 10 ≤ 12 := hW.1.2.2.1
  have hK : 0 ≤ σ.1 42 0 ∧ σ.1 42 0 ≤ 40 := hW.1.2.2.2
  refine zx_aloadN dX9_deviceOwners_0 rfl rfl ?_
  refine zy_getR (q' := 30) fl_RX9_33 rfl dX9_deviceOwners_1 rfl ?_
  refine zy_getR (q' := 31) fl_RX9_134 rfl dX9_deviceOwners_4 rfl ?_
  refine zx_iloadN dX9_deviceOwners_7 rfl rfl ?_
  refine zy_cv [zi y] (sX0_ownersOf  hfl hz (by first | exact hz _ _ | assumption | exact zr_b _ | exact zcmp_r _ _ | (unfold zr at *; omega)) (by first | assumption | omega)) dX9_deviceOwners_8 (by decide) rfl cw_RX9_192 okX0_ownersOf rfl (Nat.le_of_ble_eq_true rfl) ⟨Nat.le_of_ble_eq_true rfl, Nat.le_of_ble_eq_true rfl, Nat.le_of_ble_eq_true rfl, Nat.le_of_ble_eq_true rfl⟩ ?_
  refine zy_top (b := zs (fun i => zb (0 ≤ (i : Int) ∧ (i : Int) < σ.1 31 0 ∧ 0 ≤ y ∧ y ≤ 31 ∧ ¬ zand (zushr (σ.1 36 i) y) 1 = 0)) (σ.1 31 0).toNat) rfl ?_
  refine zx_iret rfl rfl dX9_deviceOwners_11 ?_
  rw [hQ]
  refine ⟨congrArg (fun z : Int => (Sum.inl (some (zi z)) : Option zV ⊕ String)) ?_, by first | rfl | (exfalso; omega)⟩
  exact zs_congr (fun p hp => zb_c ⟨fun q => q.2.2, fun q => ⟨by omega, by omega, q⟩⟩)
set_option maxRecDepth 20000 in
set_option maxHeartbeats 2000000 in
theorem sX9_kindOf_t0 {l : Launch} {w : zW} (hfl : l.stackTraces = false) {σ : zS} {x : Int} (hz : zOK σ) (hW : WF (bk σ 30)) (hx : zr x) (hw0 : ¬ (0 ≤ x ∧ x < σ.1 42 0)) : Sp l w mX9_kindOf 7 1 [zf 9 0, zi x] σ (zthr "java/lang/IndexOutOfBoundsException" σ) := by
  obtain ⟨Q, hQ⟩ : ∃ Q : zQ, Q = (zthr "java/lang/IndexOutOfBoundsException" σ) := ⟨_, rfl⟩
  rw [← hQ]
  refine zx_enter hfl (by decide) rfl 0 rfl ?_
  show zX l w mX9_kindOf (zMQ w 7 1 Q) 0 [zf 9 0, zi x] [] 0 σ
  have hP : 0 ≤ σ.1 31 0 ∧ σ.1 31 0 ≤ 8 := hW.1.1
  have hM : 0 ≤ σ.1 31 7 ∧ σ.1 31 7 ≤ 8 := hW.1.2.1
  have hE : 0 ≤ σ.1 31 10 ∧ σ.1 31 10 ≤ 12 := hW.1.2.2.1
  have hK : 0 ≤ σ.1 42 0 ∧ σ.1 42 0 ≤ 40 := hW.1.2.2.2
  refine zx_aloadN dX9_kindOf_0 rfl rfl ?_
  refine zx_iloadN dX9_kindOf_1 rfl rfl ?_
  refine zy_cvt [zi x] (sX9_requireClue_t  hfl hz (by first | exact hz _ _ | assumption | exact zr_b _ | exact zcmp_r _ _ | (unfold zr at *; omega)) (by first | assumption | omega)) dX9_kindOf_2 (by decide) rfl cw_RX9_204 okX9_requireClue rfl (Nat.le_of_ble_eq_true rfl) ⟨Nat.le_of_ble_eq_true rfl, Nat.le_of_ble_eq_true rfl, Nat.le_of_ble_eq_true rfl, Nat.le_of_ble_eq_true rfl⟩ ?_
  refine zxt_out rfl ?_
  rw [hQ]
  exact ⟨rfl, by first | rfl | (exfalso; omega)⟩
set_option maxRecDepth 20000 in
set_option maxHeartbeats 2000000 in
theorem sX9_kindOf {l : Launch} {w : zW} (hfl : l.stackTraces = false) {σ : zS} {x : Int} (hz : zOK σ) (hW : WF (bk σ 30)) (hx : zr x) (hw0 : 0 ≤ x ∧ x < σ.1 42 0) : Sp l w mX9_kindOf 7 0 [zf 9 0, zi x] σ (zret (zi (σ.1 44 x.toNat)) σ) := by
  obtain ⟨Q, hQ⟩ : ∃ Q : zQ, Q = (zret (zi (σ.1 44 x.toNat)) σ) := ⟨_, rfl⟩
  rw [← hQ]
  refine zx_enter hfl (by decide) rfl 0 rfl ?_
  show zX l w mX9_kindOf (zMQ w 7 0 Q) 0 [zf 9 0, zi x] [] 0 σ
  have hP : 0 ≤ σ.1 31 0 ∧ σ.1 31 0 ≤ 8 := hW.1.1
  have hM : 0 ≤ σ.1 31 7 ∧ σ.1 31 7 ≤ 8 := hW.1.2.1
  have hE : 0 ≤ σ.1 31 10 ∧ σ.1 31 10 ≤ 12 := hW.1.2.2.1
  have hK : 0 ≤ σ.1 42 0 ∧ σ.1 42 0 ≤ 40 := hW.1.2.2.2
  refine zx_aloadN dX9_kindOf_0 rfl rfl ?_
  refine zx_iloadN dX9_kindOf_1 rfl rfl ?_
  refine zy_cvv [zi x] (sX9_requireClue  hfl hz (by first | exact hz _ _ | assumption | exact zr_b _ | exact zcmp_r _ _ | (unfold zr at *; omega)) (by first | assumption | omega)) dX9_kindOf_2 (by decide) rfl cw_RX9_204 okX9_requireClue rfl (Nat.le_of_ble_eq_true rfl) ⟨Nat.le_of_ble_eq_true rfl, Nat.le_of_ble_eq_true rfl, Nat.le_of_ble_eq_true rfl, Nat.le_of_ble_eq_true rfl⟩ ?_
  refine zx_aloadN dX9_kindOf_5 rfl rfl ?_
  refine zy_getR (q' := 30) fl_RX9_33 rfl dX9_kindOf_6 rfl ?_
  refine zy_getR (q' := 42) fl_RX9_125 rfl dX9_kindOf_9 rfl ?_
  refine zy_getR (q' := 44) fl_RX9_207 rfl dX9_kindOf_12 rfl ?_
  refine zx_iloadN dX9_kindOf_15 rfl rfl ?_
  refine zy_iald (v := σ.1 44 x.toNat) rfl (by decide) (by decide) dX9_kindOf_16 (by omega) (by omega) rfl ?_
  refine zx_iret rfl rfl dX9_kindOf_17 ?_
  rw [hQ]
  refine ⟨congrArg (fun z : Int => (Sum.inl (some (zi z)) : Option zV ⊕ String)) ?_, by first | rfl | (exfalso; omega)⟩
  first | rfl | omega | (split <;> first | rfl | omega)
set_option maxRecDepth 20000 in
set_option maxHeartbeats 2000000 in
theorem sX9_valueOf_t0 {l : Launch} {w : zW} (hfl : l.stackTraces = false) {σ : zS} {x : Int} (hz : zOK σ) (hW : WF (bk σ 30)) (hx : zr x) (hw0 : ¬ (0 ≤ x ∧ x < σ.1 42 0)) : Sp l w mX9_valueOf 7 1 [zf 9 0, zi x] σ (zthr "java/lang/IndexOutOfBoundsException" σ) := by
  obtain ⟨Q, hQ⟩ : ∃ Q : zQ, Q = (zthr "java/lang/IndexOutOfBoundsException" σ) := ⟨_, rfl⟩
  rw [← hQ]
  refine zx_enter hfl (by decide) rfl 0 rfl ?_
  show zX l w mX9_valueOf (zMQ w 7 1 Q) 0 [zf 9 0, zi x] [] 0 σ
  have hP : 0 ≤ σ.1 31 0 ∧ σ.1 31 0 ≤ 8 := hW.1.1
  have hM : 0 ≤ σ.1 31 7 ∧ σ.1 31 7 ≤ 8 := hW.1.2.1
  have hE : 0 ≤ σ.1 31 10 ∧ σ.1 31 10 ≤ 12 := hW.1.2.2.1
  have hK : 0 ≤ σ.1 42 0 ∧ σ.1 42 0 ≤ 40 := hW.1.2.2.2
  refine zx_aloadN dX9_valueOf_0 rfl rfl ?_
  refine zx_iloadN dX9_valueOf_1 rfl rfl ?_
  refine zy_cvt [zi x] (sX9_requireClue_t  hfl hz (by first | exact hz _ _ | assumption | exact zr_b _ | exact zcmp_r _ _ | (unfold zr at *; omega)) (by first | assumption | omega)) dX9_valueOf_2 (by decide) rfl cw_RX9_204 okX9_requireClue rfl (Nat.le_of_ble_eq_true rfl) ⟨Nat.le_of_ble_eq_true rfl, Nat.le_of_ble_eq_true rfl, Nat.le_of_ble_eq_true rfl, Nat.le_of_ble_eq_true rfl⟩ ?_
  refine zxt_out rfl ?_
  rw [hQ]
  exact ⟨rfl, by first | rfl | (exfalso; omega)⟩
set_option maxRecDepth 20000 in
set_option maxHeartbeats 2000000 in
theorem sX9_valueOf {l : Launch} {w : zW} (hfl : l.stackTraces = false) {σ : zS} {x : Int} (hz : zOK σ) (hW : WF (bk σ 30)) (hx : zr x) (hw0 : 0 ≤ x ∧ x < σ.1 42 0) : Sp l w mX9_valueOf 7 0 [zf 9 0, zi x] σ (zret (zi (σ.1 45 x.toNat)) σ) := by
  obtain ⟨Q, hQ⟩ : ∃ Q : zQ, Q = (zret (zi (σ.1 45 x.toNat)) σ) := ⟨_, rfl⟩
  rw [← hQ]
  refine zx_enter hfl (by decide) rfl 0 rfl ?_
  show zX l w mX9_valueOf (zMQ w 7 0 Q) 0 [zf 9 0, zi x] [] 0 σ
  have hP : 0 ≤ σ.1 31 0 ∧ σ.1 31 0 ≤ 8 := hW.1.1
  have hM : 0 ≤ σ.1 31 7 ∧ σ.1 31 7 ≤ 8 := hW.1.2.1
  have hE : 0 ≤ σ.1 31 10 ∧ σ.1 31 10 ≤ 12 := hW.1.2.2.1
  have hK : 0 ≤ σ.1 42 0 ∧ σ.1 42 0 ≤ 40 := hW.1.2.2.2
  refine zx_aloadN dX9_valueOf_0 rfl rfl ?_
  refine zx_iloadN dX9_valueOf_1 rfl rfl ?_
  refine zy_cvv [zi x] (sX9_requireClue  hfl hz (by first | exact hz _ _ | assumption | exact zr_b _ | exact zcmp_r _ _ | (unfold zr at *; omega)) (by first | assumption | omega)) dX9_valueOf_2 (by decide) rfl cw_RX9_204 okX9_requireClue rfl (Nat.le_of_ble_eq_true rfl) ⟨Nat.le_of_ble_eq_true rfl, Nat.le_of_ble_eq_true rfl, Nat.le_of_ble_eq_true rfl, Nat.le_of_ble_eq_true rfl⟩ ?_
  refine zx_aloadN dX9_valueOf_5 rfl rfl ?_
  refine zy_getR (q' := 30) fl_RX9_33 rfl dX9_valueOf_6 rfl ?_
  refine zy_getR (q' := 42) fl_RX9_125 rfl dX9_valueOf_9 rfl ?_
  refine zy_getR (q' := 45) fl_RX9_210 rfl dX9_valueOf_12 rfl ?_
  refine zx_iloadN dX9_valueOf_15 rfl rfl ?_
  refine zy_iald (v := σ.1 45 x.toNat) rfl (by decide) (by decide) dX9_valueOf_16 (by omega) (by omega) rfl ?_
  refine zx_iret rfl rfl dX9_valueOf_17 ?_
  rw [hQ]
  refine ⟨congrArg (fun z : Int => (Sum.inl (some (zi z)) : Option zV ⊕ String)) ?_, by first | rfl | (exfalso; omega)⟩
  first | rfl | omega | (split <;> first | rfl | omega)
set_option maxRecDepth 20000 in
set_option maxHeartbeats 2000000 in
theorem sX9_pageOf_t0 {l : Launch} {w : zW} (hfl : l.stackTraces = false) {σ : zS} {x : Int} (hz : zOK σ) (hW : WF (bk σ 30)) (hx : zr x) (hw0 : ¬ (0 ≤ x ∧ x < σ.1 42 0)) : Sp l w mX9_pageOf 7 1 [zf 9 0, zi x] σ (zthr "java/lang/IndexOutOfBoundsException" σ) := by
  obtain ⟨Q, hQ⟩ : ∃ Q : zQ, Q = (zthr "java/lang/IndexOutOfBoundsException" σ) := ⟨_, rfl⟩
  rw [← hQ]
  refine zx_enter hfl (by decide) rfl 0 rfl ?_
  show zX l w mX9_pageOf (zMQ w 7 1 Q) 0 [zf 9 0, zi x] [] 0 σ
  have hP : 0 ≤ σ.1 31 0 ∧ σ.1 31 0 ≤ 8 := hW.1.1
  have hM : 0 ≤ σ.1 31 7 ∧ σ.1 31 7 ≤ 8 := hW.1.2.1
  have hE : 0 ≤ σ.1 31 10 ∧ σ.1 31 10 ≤ 12 := hW.1.2.2.1
  have hK : 0 ≤ σ.1 42 0 ∧ σ.1 42 0 ≤ 40 := hW.1.2.2.2
  refine zx_aloadN dX9_pageOf_0 rfl rfl ?_
  refine zx_iloadN dX9_pageOf_1 rfl rfl ?_
  refine zy_cvt [zi x] (sX9_requireClue_t  hfl hz (by first | exact hz _ _ | assumption | exact zr_b _ | exact zcmp_r _ _ | (unfold zr at *; omega)) (by first | assumption | omega)) dX9_pageOf_2 (by decide) rfl cw_RX9_204 okX9_requireClue rfl (Nat.le_of_ble_eq_true rfl) ⟨Nat.le_of_ble_eq_true rfl, Nat.le_of_ble_eq_true rfl, Nat.le_of_ble_eq_true rfl, Nat.le_of_ble_eq_true rfl⟩ ?_
  refine zxt_out rfl ?_
  rw [hQ]
  exact ⟨rfl, by first | rfl | (exfalso; omega)⟩
set_option maxRecDepth 20000 in
set_option maxHeartbeats 2000000 in
theorem sX9_pageOf {l : Launch} {w : zW} (hfl : l.stackTraces = false) {σ : zS} {x : Int} (hz : zOK σ) (hW : WF (bk σ 30)) (hx : zr x) (hw0 : 0 ≤ x ∧ x < σ.1 42 0) : Sp l w mX9_pageOf 7 0 [zf 9 0, zi x] σ (zret (zi (σ.1 43 x.toNat)) σ) := by
  obtain ⟨Q, hQ⟩ : ∃ Q : zQ, Q = (zret (zi (σ.1 43 x.toNat)) σ) := ⟨_, rfl⟩
  rw [← hQ]
  refine zx_enter hfl (by decide) rfl 0 rfl ?_
  show zX l w mX9_pageOf (zMQ w 7 0 Q) 0 [zf 9 0, zi x] [] 0 σ
  have hP : 0 ≤ σ.1 31 0 ∧ σ.1 31 0 ≤ 8 := hW.1.1
  have hM : 0 ≤ σ.1 31 7 ∧ σ.1 31 7 ≤ 8 := hW.1.2.1
  have hE : 0 ≤ σ.1 31 10 ∧ σ.1 31 10 ≤ 12 := hW.1.2.2.1
  have hK : 0 ≤ σ.1 42 0 ∧ σ.1 42 0 ≤ 40 := hW.1.2.2.2
  refine zx_aloadN dX9_pageOf_0 rfl rfl ?_
  refine zx_iloadN dX9_pageOf_1 rfl rfl ?_
  refine zy_cvv [zi x] (sX9_requireClue  hfl hz (by first | exact hz _ _ | assumption | exact zr_b _ | exact zcmp_r _ _ | (unfold zr at *; omega)) (by first | assumption | omega)) dX9_pageOf_2 (by decide) rfl cw_RX9_204 okX9_requireClue rfl (Nat.le_of_ble_eq_true rfl) ⟨Nat.le_of_ble_eq_true rfl, Nat.le_of_ble_eq_true rfl, Nat.le_of_ble_eq_true rfl, Nat.le_of_ble_eq_true rfl⟩ ?_
  refine zx_aloadN dX9_pageOf_5 rfl rfl ?_
  refine zy_getR (q' := 30) fl_RX9_33 rfl dX9_pageOf_6 rfl ?_
  refine zy_getR (q' := 42) fl_RX9_125 rfl dX9_pageOf_9 rfl ?_
  refine zy_getR (q' := 43) fl_RX9_213 rfl dX9_pageOf_12 rfl ?_
  refine zx_iloadN dX9_pageOf_15 rfl rfl ?_
  refine zy_iald (v := σ.1 43 x.toNat) rfl (by decide) (by decide) dX9_pageOf_16 (by omega) (by omega) rfl ?_
  refine zx_iret rfl rfl dX9_pageOf_17 ?_
  rw [hQ]
  refine ⟨congrArg (fun z : Int => (Sum.inl (some (zi z)) : Option zV ⊕ String)) ?_, by first | rfl | (exfalso; omega)⟩
  first | rfl | omega | (split <;> first | rfl | omega)
set_option maxRecDepth 20000 in
set_option maxHeartbeats 2000000 in
theorem sX9_weightOf_t0 {l : Launch} {w : zW} (hfl : l.stackTraces = false) {σ : zS} {x : Int} (hz : zOK σ) (hW : WF (bk σ 30)) (hx : zr x) (hw0 : ¬ (0 ≤ x ∧ x < σ.1 42 0)) : Sp l w mX9_weightOf 7 1 [zf 9 0, zi x] σ (zthr "java/lang/IndexOutOfBoundsException" σ) := by
  obtain ⟨Q, hQ⟩ : ∃ Q : zQ, Q = (zthr "java/lang/IndexOutOfBoundsException" σ) := ⟨_, rfl⟩
  rw [← hQ]
  refine zx_enter hfl (by decide) rfl 0 rfl ?_
  show zX l w mX9_weightOf (zMQ w 7 1 Q) 0 [zf 9 0, zi x] [] 0 σ
  have hP : 0 ≤ σ.1 31 0 ∧ σ.1 31 0 ≤ 8 := hW.1.1
  have hM : 0 ≤ σ.1 31 7 ∧ σ.1 31 7 ≤ 8 := hW.1.2.1
  have hE : 0 ≤ σ.1 31 10 ∧ σ.1 31 10 ≤ 12 := hW.1.2.2.1
  have hK : 0 ≤ σ.1 42 0 ∧ σ.1 42 0 ≤ 40 := hW.1.2.2.2
  refine zx_aloadN dX9_weightOf_0 rfl rfl ?_
  refine zx_iloadN dX9_weightOf_1 rfl rfl ?_
  refine zy_cvt [zi x] (sX9_requireClue_t  hfl hz (by first | exact hz _ _ | assumption | exact zr_b _ | exact zcmp_r _ _ | (unfold zr at *; omega)) (by first | assumption | omega)) dX9_weightOf_2 (by decide) rfl cw_RX9_204 okX9_requireClue rfl (Nat.le_of_ble_eq_true rfl) ⟨Nat.le_of_ble_eq_true rfl, Nat.le_of_ble_eq_true rfl, Nat.le_of_ble_eq_true rfl, Nat.le_of_ble_eq_true rfl⟩ ?_
  refine zxt_out rfl ?_
  rw [hQ]
  exact ⟨rfl, by first | rfl | (exfalso; omega)⟩
set_option maxRecDepth 20000 in
set_option maxHeartbeats 2000000 in
theorem sX9_weightOf {l : Launch} {w : zW} (hfl : l.stackTraces = false) {σ : zS} {x : Int} (hz : zOK σ) (hW : WF (bk σ 30)) (hx : zr x) (hw0 : 0 ≤ x ∧ x < σ.1 42 0) : Sp l w mX9_weightOf 7 0 [zf 9 0, zi x] σ (zret (zi (σ.1 46 x.toNat)) σ) := by
  obtain ⟨Q, hQ⟩ : ∃ Q : zQ, Q = (zret (zi (σ.1 46 x.toNat)) σ) := ⟨_, rfl⟩
  rw [← hQ]
  refine zx_enter hfl (by decide) rfl 0 rfl ?_
  show zX l w mX9_weightOf (zMQ w 7 0 Q) 0 [zf 9 0, zi x] [] 0 σ
  have hP : 0 ≤ σ.1 31 0 ∧ σ.1 31 0 ≤ 8 := hW.1.1
  have hM : 0 ≤ σ.1 31 7 ∧ σ.1 31 7 ≤ 8 := hW.1.2.1
  have hE : 0 ≤ σ.1 31 10 ∧ σ.1 31 10 ≤ 12 := hW.1.2.2.1
  have hK : 0 ≤ σ.1 42 0 ∧ σ.1 42 0 ≤ 40 := hW.1.2.2.2
  refine zx_aloadN dX9_weightOf_0 rfl rfl ?_
  refine zx_iloadN dX9_weightOf_1 rfl rfl ?_
  refine zy_cvv [zi x] (sX9_requireClue  hfl hz (by first | exact hz _ _ | assumption | exact zr_b _ | exact zcmp_r _ _ | (unfold zr at *; omega)) (by first | assumption | omega)) dX9_weightOf_2 (by decide) rfl cw_RX9_204 okX9_requireClue rfl (Nat.le_of_ble_eq_true rfl) ⟨Nat.le_of_ble_eq_true rfl, Nat.le_of_ble_eq_true rfl, Nat.le_of_ble_eq_true rfl, Nat.le_of_ble_eq_true rfl⟩ ?_
  refine zx_aloadN dX9_weightOf_5 rfl rfl ?_
  refine zy_getR (q' := 30) fl_RX9_33 rfl dX9_weightOf_6 rfl ?_
  refine zy_getR (q' := 42) fl_RX9_125 rfl dX9_weightOf_9 rfl ?_
  refine zy_getR (q' := 46) fl_RX9_216 rfl dX9_weightOf_12 rfl ?_
  refine zx_iloadN dX9_weightOf_15 rfl rfl ?_
  refine zy_iald (v := σ.1 46 x.toNat) rfl (by decide) (by decide) dX9_weightOf_16 (by omega) (by omega) rfl ?_
  refine zx_iret rfl rfl dX9_weightOf_17 ?_
  rw [hQ]
  refine ⟨congrArg (fun z : Int => (Sum.inl (some (zi z)) : Option zV ⊕ String)) ?_, by first | rfl | (exfalso; omega)⟩
  first | rfl | omega | (split <;> first | rfl | omega)
set_option maxRecDepth 20000 in
set_option maxHeartbeats 2000000 in
theorem sX9_isRead_t0 {l : Launch} {w : zW} (hfl : l.stackTraces = false) {σ : zS} {x : Int} (hz : zOK σ) (hW : WF (bk σ 30)) (hx : zr x) (hw0 : ¬ (0 ≤ x ∧ x < σ.1 42 0)) : Sp l w mX9_isRead 7 1 [zf 9 0, zi x] σ (zthr "java/lang/IndexOutOfBoundsException" σ) := by
  obtain ⟨Q, hQ⟩ : ∃ Q : zQ, Q = (zthr "java/lang/IndexOutOfBoundsException" σ) := ⟨_, rfl⟩
  rw [← hQ]
  refine zx_enter hfl (by decide) rfl 0 rfl ?_
  show zX l w mX9_isRead (zMQ w 7 1 Q) 0 [zf 9 0, zi x] [] 0 σ
  have hP : 0 ≤ σ.1 31 0 ∧ σ.1 31 0 ≤ 8 := hW.1.1
  have hM : 0 ≤ σ.1 31 7 ∧ σ.1 31 7 ≤ 8 := hW.1.2.1
  have hE : 0 ≤ σ.1 31 10 ∧ σ.1 31 10 ≤ 12 := hW.1.2.2.1
  have hK : 0 ≤ σ.1 42 0 ∧ σ.1 42 0 ≤ 40 := hW.1.2.2.2
  refine zx_aloadN dX9_isRead_0 rfl rfl ?_
  refine zx_iloadN dX9_isRead_1 rfl rfl ?_
  refine zy_cvt [zi x] (sX9_requireClue_t  hfl hz (by first | exact hz _ _ | assumption | exact zr_b _ | exact zcmp_r _ _ | (unfold zr at *; omega)) (by first | assumption | omega)) dX9_isRead_2 (by decide) rfl cw_RX9_204 okX9_requireClue rfl (Nat.le_of_ble_eq_true rfl) ⟨Nat.le_of_ble_eq_true rfl, Nat.le_of_ble_eq_true rfl, Nat.le_of_ble_eq_true rfl, Nat.le_of_ble_eq_true rfl⟩ ?_
  refine zxt_out rfl ?_
  rw [hQ]
  exact ⟨rfl, by first | rfl | (exfalso; omega)⟩
set_option maxRecDepth 20000 in
set_option maxHeartbeats 2000000 in
theorem sX9_isRead {l : Launch} {w : zW} (hfl : l.stackTraces = false) {σ : zS} {x : Int} (hz : zOK σ) (hW : WF (bk σ 30)) (hx : zr x) (hw0 : 0 ≤ x ∧ x < σ.1 42 0) : Sp l w mX9_isRead 7 0 [zf 9 0, zi x] σ (zret (zi (σ.1 47 x.toNat)) σ) := by
  obtain ⟨Q, hQ⟩ : ∃ Q : zQ, Q = (zret (zi (σ.1 47 x.toNat)) σ) := ⟨_, rfl⟩
  rw [← hQ]
  refine zx_enter hfl (by decide) rfl 0 rfl ?_
  show zX l w mX9_isRead (zMQ w 7 0 Q) 0 [zf 9 0, zi x] [] 0 σ
  have hP : 0 ≤ σ.1 31 0 ∧ σ.1 31 0 ≤ 8 := hW.1.1
  have hM : 0 ≤ σ.1 31 7 ∧ σ.1 31 7 ≤ 8 := hW.1.2.1
  have hE : 0 ≤ σ.1 31 10 ∧ σ.1 31 10 ≤ 12 := hW.1.2.2.1
  have hK : 0 ≤ σ.1 42 0 ∧ σ.1 42 0 ≤ 40 := hW.1.2.2.2
  have hb := (hW.2.2.2.2.1 x.toNat (by show ((x.toNat : Nat) : Int) < σ.1 42 0; omega)).2.2.2
  have hb01 : σ.1 47 x.toNat = 0 ∨ σ.1 47 x.toNat = 1 := hb.1
  refine zx_aloadN dX9_isRead_0 rfl rfl ?_
  refine zx_iloadN dX9_isRead_1 rfl rfl ?_
  refine zy_cvv [zi x] (sX9_requireClue  hfl hz (by first | exact hz _ _ | assumption | exact zr_b _ | exact zcmp_r _ _ | (unfold zr at *; omega)) (by first | assumption | omega)) dX9_isRead_2 (by decide) rfl cw_RX9_204 okX9_requireClue rfl (Nat.le_of_ble_eq_true rfl) ⟨Nat.le_of_ble_eq_true rfl, Nat.le_of_ble_eq_true rfl, Nat.le_of_ble_eq_true rfl, Nat.le_of_ble_eq_true rfl⟩ ?_
  refine zx_aloadN dX9_isRead_5 rfl rfl ?_
  refine zy_getR (q' := 30) fl_RX9_33 rfl dX9_isRead_6 rfl ?_
  refine zy_getR (q' := 42) fl_RX9_125 rfl dX9_isRead_9 rfl ?_
  refine zy_getR (q' := 47) fl_RX9_219 rfl dX9_isRead_12 rfl ?_
  refine zx_iloadN dX9_isRead_15 rfl rfl ?_
  refine zy_zald (v := σ.1 47 x.toNat) rfl (by decide) (by decide) dX9_isRead_16 (by omega) (by omega) rfl ?_
  refine zx_iret rfl (zb_nar01 (by first | assumption | omega)) dX9_isRead_17 ?_
  rw [hQ]
  refine ⟨congrArg (fun z : Int => (Sum.inl (some (zi z)) : Option zV ⊕ String)) ?_, by first | rfl | (exfalso; omega)⟩
  first | rfl | omega | (split <;> first | rfl | omega)
set_option maxRecDepth 20000 in
set_option maxHeartbeats 2000000 in
theorem sX9_isAside_t0 {l : Launch} {w : zW} (hfl : l.stackTraces = false) {σ : zS} {x : Int} (hz : zOK σ) (hW : WF (bk σ 30)) (hx : zr x) (hw0 : ¬ (0 ≤ x ∧ x < σ.1 42 0)) : Sp l w mX9_isAside 7 1 [zf 9 0, zi x] σ (zthr "java/lang/IndexOutOfBoundsException" σ) := by
  obtain ⟨Q, hQ⟩ : ∃ Q : zQ, Q = (zthr "java/lang/IndexOutOfBoundsException" σ) := ⟨_, rfl⟩
  rw [← hQ]
  refine zx_enter hfl (by decide) rfl 0 rfl ?_
  show zX l w mX9_isAside (zMQ w 7 1 Q) 0 [zf 9 0, zi x] [] 0 σ
  have hP : 0 ≤ σ.1 31 0 ∧ σ.1 31 0 ≤ 8 := hW.1.1
  have hM : 0 ≤ σ.1 31 7 ∧ σ.1 31 7 ≤ 8 := hW.1.2.1
  have hE : 0 ≤ σ.1 31 10 ∧ σ.1 31 10 ≤ 12 := hW.1.2.2.1
  have hK : 0 ≤ σ.1 42 0 ∧ σ.1 42 0 ≤ 40 := hW.1.2.2.2
  refine zx_aloadN dX9_isAside_0 rfl rfl ?_
  refine zx_iloadN dX9_isAside_1 rfl rfl ?_
  refine zy_cvt [zi x] (sX9_requireClue_t  hfl hz (by first | exact hz _ _ | assumption | exact zr_b _ | exact zcmp_r _ _ | (unfold zr at *; omega)) (by first | assumption | omega)) dX9_isAside_2 (by decide) rfl cw_RX9_204 okX9_requireClue rfl (Nat.le_of_ble_eq_true rfl) ⟨Nat.le_of_ble_eq_true rfl, Nat.le_of_ble_eq_true rfl, Nat.le_of_ble_eq_true rfl, Nat.le_of_ble_eq_true rfl⟩ ?_
  refine zxt_out rfl ?_
  rw [hQ]
  exact ⟨rfl, by first | rfl | (exfalso; omega)⟩
set_option maxRecDepth 20000 in
set_option maxHeartbeats 2000000 in
theorem sX9_isAside {l : Launch} {w : zW} (hfl : l.stackTraces = false) {σ : zS} {x : Int} (hz : zOK σ) (hW : WF (bk σ 30)) (hx : zr x) (hw0 : 0 ≤ x ∧ x < σ.1 42 0) : Sp l w mX9_isAside 7 0 [zf 9 0, zi x] σ (zret (zi (σ.1 48 x.toNat)) σ) := by
  obtain ⟨Q, hQ⟩ : ∃ Q : zQ, Q = (zret (zi (σ.1 48 x.toNat)) σ) := ⟨_, rfl⟩
  rw [← hQ]
  refine zx_enter hfl (by decide) rfl 0 rfl ?_
  show zX l w mX9_isAside (zMQ w 7 0 Q) 0 [zf 9 0, zi x] [] 0 σ
  have hP : 0 ≤ σ.1 31 0 ∧ σ.1 31 0 ≤ 8 := hW.1.1
  have hM : 0 ≤ σ.1 31 7 ∧ σ.1 31 7 ≤ 8 := hW.1.2.1
  have hE : 0 ≤ σ.1 31 10 ∧ σ.1 31 10 ≤ 12 := hW.1.2.2.1
  have hK : 0 ≤ σ.1 42 0 ∧ σ.1 42 0 ≤ 40 := hW.1.2.2.2
  have hb := (hW.2.2.2.2.1 x.toNat (by show ((x.toNat : Nat) : Int) < σ.1 42 0; omega)).2.2.2
  have hb01 : σ.1 48 x.toNat = 0 ∨ σ.1 48 x.toNat = 1 := hb.2
  refine zx_aloadN dX9_isAside_0 rfl rfl ?_
  refine zx_iloadN dX9_isAside_1 rfl rfl ?_
  refine zy_cvv [zi x] (sX9_requireClue  hfl hz (by first | exact hz _ _ | assumption | exact zr_b _ | exact zcmp_r _ _ | (unfold zr at *; omega)) (by first | assumption | omega)) dX9_isAside_2 (by decide) rfl cw_RX9_204 okX9_requireClue rfl (Nat.le_of_ble_eq_true rfl) ⟨Nat.le_of_ble_eq_true rfl, Nat.le_of_ble_eq_true rfl, Nat.le_of_ble_eq_true rfl, Nat.le_of_ble_eq_true rfl⟩ ?_
  refine zx_aloadN dX9_isAside_5 rfl rfl ?_
  refine zy_getR (q' := 30) fl_RX9_33 rfl dX9_isAside_6 rfl ?_
  refine zy_getR (q' := 42) fl_RX9_125 rfl dX9_isAside_9 rfl ?_
  refine zy_getR (q' := 48) fl_RX9_223 rfl dX9_isAside_12 rfl ?_
  refine zx_iloadN dX9_isAside_15 rfl rfl ?_
  refine zy_zald (v := σ.1 48 x.toNat) rfl (by decide) (by decide) dX9_isAside_16 (by omega) (by omega) rfl ?_
  refine zx_iret rfl (zb_nar01 (by first | assumption | omega)) dX9_isAside_17 ?_
  rw [hQ]
  refine ⟨congrArg (fun z : Int => (Sum.inl (some (zi z)) : Option zV ⊕ String)) ?_, by first | rfl | (exfalso; omega)⟩
  first | rfl | omega | (split <;> first | rfl | omega)
set_option maxRecDepth 20000 in
set_option maxHeartbeats 2000000 in
theorem sX9_clueInOrder {l : Launch} {w : zW} (hfl : l.stackTraces = false) {σ : zS} {x : Int} (hz : zOK σ) (hW : WF (bk σ 30)) (hx : zr x) : Sp l w mX9_clueInOrder 1 0 [zf 9 0, zi x] σ (zret (zi (if 0 ≤ x ∧ x < σ.1 42 0 then σ.1 49 x.toNat else -1)) σ) := by
  obtain ⟨Q, hQ⟩ : ∃ Q : zQ, Q = (zret (zi (if 0 ≤ x ∧ x < σ.1 42 0 then σ.1 49 x.toNat else -1)) σ) := ⟨_, rfl⟩
  rw [← hQ]
  refine zx_enter hfl (by decide) rfl 0 rfl ?_
  show zX l w mX9_clueInOrder (zMQ w 1 0 Q) 0 [zf 9 0, zi x] [] 0 σ
  have hP : 0 ≤ σ.1 31 0 ∧ σ.1 31 0 ≤ 8 := hW.1.1
  have hM : 0 ≤ σ.1 31 7 ∧ σ.1 31 7 ≤ 8 := hW.1.2.1
  have hE : 0 ≤ σ.1 31 10 ∧ σ.1 31 10 ≤ 12 := hW.1.2.2.1
  have hK : 0 ≤ σ.1 42 0 ∧ σ.1 42 0 ≤ 40 := hW.1.2.2.2
  refine zx_aloadN dX9_clueInOrder_0 rfl rfl ?_
  refine zy_getR (q' := 30) fl_RX9_33 rfl dX9_clueInOrder_1 rfl ?_
  refine zy_getR (q' := 42) fl_RX9_125 rfl dX9_clueInOrder_4 rfl ?_
  refine zx_iloadN dX9_clueInOrder_7 rfl rfl ?_
  refine zy_cv [zi x] (sX2_clueAt  hfl hz (by first | exact hz _ _ | assumption | exact zr_b _ | exact zcmp_r _ _ | (unfold zr at *; omega)) (by first | assumption | omega)) dX9_clueInOrder_8 (by decide) rfl cw_RX9_226 okX2_clueAt rfl (Nat.le_of_ble_eq_true rfl) ⟨Nat.le_of_ble_eq_true rfl, Nat.le_of_ble_eq_true rfl, Nat.le_of_ble_eq_true rfl, Nat.le_of_ble_eq_true rfl⟩ ?_
  refine zy_top (b := if 0 ≤ x ∧ x < σ.1 42 0 then σ.1 49 x.toNat else -1) rfl ?_
  refine zx_iret rfl rfl dX9_clueInOrder_11 ?_
  rw [hQ]
  refine ⟨congrArg (fun z : Int => (Sum.inl (some (zi z)) : Option zV ⊕ String)) ?_, by first | rfl | (exfalso; omega)⟩
  first | rfl | omega | (split <;> first | rfl | omega)
set_option maxRecDepth 20000 in
set_option maxHeartbeats 2000000 in
theorem sX9_nextClue {l : Launch} {w : zW} (hfl : l.stackTraces = false) {σ : zS}  (hz : zOK σ) (hW : WF (bk σ 30)) : Sp l w mX9_nextClue 3 0 [zf 9 0] σ (zret (zi (nxU (bk σ 30))) σ) := by
  obtain ⟨Q, hQ⟩ : ∃ Q : zQ, Q = (zret (zi (nxU (bk σ 30))) σ) := ⟨_, rfl⟩
  rw [← hQ]
  refine zx_enter hfl (by decide) rfl 0 rfl ?_
  show zX l w mX9_nextClue (zMQ w 3 0 Q) 0 [zf 9 0] [] 0 σ
  have hP : 0 ≤ σ.1 31 0 ∧ σ.1 31 0 ≤ 8 := hW.1.1
  have hM : 0 ≤ σ.1 31 7 ∧ σ.1 31 7 ≤ 8 := hW.1.2.1
  have hE : 0 ≤ σ.1 31 10 ∧ σ.1 31 10 ≤ 12 := hW.1.2.2.1
  have hK : 0 ≤ σ.1 42 0 ∧ σ.1 42 0 ≤ 40 := hW.1.2.2.2
  refine zx_aloadN dX9_nextClue_0 rfl rfl ?_
  refine zy_getR (q' := 30) fl_RX9_33 rfl dX9_nextClue_1 rfl ?_
  refine zy_getR (q' := 42) fl_RX9_125 rfl dX9_nextClue_4 rfl ?_
  refine zy_cv [] (sX2_firstUnread  hfl hz (by first | assumption | omega)) dX9_nextClue_7 (by decide) rfl cw_RX9_229 okX2_firstUnread rfl (Nat.le_of_ble_eq_true rfl) ⟨Nat.le_of_ble_eq_true rfl, Nat.le_of_ble_eq_true rfl, Nat.le_of_ble_eq_true rfl, Nat.le_of_ble_eq_true rfl⟩ ?_
  refine zy_top (b := if zfst (fun i => 0 ≤ σ.1 49 i ∧ σ.1 49 i < σ.1 42 0 ∧ σ.1 47 (σ.1 49 i).toNat = 0) (σ.1 42 0).toNat = -1 then -1 else σ.1 49 (zfst (fun i => 0 ≤ σ.1 49 i ∧ σ.1 49 i < σ.1 42 0 ∧ σ.1 47 (σ.1 49 i).toNat = 0) (σ.1 42 0).toNat).toNat) rfl ?_
  refine zx_iret rfl rfl dX9_nextClue_10 ?_
  rw [hQ]
  refine ⟨congrArg (fun z : Int => (Sum.inl (some (zi z)) : Option zV ⊕ String)) ?_, by first | rfl | (exfalso; omega)⟩
  unfold nxU
  rw [zfst_congr (Q := fun i => bk σ 30 17 (bk σ 30 19 i).toNat = 0) (fun j hj => ⟨fun q => q.2.2, fun q => ⟨(hW.2.2.2.2.2.1 j (by show (j : Int) < σ.1 42 0; omega)).1, (hW.2.2.2.2.2.1 j (by show (j : Int) < σ.1 42 0; omega)).2, q⟩⟩)]
  rfl
set_option maxRecDepth 20000 in
set_option maxHeartbeats 2000000 in
theorem sX9_countingWeight {l : Launch} {w : zW} (hfl : l.stackTraces = false) {σ : zS}  (hz : zOK σ) (hW : WF (bk σ 30)) : Sp l w mX9_countingWeight 2 0 [zf 9 0] σ (zret (zi (cW (bk σ 30))) σ) := by
  obtain ⟨Q, hQ⟩ : ∃ Q : zQ, Q = (zret (zi (cW (bk σ 30))) σ) := ⟨_, rfl⟩
  rw [← hQ]
  refine zx_enter hfl (by decide) rfl 2 rfl ?_
  show zX l w mX9_countingWeight (zMQ w 2 0 Q) 0 [zf 9 0, zu, zu] [] 0 σ
  have hP : 0 ≤ σ.1 31 0 ∧ σ.1 31 0 ≤ 8 := hW.1.1
  have hM : 0 ≤ σ.1 31 7 ∧ σ.1 31 7 ≤ 8 := hW.1.2.1
  have hE : 0 ≤ σ.1 31 10 ∧ σ.1 31 10 ≤ 12 := hW.1.2.2.1
  have hK : 0 ≤ σ.1 42 0 ∧ σ.1 42 0 ≤ 40 := hW.1.2.2.2
  refine zx_iconst dX9_countingWeight_0 ?_
  refine zy_istoreN [zf 9 0, zi 0, zu] dX9_countingWeight_1 rfl (Nat.le_of_ble_eq_true rfl) (Nat.le_of_ble_eq_true rfl) rfl rfl ?_
  refine zx_iconst dX9_countingWeight_2 ?_
  refine zy_istoreN [zf 9 0, zi 0, zi 0] dX9_countingWeight_3 rfl (Nat.le_of_ble_eq_true rfl) (Nat.le_of_ble_eq_true rfl) rfl rfl ?_
  have L4 : ∀ (N : Nat) (c : Nat) (acc : Int), ((c : Int) ≤ σ.1 42 0) → (acc = zs (fun c => zif (Ht (bk σ 30) c) (bk σ 30 16 c)) c) → (41 - c) < N → zX l w mX9_countingWeight (zMQ w 2 0 Q) 4 [zf 9 0, zi acc, zi ((c : Nat) : Int)] [] 0 σ := by
    intro N
    induction N with
    | zero => intro c acc _ _ _; exact absurd (by assumption) (Nat.not_lt_zero _)
    | succ N ih4 =>
      intro c acc hc hacc hN
      refine zx_iloadN dX9_countingWeight_4 rfl rfl ?_
      refine zx_aloadN dX9_countingWeight_5 rfl rfl ?_
      refine zy_getR (q' := 30) fl_RX9_33 rfl dX9_countingWeight_6 rfl ?_
      refine zy_getR (q' := 42) fl_RX9_125 rfl dX9_countingWeight_9 rfl ?_
      refine zy_getI fl_RX9_129 rfl dX9_countingWeight_12 rfl ?_
      refine zx_icmp_ge (tgt := 53) (by first | exact hz _ _ | assumption | exact zr_b _ | exact zcmp_r _ _ | (unfold zr at *; omega)) (by first | exact hz _ _ | assumption | exact zr_b _ | exact zcmp_r _ _ | (unfold zr at *; omega)) dX9_countingWeight_15 (by decide) (fun h15 => ?_) (fun h15 => ?_)
      · refine zx_iloadN dX9_countingWeight_53 rfl rfl ?_
        refine zx_iret rfl rfl dX9_countingWeight_54 ?_
        rw [hQ]
        refine ⟨congrArg (fun z : Int => (Sum.inl (some (zi z)) : Option zV ⊕ String)) ?_, by first | rfl | (exfalso; omega)⟩
        rw [hacc]; unfold cW; congr 1; show c = (σ.1 42 0).toNat; omega
      · refine zx_aloadN dX9_countingWeight_18 rfl rfl ?_
        refine zy_getR (q' := 30) fl_RX9_33 rfl dX9_countingWeight_19 rfl ?_
        refine zy_getR (q' := 42) fl_RX9_125 rfl dX9_countingWeight_22 rfl ?_
        refine zx_iloadN dX9_countingWeight_25 rfl rfl ?_
        refine zy_cv [zi ((c : Nat) : Int)] (sX2_counts  hfl hz (by first | exact hz _ _ | assumption | exact zr_b _ | exact zcmp_r _ _ | (unfold zr at *; omega)) (by first | assumption | omega)) dX9_countingWeight_26 (by decide) rfl cw_RX9_233 okX2_counts rfl (Nat.le_of_ble_eq_true rfl) ⟨Nat.le_of_ble_eq_true rfl, Nat.le_of_ble_eq_true rfl, Nat.le_of_ble_eq_true rfl, Nat.le_of_ble_eq_true rfl⟩ ?_
        refine zy_top (b := zb (0 ≤ ((c : Nat) : Int) ∧ ((c : Nat) : Int) < σ.1 42 0 ∧ ¬ σ.1 47 c = 0 ∧ σ.1 48 c = 0)) rfl ?_
        refine zx_if_eq (tgt := 47) (by first | exact hz _ _ | assumption | exact zr_b _ | exact zcmp_r _ _ | (unfold zr at *; omega)) dX9_countingWeight_29 (by decide) (fun h29 => ?_) (fun h29 => ?_)
        · have h29 := zb_0.mp h29
          refine zy_iinc (b := ((c + 1 : Nat) : Int)) [zf 9 0, zi acc, zi ((c + 1 : Nat) : Int)] dX9_countingWeight_47 rfl (by omega) (Nat.le_of_ble_eq_true rfl) rfl rfl ?_
          refine zx_goto (tgt := 4) dX9_countingWeight_50 (by decide) ?_
          exact ih4 (c + 1) acc (by first | assumption | omega) (by subst hacc; first | exact zsw_t (P := Ht (bk σ 30)) (v := bk σ 30 16) h29.2.2 | exact zsw_f (P := Ht (bk σ 30)) (v := bk σ 30 16) (fun q => h29 ⟨by omega, by omega, q⟩)) (by omega)
        · have h29 := zb_n.mp h29
          refine zx_iloadN dX9_countingWeight_32 rfl rfl ?_
          refine zx_aloadN dX9_countingWeight_33 rfl rfl ?_
          refine zy_getR (q' := 30) fl_RX9_33 rfl dX9_countingWeight_34 rfl ?_
          refine zy_getR (q' := 42) fl_RX9_125 rfl dX9_countingWeight_37 rfl ?_
          refine zy_getR (q' := 46) fl_RX9_216 rfl dX9_countingWeight_40 rfl ?_
          refine zx_iloadN dX9_countingWeight_43 rfl rfl ?_
          refine zy_iald (v := σ.1 46 c) rfl (by decide) (by decide) dX9_countingWeight_44 (by omega) (by omega) rfl ?_
          refine zx_iadd dX9_countingWeight_45 ?_
          refine zy_istoreN [zf 9 0, zi (acc + (σ.1 46 c)), zi ((c : Nat) : Int)] dX9_countingWeight_46 rfl (Nat.le_of_ble_eq_true rfl) (Nat.le_of_ble_eq_true rfl) rfl rfl ?_
          refine zy_iinc (b := ((c + 1 : Nat) : Int)) [zf 9 0, zi (acc + (σ.1 46 c)), zi ((c + 1 : Nat) : Int)] dX9_countingWeight_47 rfl (by omega) (Nat.le_of_ble_eq_true rfl) rfl rfl ?_
          refine zx_goto (tgt := 4) dX9_countingWeight_50 (by decide) ?_
          exact ih4 (c + 1) (acc + (σ.1 46 c)) (by first | assumption | omega) (by subst hacc; first | exact zsw_t (P := Ht (bk σ 30)) (v := bk σ 30 16) h29.2.2 | exact zsw_f (P := Ht (bk σ 30)) (v := bk σ 30 16) (fun q => h29 ⟨by omega, by omega, q⟩)) (by omega)
  exact L4 _ 0 0 (by first | assumption | omega) rfl (Nat.lt_succ_self _)
set_option maxRecDepth 20000 in
set_option maxHeartbeats 2000000 in
theorem sX9_explains_t0 {l : Launch} {w : zW} (hfl : l.stackTraces = false) {σ : zS} {x y u : Int} (hz : zOK σ) (hW : WF (bk σ 30)) (hx : zr x) (hy : zr y) (hu : zr u) (hw0 : ¬ (0 ≤ x ∧ x < σ.1 31 0)) : Sp l w mX9_explains 7 1 [zf 9 0, zi x, zi y, zi u] σ (zthr "java/lang/IndexOutOfBoundsException" σ) := by
  obtain ⟨Q, hQ⟩ : ∃ Q : zQ, Q = (zthr "java/lang/IndexOutOfBoundsException" σ) := ⟨_, rfl⟩
  rw [← hQ]
  refine zx_enter hfl (by decide) rfl 0 rfl ?_
  show zX l w mX9_explains (zMQ w 7 1 Q) 0 [zf 9 0, zi x, zi y, zi u] [] 0 σ
  have hP : 0 ≤ σ.1 31 0 ∧ σ.1 31 0 ≤ 8 := hW.1.1
  have hM : 0 ≤ σ.1 31 7 ∧ σ.1 31 7 ≤ 8 := hW.1.2.1
  have hE : 0 ≤ σ.1 31 10 ∧ σ.1 31 10 ≤ 12 := hW.1.2.2.1
  have hK : 0 ≤ σ.1 42 0 ∧ σ.1 42 0 ≤ 40 := hW.1.2.2.2
  refine zx_aloadN dX9_explains_0 rfl rfl ?_
  refine zx_iloadN dX9_explains_1 rfl rfl ?_
  refine zy_cvt [zi x] (sX9_requirePrinter_t  hfl hz (by first | exact hz _ _ | assumption | exact zr_b _ | exact zcmp_r _ _ | (unfold zr at *; omega)) (by first | assumption | omega)) dX9_explains_2 (by decide) rfl cw_RX9_172 okX9_requirePrinter rfl (Nat.le_of_ble_eq_true rfl) ⟨Nat.le_of_ble_eq_true rfl, Nat.le_of_ble_eq_true rfl, Nat.le_of_ble_eq_true rfl, Nat.le_of_ble_eq_true rfl⟩ ?_
  refine zxt_out rfl ?_
  rw [hQ]
  exact ⟨rfl, by first | rfl | (exfalso; omega)⟩
set_option maxRecDepth 20000 in
set_option maxHeartbeats 2000000 in
theorem sX9_explains_t1 {l : Launch} {w : zW} (hfl : l.stackTraces = false) {σ : zS} {x y u : Int} (hz : zOK σ) (hW : WF (bk σ 30)) (hx : zr x) (hy : zr y) (hu : zr u) (hw0 : 0 ≤ x ∧ x < σ.1 31 0) (hw1 : ¬ (0 ≤ u ∧ u < σ.1 42 0)) : Sp l w mX9_explains 7 1 [zf 9 0, zi x, zi y, zi u] σ (zthr "java/lang/IndexOutOfBoundsException" σ) := by
  obtain ⟨Q, hQ⟩ : ∃ Q : zQ, Q = (zthr "java/lang/IndexOutOfBoundsException" σ) := ⟨_, rfl⟩
  rw [← hQ]
  refine zx_enter hfl (by decide) rfl 0 rfl ?_
  show zX l w mX9_explains (zMQ w 7 1 Q) 0 [zf 9 0, zi x, zi y, zi u] [] 0 σ
  have hP : 0 ≤ σ.1 31 0 ∧ σ.1 31 0 ≤ 8 := hW.1.1
  have hM : 0 ≤ σ.1 31 7 ∧ σ.1 31 7 ≤ 8 := hW.1.2.1
  have hE : 0 ≤ σ.1 31 10 ∧ σ.1 31 10 ≤ 12 := hW.1.2.2.1
  have hK : 0 ≤ σ.1 42 0 ∧ σ.1 42 0 ≤ 40 := hW.1.2.2.2
  refine zx_aloadN dX9_explains_0 rfl rfl ?_
  refine zx_iloadN dX9_explains_1 rfl rfl ?_
  refine zy_cvv [zi x] (sX9_requirePrinter  hfl hz (by first | exact hz _ _ | assumption | exact zr_b _ | exact zcmp_r _ _ | (unfold zr at *; omega)) (by first | assumption | omega)) dX9_explains_2 (by decide) rfl cw_RX9_172 okX9_requirePrinter rfl (Nat.le_of_ble_eq_true rfl) ⟨Nat.le_of_ble_eq_true rfl, Nat.le_of_ble_eq_true rfl, Nat.le_of_ble_eq_true rfl, Nat.le_of_ble_eq_true rfl⟩ ?_
  refine zx_aloadN dX9_explains_5 rfl rfl ?_
  refine zx_iloadN dX9_explains_6 rfl rfl ?_
  refine zy_cvt [zi u] (sX9_requireClue_t  hfl hz (by first | exact hz _ _ | assumption | exact zr_b _ | exact zcmp_r _ _ | (unfold zr at *; omega)) (by first | assumption | omega)) dX9_explains_7 (by decide) rfl cw_RX9_204 okX9_requireClue rfl (Nat.le_of_ble_eq_true rfl) ⟨Nat.le_of_ble_eq_true rfl, Nat.le_of_ble_eq_true rfl, Nat.le_of_ble_eq_true rfl, Nat.le_of_ble_eq_true rfl⟩ ?_
  refine zxt_out rfl ?_
  rw [hQ]
  exact ⟨rfl, by first | rfl | (exfalso; omega)⟩
set_option maxRecDepth 20000 in
set_option maxHeartbeats 2000000 in
theorem sX9_explains_t2 {l : Launch} {w : zW} (hfl : l.stackTraces = false) {σ : zS} {x y u : Int} (hz : zOK σ) (hW : WF (bk σ 30)) (hx : zr x) (hy : zr y) (hu : zr u) (hw0 : 0 ≤ x ∧ x < σ.1 31 0) (hw1 : 0 ≤ u ∧ u < σ.1 42 0) (hw2 : ¬ (1450 ≤ y ∧ y ≤ 1999)) : Sp l w mX9_explains 7 1 [zf 9 0, zi x, zi y, zi u] σ (zthr "java/lang/IllegalArgumentException" σ) := by
  obtain ⟨Q, hQ⟩ : ∃ Q : zQ, Q = (zthr "java/lang/IllegalArgumentException" σ) := ⟨_, rfl⟩
  rw [← hQ]
  refine zx_enter hfl (by decide) rfl 0 rfl ?_
  show zX l w mX9_explains (zMQ w 7 1 Q) 0 [zf 9 0, zi x, zi y, zi u] [] 0 σ
  have hP : 0 ≤ σ.1 31 0 ∧ σ.1 31 0 ≤ 8 := hW.1.1
  have hM : 0 ≤ σ.1 31 7 ∧ σ.1 31 7 ≤ 8 := hW.1.2.1
  have hE : 0 ≤ σ.1 31 10 ∧ σ.1 31 10 ≤ 12 := hW.1.2.2.1
  have hK : 0 ≤ σ.1 42 0 ∧ σ.1 42 0 ≤ 40 := hW.1.2.2.2
  refine zx_aloadN dX9_explains_0 rfl rfl ?_
  refine zx_iloadN dX9_explains_1 rfl rfl ?_
  refine zy_cvv [zi x] (sX9_requirePrinter  hfl hz (by first | exact hz _ _ | assumption | exact zr_b _ | exact zcmp_r _ _ | (unfold zr at *; omega)) (by first | assumption | omega)) dX9_explains_2 (by decide) rfl cw_RX9_172 okX9_requirePrinter rfl (Nat.le_of_ble_eq_true rfl) ⟨Nat.le_of_ble_eq_true rfl, Nat.le_of_ble_eq_true rfl, Nat.le_of_ble_eq_true rfl, Nat.le_of_ble_eq_true rfl⟩ ?_
  refine zx_aloadN dX9_explains_5 rfl rfl ?_
  refine zx_iloadN dX9_explains_6 rfl rfl ?_
  refine zy_cvv [zi u] (sX9_requireClue  hfl hz (by first | exact hz _ _ | assumption | exact zr_b _ | exact zcmp_r _ _ | (unfold zr at *; omega)) (by first | assumption | omega)) dX9_explains_7 (by decide) rfl cw_RX9_204 okX9_requireClue rfl (Nat.le_of_ble_eq_true rfl) ⟨Nat.le_of_ble_eq_true rfl, Nat.le_of_ble_eq_true rfl, Nat.le_of_ble_eq_true rfl, Nat.le_of_ble_eq_true rfl⟩ ?_
  refine zx_iloadN dX9_explains_10 rfl rfl ?_
  refine zy_cst [zi y] (sX9_requireYear_t  hfl hz (by first | exact hz _ _ | assumption | exact zr_b _ | exact zcmp_r _ _ | (unfold zr at *; omega)) (by first | assumption | omega)) dX9_explains_11 cw_RX9_179 okX9_requireYear rfl (Nat.le_of_ble_eq_true rfl) ⟨Nat.le_of_ble_eq_true rfl, Nat.le_of_ble_eq_true rfl, Nat.le_of_ble_eq_true rfl, Nat.le_of_ble_eq_true rfl⟩ ?_
  refine zxt_out rfl ?_
  rw [hQ]
  exact ⟨rfl, by first | rfl | (exfalso; omega)⟩
set_option maxRecDepth 20000 in
set_option maxHeartbeats 2000000 in
theorem sX9_explains {l : Launch} {w : zW} (hfl : l.stackTraces = false) {σ : zS} {x y u : Int} (hz : zOK σ) (hW : WF (bk σ 30)) (hx : zr x) (hy : zr y) (hu : zr u) (hw0 : 0 ≤ x ∧ x < σ.1 31 0) (hw1 : 0 ≤ u ∧ u < σ.1 42 0) (hw2 : 1450 ≤ y ∧ y ≤ 1999) : Sp l w mX9_explains 7 0 [zf 9 0, zi x, zi y, zi u] σ (zret (zi (zb (works (bk σ 30) x.toNat y ∧ cFit (bk σ 30) x.toNat y u.toNat))) σ) := by
  obtain ⟨Q, hQ⟩ : ∃ Q : zQ, Q = (zret (zi (zb (works (bk σ 30) x.toNat y ∧ cFit (bk σ 30) x.toNat y u.toNat))) σ) := ⟨_, rfl⟩
  rw [← hQ]
  refine zx_enter hfl (by decide) rfl 0 rfl ?_
  show zX l w mX9_explains (zMQ w 7 0 Q) 0 [zf 9 0, zi x, zi y, zi u] [] 0 σ
  have hP : 0 ≤ σ.1 31 0 ∧ σ.1 31 0 ≤ 8 := hW.1.1
  have hM : 0 ≤ σ.1 31 7 ∧ σ.1 31 7 ≤ 8 := hW.1.2.1
  have hE : 0 ≤ σ.1 31 10 ∧ σ.1 31 10 ≤ 12 := hW.1.2.2.1
  have hK : 0 ≤ σ.1 42 0 ∧ σ.1 42 0 ≤ 40 := hW.1.2.2.2
  have ex : x = ((x.toNat : Nat) : Int) := by omega
  have eu : u = ((u.toNat : Nat) : Int) := by omega
  refine zx_aloadN dX9_explains_0 rfl rfl ?_
  refine zx_iloadN dX9_explains_1 rfl rfl ?_
  refine zy_cvv [zi x] (sX9_requirePrinter  hfl hz (by first | exact hz _ _ | assumption | exact zr_b _ | exact zcmp_r _ _ | (unfold zr at *; omega)) (by first | assumption | omega)) dX9_explains_2 (by decide) rfl cw_RX9_172 okX9_requirePrinter rfl (Nat.le_of_ble_eq_true rfl) ⟨Nat.le_of_ble_eq_true rfl, Nat.le_of_ble_eq_true rfl, Nat.le_of_ble_eq_true rfl, Nat.le_of_ble_eq_true rfl⟩ ?_
  refine zx_aloadN dX9_explains_5 rfl rfl ?_
  refine zx_iloadN dX9_explains_6 rfl rfl ?_
  refine zy_cvv [zi u] (sX9_requireClue  hfl hz (by first | exact hz _ _ | assumption | exact zr_b _ | exact zcmp_r _ _ | (unfold zr at *; omega)) (by first | assumption | omega)) dX9_explains_7 (by decide) rfl cw_RX9_204 okX9_requireClue rfl (Nat.le_of_ble_eq_true rfl) ⟨Nat.le_of_ble_eq_true rfl, Nat.le_of_ble_eq_true rfl, Nat.le_of_ble_eq_true rfl, Nat.le_of_ble_eq_true rfl⟩ ?_
  refine zx_iloadN dX9_explains_10 rfl rfl ?_
  refine zy_csv [zi y] (sX9_requireYear  hfl hz (by first | exact hz _ _ | assumption | exact zr_b _ | exact zcmp_r _ _ | (unfold zr at *; omega)) (by first | assumption | omega)) dX9_explains_11 cw_RX9_179 okX9_requireYear rfl (Nat.le_of_ble_eq_true rfl) ⟨Nat.le_of_ble_eq_true rfl, Nat.le_of_ble_eq_true rfl, Nat.le_of_ble_eq_true rfl, Nat.le_of_ble_eq_true rfl⟩ ?_
  refine zx_aloadN dX9_explains_14 rfl rfl ?_
  refine zy_getR (q' := 30) fl_RX9_33 rfl dX9_explains_15 rfl ?_
  refine zy_getR (q' := 31) fl_RX9_134 rfl dX9_explains_18 rfl ?_
  refine zx_iloadN dX9_explains_21 rfl rfl ?_
  refine zx_iloadN dX9_explains_22 rfl rfl ?_
  refine zy_cv [zi x, zi y] (sX0_worksIn  hfl hz (by first | exact hz _ _ | assumption | exact zr_b _ | exact zcmp_r _ _ | (unfold zr at *; omega)) (by first | exact hz _ _ | assumption | exact zr_b _ | exact zcmp_r _ _ | (unfold zr at *; omega)) (by first | assumption | omega)) dX9_explains_23 (by decide) rfl cw_RX9_182 okX0_worksIn rfl (Nat.le_of_ble_eq_true rfl) ⟨Nat.le_of_ble_eq_true rfl, Nat.le_of_ble_eq_true rfl, Nat.le_of_ble_eq_true rfl, Nat.le_of_ble_eq_true rfl⟩ ?_
  refine zy_top (b := zb (0 ≤ x ∧ x < σ.1 31 0 ∧ σ.1 34 x.toNat ≤ y ∧ y ≤ σ.1 35 x.toNat)) rfl ?_
  refine zx_if_eq (tgt := 46) (by first | exact hz _ _ | assumption | exact zr_b _ | exact zcmp_r _ _ | (unfold zr at *; omega)) dX9_explains_26 (by decide) (fun h26 => ?_) (fun h26 => ?_)
  · have h26 := zb_0.mp h26
    refine zx_iconst dX9_explains_46 ?_
    refine zx_iret rfl rfl dX9_explains_47 ?_
    rw [hQ]
    refine ⟨congrArg (fun z : Int => (Sum.inl (some (zi z)) : Option zV ⊕ String)) ?_, by first | rfl | (exfalso; omega)⟩
    first | exact (zb_t ⟨h26.2.2, h39⟩).symm | exact (zb_f (fun q => h26 ⟨by omega, by omega, q.1⟩)).symm | exact (zb_f (fun q => h39 q.2)).symm
  · have h26 := zb_n.mp h26
    refine zx_aloadN dX9_explains_29 rfl rfl ?_
    refine zy_getR (q' := 30) fl_RX9_33 rfl dX9_explains_30 rfl ?_
    refine zx_iloadN dX9_explains_33 rfl rfl ?_
    refine zy_top (b := ((x.toNat : Nat) : Int)) (ex) ?_
    refine zx_iloadN dX9_explains_34 rfl rfl ?_
    refine zx_iloadN dX9_explains_35 rfl rfl ?_
    refine zy_top (b := ((u.toNat : Nat) : Int)) (eu) ?_
    refine zy_cv [zi ((x.toNat : Nat) : Int), zi y, zi ((u.toNat : Nat) : Int)] (sX1_candidateFits  hfl hz (by first | assumption | omega) (by first | exact hz _ _ | assumption | exact zr_b _ | exact zcmp_r _ _ | (unfold zr at *; omega)) (by first | assumption | omega | (show (x.toNat : Int) < σ.1 31 0; omega)) (by first | assumption | omega | (show (u.toNat : Int) < σ.1 42 0; omega))) dX9_explains_36 (by decide) rfl cw_RX9_236 okX1_candidateFits rfl (Nat.le_of_ble_eq_true rfl) ⟨Nat.le_of_ble_eq_true rfl, Nat.le_of_ble_eq_true rfl, Nat.le_of_ble_eq_true rfl, Nat.le_of_ble_eq_true rfl⟩ ?_
    refine zx_if_eq (tgt := 46) (by first | exact hz _ _ | assumption | exact zr_b _ | exact zcmp_r _ _ | (unfold zr at *; omega)) dX9_explains_39 (by decide) (fun h39 => ?_) (fun h39 => ?_)
    · have h39 := zb_0.mp h39
      refine zx_iconst dX9_explains_46 ?_
      refine zx_iret rfl rfl dX9_explains_47 ?_
      rw [hQ]
      refine ⟨congrArg (fun z : Int => (Sum.inl (some (zi z)) : Option zV ⊕ String)) ?_, by first | rfl | (exfalso; omega)⟩
      first | exact (zb_t ⟨h26.2.2, h39⟩).symm | exact (zb_f (fun q => h26 ⟨by omega, by omega, q.1⟩)).symm | exact (zb_f (fun q => h39 q.2)).symm
    · have h39 := zb_n.mp h39
      refine zx_iconst dX9_explains_42 ?_
      refine zx_goto (tgt := 47) dX9_explains_43 (by decide) ?_
      refine zx_iret rfl rfl dX9_explains_47 ?_
      rw [hQ]
      refine ⟨congrArg (fun z : Int => (Sum.inl (some (zi z)) : Option zV ⊕ String)) ?_, by first | rfl | (exfalso; omega)⟩
      first | exact (zb_t ⟨h26.2.2, h39⟩).symm | exact (zb_f (fun q => h26 ⟨by omega, by omega, q.1⟩)).symm | exact (zb_f (fun q => h39 q.2)).symm
set_option maxRecDepth 20000 in
set_option maxHeartbeats 2000000 in
theorem sX9_score_t0 {l : Launch} {w : zW} (hfl : l.stackTraces = false) {σ : zS} {x y : Int} (hz : zOK σ) (hW : WF (bk σ 30)) (hx : zr x) (hy : zr y) (hw0 : ¬ (0 ≤ x ∧ x < σ.1 31 0)) : Sp l w mX9_score 7 1 [zf 9 0, zi x, zi y] σ (zthr "java/lang/IndexOutOfBoundsException" σ) := by
  obtain ⟨Q, hQ⟩ : ∃ Q : zQ, Q = (zthr "java/lang/IndexOutOfBoundsException" σ) := ⟨_, rfl⟩
  rw [← hQ]
  refine zx_enter hfl (by decide) rfl 2 rfl ?_
  show zX l w mX9_score (zMQ w 7 1 Q) 0 [zf 9 0, zi x, zi y, zu, zu] [] 0 σ
  have hP : 0 ≤ σ.1 31 0 ∧ σ.1 31 0 ≤ 8 := hW.1.1
  have hM : 0 ≤ σ.1 31 7 ∧ σ.1 31 7 ≤ 8 := hW.1.2.1
  have hE : 0 ≤ σ.1 31 10 ∧ σ.1 31 10 ≤ 12 := hW.1.2.2.1
  have hK : 0 ≤ σ.1 42 0 ∧ σ.1 42 0 ≤ 40 := hW.1.2.2.2
  refine zx_aloadN dX9_score_0 rfl rfl ?_
  refine zx_iloadN dX9_score_1 rfl rfl ?_
  refine zy_cvt [zi x] (sX9_requirePrinter_t  hfl hz (by first | exact hz _ _ | assumption | exact zr_b _ | exact zcmp_r _ _ | (unfold zr at *; omega)) (by first | assumption | omega)) dX9_score_2 (by decide) rfl cw_RX9_172 okX9_requirePrinter rfl (Nat.le_of_ble_eq_true rfl) ⟨Nat.le_of_ble_eq_true rfl, Nat.le_of_ble_eq_true rfl, Nat.le_of_ble_eq_true rfl, Nat.le_of_ble_eq_true rfl⟩ ?_
  refine zxt_out rfl ?_
  rw [hQ]
  exact ⟨rfl, by first | rfl | (exfalso; omega)⟩
set_option maxRecDepth 20000 in
set_option maxHeartbeats 2000000 in
theorem sX9_score_t1 {l : Launch} {w : zW} (hfl : l.stackTraces = false) {σ : zS} {x y : Int} (hz : zOK σ) (hW : WF (bk σ 30)) (hx : zr x) (hy : zr y) (hw0 : 0 ≤ x ∧ x < σ.1 31 0) (hw1 : ¬ (1450 ≤ y ∧ y ≤ 1999)) : Sp l w mX9_score 7 1 [zf 9 0, zi x, zi y] σ (zthr "java/lang/IllegalArgumentException" σ) := by
  obtain ⟨Q, hQ⟩ : ∃ Q : zQ, Q = (zthr "java/lang/IllegalArgumentException" σ) := ⟨_, rfl⟩
  rw [← hQ]
  refine zx_enter hfl (by decide) rfl 2 rfl ?_
  show zX l w mX9_score (zMQ w 7 1 Q) 0 [zf 9 0, zi x, zi y, zu, zu] [] 0 σ
  have hP : 0 ≤ σ.1 31 0 ∧ σ.1 31 0 ≤ 8 := hW.1.1
  have hM : 0 ≤ σ.1 31 7 ∧ σ.1 31 7 ≤ 8 := hW.1.2.1
  have hE : 0 ≤ σ.1 31 10 ∧ σ.1 31 10 ≤ 12 := hW.1.2.2.1
  have hK : 0 ≤ σ.1 42 0 ∧ σ.1 42 0 ≤ 40 := hW.1.2.2.2
  refine zx_aloadN dX9_score_0 rfl rfl ?_
  refine zx_iloadN dX9_score_1 rfl rfl ?_
  refine zy_cvv [zi x] (sX9_requirePrinter  hfl hz (by first | exact hz _ _ | assumption | exact zr_b _ | exact zcmp_r _ _ | (unfold zr at *; omega)) (by first | assumption | omega)) dX9_score_2 (by decide) rfl cw_RX9_172 okX9_requirePrinter rfl (Nat.le_of_ble_eq_true rfl) ⟨Nat.le_of_ble_eq_true rfl, Nat.le_of_ble_eq_true rfl, Nat.le_of_ble_eq_true rfl, Nat.le_of_ble_eq_true rfl⟩ ?_
  refine zx_iloadN dX9_score_5 rfl rfl ?_
  refine zy_cst [zi y] (sX9_requireYear_t  hfl hz (by first | exact hz _ _ | assumption | exact zr_b _ | exact zcmp_r _ _ | (unfold zr at *; omega)) (by first | assumption | omega)) dX9_score_6 cw_RX9_179 okX9_requireYear rfl (Nat.le_of_ble_eq_true rfl) ⟨Nat.le_of_ble_eq_true rfl, Nat.le_of_ble_eq_true rfl, Nat.le_of_ble_eq_true rfl, Nat.le_of_ble_eq_true rfl⟩ ?_
  refine zxt_out rfl ?_
  rw [hQ]
  exact ⟨rfl, by first | rfl | (exfalso; omega)⟩
set_option maxRecDepth 20000 in
set_option maxHeartbeats 2000000 in
theorem sX9_score {l : Launch} {w : zW} (hfl : l.stackTraces = false) {σ : zS} {x y : Int} (hz : zOK σ) (hW : WF (bk σ 30)) (hx : zr x) (hy : zr y) (hw0 : 0 ≤ x ∧ x < σ.1 31 0) (hw1 : 1450 ≤ y ∧ y ≤ 1999) : Sp l w mX9_score 7 0 [zf 9 0, zi x, zi y] σ (zret (zi (scA (bk σ 30) x.toNat y)) σ) := by
  obtain ⟨Q, hQ⟩ : ∃ Q : zQ, Q = (zret (zi (scA (bk σ 30) x.toNat y)) σ) := ⟨_, rfl⟩
  rw [← hQ]
  refine zx_enter hfl (by decide) rfl 2 rfl ?_
  show zX l w mX9_score (zMQ w 7 0 Q) 0 [zf 9 0, zi x, zi y, zu, zu] [] 0 σ
  have hP : 0 ≤ σ.1 31 0 ∧ σ.1 31 0 ≤ 8 := hW.1.1
  have hM : 0 ≤ σ.1 31 7 ∧ σ.1 31 7 ≤ 8 := hW.1.2.1
  have hE : 0 ≤ σ.1 31 10 ∧ σ.1 31 10 ≤ 12 := hW.1.2.2.1
  have hK : 0 ≤ σ.1 42 0 ∧ σ.1 42 0 ≤ 40 := hW.1.2.2.2
  have ex : x = ((x.toNat : Nat) : Int) := by omega
  refine zx_aloadN dX9_score_0 rfl rfl ?_
  refine zx_iloadN dX9_score_1 rfl rfl ?_
  refine zy_cvv [zi x] (sX9_requirePrinter  hfl hz (by first | exact hz _ _ | assumption | exact zr_b _ | exact zcmp_r _ _ | (unfold zr at *; omega)) (by first | assumption | omega)) dX9_score_2 (by decide) rfl cw_RX9_172 okX9_requirePrinter rfl (Nat.le_of_ble_eq_true rfl) ⟨Nat.le_of_ble_eq_true rfl, Nat.le_of_ble_eq_true rfl, Nat.le_of_ble_eq_true rfl, Nat.le_of_ble_eq_true rfl⟩ ?_
  refine zx_iloadN dX9_score_5 rfl rfl ?_
  refine zy_csv [zi y] (sX9_requireYear  hfl hz (by first | exact hz _ _ | assumption | exact zr_b _ | exact zcmp_r _ _ | (unfold zr at *; omega)) (by first | assumption | omega)) dX9_score_6 cw_RX9_179 okX9_requireYear rfl (Nat.le_of_ble_eq_true rfl) ⟨Nat.le_of_ble_eq_true rfl, Nat.le_of_ble_eq_true rfl, Nat.le_of_ble_eq_true rfl, Nat.le_of_ble_eq_true rfl⟩ ?_
  refine zx_aloadN dX9_score_9 rfl rfl ?_
  refine zy_getR (q' := 30) fl_RX9_33 rfl dX9_score_10 rfl ?_
  refine zy_getR (q' := 31) fl_RX9_134 rfl dX9_score_13 rfl ?_
  refine zx_iloadN dX9_score_16 rfl rfl ?_
  refine zx_iloadN dX9_score_17 rfl rfl ?_
  refine zy_cv [zi x, zi y] (sX0_worksIn  hfl hz (by first | exact hz _ _ | assumption | exact zr_b _ | exact zcmp_r _ _ | (unfold zr at *; omega)) (by first | exact hz _ _ | assumption | exact zr_b _ | exact zcmp_r _ _ | (unfold zr at *; omega)) (by first | assumption | omega)) dX9_score_18 (by decide) rfl cw_RX9_182 okX0_worksIn rfl (Nat.le_of_ble_eq_true rfl) ⟨Nat.le_of_ble_eq_true rfl, Nat.le_of_ble_eq_true rfl, Nat.le_of_ble_eq_true rfl, Nat.le_of_ble_eq_true rfl⟩ ?_
  refine zy_top (b := zb (0 ≤ x ∧ x < σ.1 31 0 ∧ σ.1 34 x.toNat ≤ y ∧ y ≤ σ.1 35 x.toNat)) rfl ?_
  refine zx_if_ne (tgt := 26) (by first | exact hz _ _ | assumption | exact zr_b _ | exact zcmp_r _ _ | (unfold zr at *; omega)) dX9_score_21 (by decide) (fun h21 => ?_) (fun h21 => ?_)
  · have h21 := zb_n.mp h21
    refine zx_iconst dX9_score_26 ?_
    refine zy_istoreN [zf 9 0, zi x, zi y, zi 0, zu] dX9_score_27 rfl (Nat.le_of_ble_eq_true rfl) (Nat.le_of_ble_eq_true rfl) rfl rfl ?_
    refine zx_iconst dX9_score_28 ?_
    refine zy_istore [zf 9 0, zi x, zi y, zi 0, zi 0] dX9_score_29 (Nat.le_of_ble_eq_true rfl) (Nat.le_of_ble_eq_true rfl) rfl rfl ?_
    have L31 : ∀ (N : Nat) (c : Nat) (acc : Int), ((c : Int) ≤ σ.1 42 0) → (acc = zs (fun c => zif (Ht (bk σ 30) c ∧ cFit (bk σ 30) x.toNat y c) (bk σ 30 16 c)) c) → (41 - c) < N → zX l w mX9_score (zMQ w 7 0 Q) 31 [zf 9 0, zi x, zi y, zi acc, zi ((c : Nat) : Int)] [] 0 σ := by
      intro N
      induction N with
      | zero => intro c acc _ _ _; exact absurd (by assumption) (Nat.not_lt_zero _)
      | succ N ih31 =>
        intro c acc hc hacc hN
        refine zx_iload dX9_score_31 rfl ?_
        refine zx_aloadN dX9_score_33 rfl rfl ?_
        refine zy_getR (q' := 30) fl_RX9_33 rfl dX9_score_34 rfl ?_
        refine zy_getR (q' := 42) fl_RX9_125 rfl dX9_score_37 rfl ?_
        refine zy_getI fl_RX9_129 rfl dX9_score_40 rfl ?_
        refine zx_icmp_ge (tgt := 97) (by first | exact hz _ _ | assumption | exact zr_b _ | exact zcmp_r _ _ | (unfold zr at *; omega)) (by first | exact hz _ _ | assumption | exact zr_b _ | exact zcmp_r _ _ | (unfold zr at *; omega)) dX9_score_43 (by decide) (fun h43 => ?_) (fun h43 => ?_)
        · refine zx_iloadN dX9_score_97 rfl rfl ?_
          refine zx_iret rfl rfl dX9_score_98 ?_
          rw [hQ]
          refine ⟨congrArg (fun z : Int => (Sum.inl (some (zi z)) : Option zV ⊕ String)) ?_, by first | rfl | (exfalso; omega)⟩
          first | exact (scA_n hnw).symm | (rw [scA_y (D := bk σ 30) (p := x.toNat) (y := y) h21.2.2, hacc]; congr 1; show c = (σ.1 42 0).toNat; omega)
        · refine zx_aloadN dX9_score_46 rfl rfl ?_
          refine zy_getR (q' := 30) fl_RX9_33 rfl dX9_score_47 rfl ?_
          refine zy_getR (q' := 42) fl_RX9_125 rfl dX9_score_50 rfl ?_
          refine zx_iload dX9_score_53 rfl ?_
          refine zy_cv [zi ((c : Nat) : Int)] (sX2_counts  hfl hz (by first | exact hz _ _ | assumption | exact zr_b _ | exact zcmp_r _ _ | (unfold zr at *; omega)) (by first | assumption | omega)) dX9_score_55 (by decide) rfl cw_RX9_233 okX2_counts rfl (Nat.le_of_ble_eq_true rfl) ⟨Nat.le_of_ble_eq_true rfl, Nat.le_of_ble_eq_true rfl, Nat.le_of_ble_eq_true rfl, Nat.le_of_ble_eq_true rfl⟩ ?_
          refine zy_top (b := zb (0 ≤ ((c : Nat) : Int) ∧ ((c : Nat) : Int) < σ.1 42 0 ∧ ¬ σ.1 47 c = 0 ∧ σ.1 48 c = 0)) rfl ?_
          refine zx_if_eq (tgt := 91) (by first | exact hz _ _ | assumption | exact zr_b _ | exact zcmp_r _ _ | (unfold zr at *; omega)) dX9_score_58 (by decide) (fun h58 => ?_) (fun h58 => ?_)
          · have h58 := zb_0.mp h58
            refine zy_iinc (b := ((c + 1 : Nat) : Int)) [zf 9 0, zi x, zi y, zi acc, zi ((c + 1 : Nat) : Int)] dX9_score_91 rfl (by omega) (Nat.le_of_ble_eq_true rfl) rfl rfl ?_
            refine zx_goto (tgt := 31) dX9_score_94 (by decide) ?_
            exact ih31 (c + 1) acc (by first | assumption | omega) (by
                 subst hacc
                 first
                 | exact zsw_t (P := fun c => (Ht (bk σ 30) c ∧ cFit (bk σ 30) x.toNat y c)) (v := bk σ 30 16) ⟨h58.2.2, h72⟩
                 | exact zsw_f (P := fun c => (Ht (bk σ 30) c ∧ cFit (bk σ 30) x.toNat y c)) (v := bk σ 30 16) (fun q => h58 ⟨by omega, by omega, q.1⟩)
                 | exact zsw_f (P := fun c => (Ht (bk σ 30) c ∧ cFit (bk σ 30) x.toNat y c)) (v := bk σ 30 16) (fun q => h72 q.2)) (by omega)
          · have h58 := zb_n.mp h58
            refine zx_aloadN dX9_score_61 rfl rfl ?_
            refine zy_getR (q' := 30) fl_RX9_33 rfl dX9_score_62 rfl ?_
            refine zx_iloadN dX9_score_65 rfl rfl ?_
            refine zy_top (b := ((x.toNat : Nat) : Int)) (ex) ?_
            refine zx_iloadN dX9_score_66 rfl rfl ?_
            refine zx_iload dX9_score_67 rfl ?_
            refine zy_cv [zi ((x.toNat : Nat) : Int), zi y, zi ((c : Nat) : Int)] (sX1_candidateFits  hfl hz (by first | assumption | omega) (by first | exact hz _ _ | assumption | exact zr_b _ | exact zcmp_r _ _ | (unfold zr at *; omega)) (by first | assumption | omega | (show (x.toNat : Int) < σ.1 31 0; omega)) (by first | assumption | omega | (show (c : Int) < σ.1 42 0; omega))) dX9_score_69 (by decide) rfl cw_RX9_236 okX1_candidateFits rfl (Nat.le_of_ble_eq_true rfl) ⟨Nat.le_of_ble_eq_true rfl, Nat.le_of_ble_eq_true rfl, Nat.le_of_ble_eq_true rfl, Nat.le_of_ble_eq_true rfl⟩ ?_
            refine zx_if_eq (tgt := 91) (by first | exact hz _ _ | assumption | exact zr_b _ | exact zcmp_r _ _ | (unfold zr at *; omega)) dX9_score_72 (by decide) (fun h72 => ?_) (fun h72 => ?_)
            · have h72 := zb_0.mp h72
              refine zy_iinc (b := ((c + 1 : Nat) : Int)) [zf 9 0, zi x, zi y, zi acc, zi ((c + 1 : Nat) : Int)] dX9_score_91 rfl (by omega) (Nat.le_of_ble_eq_true rfl) rfl rfl ?_
              refine zx_goto (tgt := 31) dX9_score_94 (by decide) ?_
              exact ih31 (c + 1) acc (by first | assumption | omega) (by
                   subst hacc
                   first
                   | exact zsw_t (P := fun c => (Ht (bk σ 30) c ∧ cFit (bk σ 30) x.toNat y c)) (v := bk σ 30 16) ⟨h58.2.2, h72⟩
                   | exact zsw_f (P := fun c => (Ht (bk σ 30) c ∧ cFit (bk σ 30) x.toNat y c)) (v := bk σ 30 16) (fun q => h58 ⟨by omega, by omega, q.1⟩)
                   | exact zsw_f (P := fun c => (Ht (bk σ 30) c ∧ cFit (bk σ 30) x.toNat y c)) (v := bk σ 30 16) (fun q => h72 q.2)) (by omega)
            · have h72 := zb_n.mp h72
              refine zx_iloadN dX9_score_75 rfl rfl ?_
              refine zx_aloadN dX9_score_76 rfl rfl ?_
              refine zy_getR (q' := 30) fl_RX9_33 rfl dX9_score_77 rfl ?_
              refine zy_getR (q' := 42) fl_RX9_125 rfl dX9_score_80 rfl ?_
              refine zy_getR (q' := 46) fl_RX9_216 rfl dX9_score_83 rfl ?_
              refine zx_iload dX9_score_86 rfl ?_
              refine zy_iald (v := σ.1 46 c) rfl (by decide) (by decide) dX9_score_88 (by omega) (by omega) rfl ?_
              refine zx_iadd dX9_score_89 ?_
              refine zy_istoreN [zf 9 0, zi x, zi y, zi (acc + (σ.1 46 c)), zi ((c : Nat) : Int)] dX9_score_90 rfl (Nat.le_of_ble_eq_true rfl) (Nat.le_of_ble_eq_true rfl) rfl rfl ?_
              refine zy_iinc (b := ((c + 1 : Nat) : Int)) [zf 9 0, zi x, zi y, zi (acc + (σ.1 46 c)), zi ((c + 1 : Nat) : Int)] dX9_score_91 rfl (by omega) (Nat.le_of_ble_eq_true rfl) rfl rfl ?_
              refine zx_goto (tgt := 31) dX9_score_94 (by decide) ?_
              exact ih31 (c + 1) (acc + (σ.1 46 c)) (by first | assumption | omega) (by
                   subst hacc
                   first
                   | exact zsw_t (P := fun c => (Ht (bk σ 30) c ∧ cFit (bk σ 30) x.toNat y c)) (v := bk σ 30 16) ⟨h58.2.2, h72⟩
                   | exact zsw_f (P := fun c => (Ht (bk σ 30) c ∧ cFit (bk σ 30) x.toNat y c)) (v := bk σ 30 16) (fun q => h58 ⟨by omega, by omega, q.1⟩)
                   | exact zsw_f (P := fun c => (Ht (bk σ 30) c ∧ cFit (bk σ 30) x.toNat y c)) (v := bk σ 30 16) (fun q => h72 q.2)) (by omega)
    exact L31 _ 0 0 (by first | assumption | omega) rfl (Nat.lt_succ_self _)
  · have h21 := zb_0.mp h21
    have hnw : ¬ works (bk σ 30) x.toNat y := fun q => h21 ⟨by omega, by omega, q⟩
    refine zx_iconst dX9_score_24 ?_
    refine zx_iret rfl rfl dX9_score_25 ?_
    rw [hQ]
    refine ⟨congrArg (fun z : Int => (Sum.inl (some (zi z)) : Option zV ⊕ String)) ?_, by first | rfl | (exfalso; omega)⟩
    first | exact (scA_n hnw).symm | (rw [scA_y (D := bk σ 30) (p := x.toNat) (y := y) h21.2.2, hacc]; congr 1; show c = (σ.1 42 0).toNat; omega)
set_option maxRecDepth 20000 in
set_option maxHeartbeats 2000000 in
theorem sX9_bestYear_t0 {l : Launch} {w : zW} (hfl : l.stackTraces = false) {σ : zS} {x : Int} (hz : zOK σ) (hW : WF (bk σ 30)) (hP1 : 1 ≤ σ.1 31 0) (hx : zr x) (hw0 : ¬ (0 ≤ x ∧ x < σ.1 31 0)) : Sp l w mX9_bestYear 7 1 [zf 9 0, zi x] σ (zthr "java/lang/IndexOutOfBoundsException" σ) := by
  obtain ⟨Q, hQ⟩ : ∃ Q : zQ, Q = (zthr "java/lang/IndexOutOfBoundsException" σ) := ⟨_, rfl⟩
  rw [← hQ]
  refine zx_enter hfl (by decide) rfl 0 rfl ?_
  show zX l w mX9_bestYear (zMQ w 7 1 Q) 0 [zf 9 0, zi x] [] 0 σ
  have hP : 0 ≤ σ.1 31 0 ∧ σ.1 31 0 ≤ 8 := hW.1.1
  have hM : 0 ≤ σ.1 31 7 ∧ σ.1 31 7 ≤ 8 := hW.1.2.1
  have hE : 0 ≤ σ.1 31 10 ∧ σ.1 31 10 ≤ 12 := hW.1.2.2.1
  have hK : 0 ≤ σ.1 42 0 ∧ σ.1 42 0 ≤ 40 := hW.1.2.2.2
  refine zx_aloadN dX9_bestYear_0 rfl rfl ?_
  refine zx_iloadN dX9_bestYear_1 rfl rfl ?_
  refine zy_cvt [zi x] (sX9_requirePrinter_t  hfl hz (by first | exact hz _ _ | assumption | exact zr_b _ | exact zcmp_r _ _ | (unfold zr at *; omega)) (by first | assumption | omega)) dX9_bestYear_2 (by decide) rfl cw_RX9_172 okX9_requirePrinter rfl (Nat.le_of_ble_eq_true rfl) ⟨Nat.le_of_ble_eq_true rfl, Nat.le_of_ble_eq_true rfl, Nat.le_of_ble_eq_true rfl, Nat.le_of_ble_eq_true rfl⟩ ?_
  refine zxt_out rfl ?_
  rw [hQ]
  exact ⟨rfl, by first | rfl | (exfalso; omega)⟩
set_option maxRecDepth 20000 in
set_option maxHeartbeats 2000000 in
theorem sX9_bestYear {l : Launch} {w : zW} (hfl : l.stackTraces = false) {σ : zS} {x : Int} (hz : zOK σ) (hW : WF (bk σ 30)) (hP1 : 1 ≤ σ.1 31 0) (hx : zr x) (hw0 : 0 ≤ x ∧ x < σ.1 31 0) : Sp l w mX9_bestYear 7 0 [zf 9 0, zi x] σ (zqv (some (zi (1450 + ((tR (bk σ 30) (Ht (bk σ 30)) x.toNat : Nat) : Int)))) (fun τ => zOK τ ∧ zSame (fun q => 252 ≤ q ∧ q ≤ 258) σ τ)) := by
  obtain ⟨Q, hQ⟩ : ∃ Q : zQ, Q = (zqv (some (zi (1450 + ((tR (bk σ 30) (Ht (bk σ 30)) x.toNat : Nat) : Int)))) (fun τ => zOK τ ∧ zSame (fun q => 252 ≤ q ∧ q ≤ 258) σ τ)) := ⟨_, rfl⟩
  rw [← hQ]
  refine zx_enter hfl (by decide) rfl 0 rfl ?_
  show zX l w mX9_bestYear (zMQ w 7 0 Q) 0 [zf 9 0, zi x] [] 0 σ
  have hP : 0 ≤ σ.1 31 0 ∧ σ.1 31 0 ≤ 8 := hW.1.1
  have hM : 0 ≤ σ.1 31 7 ∧ σ.1 31 7 ≤ 8 := hW.1.2.1
  have hE : 0 ≤ σ.1 31 10 ∧ σ.1 31 10 ≤ 12 := hW.1.2.2.1
  have hK : 0 ≤ σ.1 42 0 ∧ σ.1 42 0 ≤ 40 := hW.1.2.2.2
  refine zx_aloadN dX9_bestYear_0 rfl rfl ?_
  refine zx_iloadN dX9_bestYear_1 rfl rfl ?_
  refine zy_cvv [zi x] (sX9_requirePrinter  hfl hz (by first | exact hz _ _ | assumption | exact zr_b _ | exact zcmp_r _ _ | (unfold zr at *; omega)) (by first | assumption | omega)) dX9_bestYear_2 (by decide) rfl cw_RX9_172 okX9_requirePrinter rfl (Nat.le_of_ble_eq_true rfl) ⟨Nat.le_of_ble_eq_true rfl, Nat.le_of_ble_eq_true rfl, Nat.le_of_ble_eq_true rfl, Nat.le_of_ble_eq_true rfl⟩ ?_
  refine zx_aloadN dX9_bestYear_5 rfl rfl ?_
  refine zy_cvvR [] (sX9_judgePresent  hfl hz (by first | assumption | omega)) dX9_bestYear_6 (by decide) rfl cw_RX9_240 okX9_judgePresent rfl (Nat.le_of_ble_eq_true rfl) ⟨Nat.le_of_ble_eq_true rfl, Nat.le_of_ble_eq_true rfl, Nat.le_of_ble_eq_true rfl, Nat.le_of_ble_eq_true rfl⟩ (fun τ6 hr6 => ?_)
  have hz6 : zOK τ6 := hr6.1
  have bk1 : bk σ 30 1 0 = σ.1 31 0 := rfl
  have bk12 : bk σ 30 12 0 = σ.1 42 0 := rfl
  have jw := Jd_win hW hr6.2.2 hP1
  have jwP : (wP (bk σ 30) (Ht (bk σ 30)) : Int) < σ.1 31 0 := jw.1
  have jr := Jd_rk hr6.2.2
  have jH := hr6.2.2.2.1
  have jT := hr6.2.2.2.2.1
  have jP : τ6.1 252 5 = σ.1 31 0 := hr6.2.2.1
  have jO := hr6.2.2.2.2.2
  have j0 := jO.1 0 (by show 0 < (σ.1 31 0).toNat; omega)
  have jq : zEq (bk σ 30) (bk τ6 30) := zEq_same hr6.2.1 (by intro o ho; show ¬ (252 ≤ 30 + o ∧ 30 + o ≤ 258); omega)
  have jW := WF_eq jq hW
  have j31 : τ6.1 31 0 = σ.1 31 0 := hr6.2.1.1 31 (by dsimp only; omega) 0
  have j42 : τ6.1 42 0 = σ.1 42 0 := hr6.2.1.1 42 (by dsimp only; omega) 0
  have jb := tR_b (H := (Ht (bk σ 30))) hW jw.1
  have jy := (hW.2.1 _ jw.1).2
  have jyb : 1450 ≤ wY (bk σ 30) (Ht (bk σ 30)) ∧ wY (bk σ 30) (Ht (bk σ 30)) ≤ 1999 := by unfold wY; omega
  have jsb : 0 ≤ wS (bk σ 30) (Ht (bk σ 30)) ∧ wS (bk σ 30) (Ht (bk σ 30)) ≤ 360 := tS_b hW _
  have jw0 : 0 ≤ τ6.1 258 0 ∧ τ6.1 258 0 < 8 := by omega
  have jt := jT x.toNat (by show ((x.toNat : Nat) : Int) < σ.1 31 0; omega)
  refine zx_aloadN dX9_bestYear_9 rfl rfl ?_
  refine zy_getR (q' := 252) fl_RX9_54 rfl dX9_bestYear_10 rfl ?_
  refine zy_getR (q' := 255) fl_RX9_243 rfl dX9_bestYear_13 rfl ?_
  refine zx_iloadN dX9_bestYear_16 rfl rfl ?_
  refine zy_iald (v := τ6.1 255 x.toNat) rfl (by decide) (by decide) dX9_bestYear_17 (by omega) (by omega) rfl ?_
  refine zx_iret rfl rfl dX9_bestYear_18 ?_
  rw [hQ]
  refine ⟨congrArg (fun z : Int => (Sum.inl (some (zi z)) : Option zV ⊕ String)) ?_, ?_⟩
  · exact jt.1
  exact ⟨hz6, hr6.2.1⟩
set_option maxRecDepth 20000 in
set_option maxHeartbeats 2000000 in
theorem sX9_bestScore_t0 {l : Launch} {w : zW} (hfl : l.stackTraces = false) {σ : zS} {x : Int} (hz : zOK σ) (hW : WF (bk σ 30)) (hP1 : 1 ≤ σ.1 31 0) (hx : zr x) (hw0 : ¬ (0 ≤ x ∧ x < σ.1 31 0)) : Sp l w mX9_bestScore 7 1 [zf 9 0, zi x] σ (zthr "java/lang/IndexOutOfBoundsException" σ) := by
  obtain ⟨Q, hQ⟩ : ∃ Q : zQ, Q = (zthr "java/lang/IndexOutOfBoundsException" σ) := ⟨_, rfl⟩
  rw [← hQ]
  refine zx_enter hfl (by decide) rfl 0 rfl ?_
  show zX l w mX9_bestScore (zMQ w 7 1 Q) 0 [zf 9 0, zi x] [] 0 σ
  have hP : 0 ≤ σ.1 31 0 ∧ σ.1 31 0 ≤ 8 := hW.1.1
  have hM : 0 ≤ σ.1 31 7 ∧ σ.1 31 7 ≤ 8 := hW.1.2.1
  have hE : 0 ≤ σ.1 31 10 ∧ σ.1 31 10 ≤ 12 := hW.1.2.2.1
  have hK : 0 ≤ σ.1 42 0 ∧ σ.1 42 0 ≤ 40 := hW.1.2.2.2
  refine zx_aloadN dX9_bestScore_0 rfl rfl ?_
  refine zx_iloadN dX9_bestScore_1 rfl rfl ?_
  refine zy_cvt [zi x] (sX9_requirePrinter_t  hfl hz (by first | exact hz _ _ | assumption | exact zr_b _ | exact zcmp_r _ _ | (unfold zr at *; omega)) (by first | assumption | omega)) dX9_bestScore_2 (by decide) rfl cw_RX9_172 okX9_requirePrinter rfl (Nat.le_of_ble_eq_true rfl) ⟨Nat.le_of_ble_eq_true rfl, Nat.le_of_ble_eq_true rfl, Nat.le_of_ble_eq_true rfl, Nat.le_of_ble_eq_true rfl⟩ ?_
  refine zxt_out rfl ?_
  rw [hQ]
  exact ⟨rfl, by first | rfl | (exfalso; omega)⟩
set_option maxRecDepth 20000 in
set_option maxHeartbeats 2000000 in
theorem sX9_bestScore {l : Launch} {w : zW} (hfl : l.stackTraces = false) {σ : zS} {x : Int} (hz : zOK σ) (hW : WF (bk σ 30)) (hP1 : 1 ≤ σ.1 31 0) (hx : zr x) (hw0 : 0 ≤ x ∧ x < σ.1 31 0) : Sp l w mX9_bestScore 7 0 [zf 9 0, zi x] σ (zqv (some (zi (tS (bk σ 30) (Ht (bk σ 30)) x.toNat))) (fun τ => zOK τ ∧ zSame (fun q => 252 ≤ q ∧ q ≤ 258) σ τ)) := by
  obtain ⟨Q, hQ⟩ : ∃ Q : zQ, Q = (zqv (some (zi (tS (bk σ 30) (Ht (bk σ 30)) x.toNat))) (fun τ => zOK τ ∧ zSame (fun q => 252 ≤ q ∧ q ≤ 258) σ τ)) := ⟨_, rfl⟩
  rw [← hQ]
  refine zx_enter hfl (by decide) rfl 0 rfl ?_
  show zX l w mX9_bestScore (zMQ w 7 0 Q) 0 [zf 9 0, zi x] [] 0 σ
  have hP : 0 ≤ σ.1 31 0 ∧ σ.1 31 0 ≤ 8 := hW.1.1
  have hM : 0 ≤ σ.1 31 7 ∧ σ.1 31 7 ≤ 8 := hW.1.2.1
  have hE : 0 ≤ σ.1 31 10 ∧ σ.1 31 10 ≤ 12 := hW.1.2.2.1
  have hK : 0 ≤ σ.1 42 0 ∧ σ.1 42 0 ≤ 40 := hW.1.2.2.2
  refine zx_aloadN dX9_bestScore_0 rfl rfl ?_
  refine zx_iloadN dX9_bestScore_1 rfl rfl ?_
  refine zy_cvv [zi x] (sX9_requirePrinter  hfl hz (by first | exact hz _ _ | assumption | exact zr_b _ | exact zcmp_r _ _ | (unfold zr at *; omega)) (by first | assumption | omega)) dX9_bestScore_2 (by decide) rfl cw_RX9_172 okX9_requirePrinter rfl (Nat.le_of_ble_eq_true rfl) ⟨Nat.le_of_ble_eq_true rfl, Nat.le_of_ble_eq_true rfl, Nat.le_of_ble_eq_true rfl, Nat.le_of_ble_eq_true rfl⟩ ?_
  refine zx_aloadN dX9_bestScore_5 rfl rfl ?_
  refine zy_cvvR [] (sX9_judgePresent  hfl hz (by first | assumption | omega)) dX9_bestScore_6 (by decide) rfl cw_RX9_240 okX9_judgePresent rfl (Nat.le_of_ble_eq_true rfl) ⟨Nat.le_of_ble_eq_true rfl, Nat.le_of_ble_eq_true rfl, Nat.le_of_ble_eq_true rfl, Nat.le_of_ble_eq_true rfl⟩ (fun τ6 hr6 => ?_)
  have hz6 : zOK τ6 := hr6.1
  have bk1 : bk σ 30 1 0 = σ.1 31 0 := rfl
  have bk12 : bk σ 30 12 0 = σ.1 42 0 := rfl
  have jw := Jd_win hW hr6.2.2 hP1
  have jwP : (wP (bk σ 30) (Ht (bk σ 30)) : Int) < σ.1 31 0 := jw.1
  have jr := Jd_rk hr6.2.2
  have jH := hr6.2.2.2.1
  have jT := hr6.2.2.2.2.1
  have jP : τ6.1 252 5 = σ.1 31 0 := hr6.2.2.1
  have jO := hr6.2.2.2.2.2
  have j0 := jO.1 0 (by show 0 < (σ.1 31 0).toNat; omega)
  have jq : zEq (bk σ 30) (bk τ6 30) := zEq_same hr6.2.1 (by intro o ho; show ¬ (252 ≤ 30 + o ∧ 30 + o ≤ 258); omega)
  have jW := WF_eq jq hW
  have j31 : τ6.1 31 0 = σ.1 31 0 := hr6.2.1.1 31 (by dsimp only; omega) 0
  have j42 : τ6.1 42 0 = σ.1 42 0 := hr6.2.1.1 42 (by dsimp only; omega) 0
  have jb := tR_b (H := (Ht (bk σ 30))) hW jw.1
  have jy := (hW.2.1 _ jw.1).2
  have jyb : 1450 ≤ wY (bk σ 30) (Ht (bk σ 30)) ∧ wY (bk σ 30) (Ht (bk σ 30)) ≤ 1999 := by unfold wY; omega
  have jsb : 0 ≤ wS (bk σ 30) (Ht (bk σ 30)) ∧ wS (bk σ 30) (Ht (bk σ 30)) ≤ 360 := tS_b hW _
  have jw0 : 0 ≤ τ6.1 258 0 ∧ τ6.1 258 0 < 8 := by omega
  have jt := jT x.toNat (by show ((x.toNat : Nat) : Int) < σ.1 31 0; omega)
  refine zx_aloadN dX9_bestScore_9 rfl rfl ?_
  refine zy_getR (q' := 252) fl_RX9_54 rfl dX9_bestScore_10 rfl ?_
  refine zy_getR (q' := 256) fl_RX9_246 rfl dX9_bestScore_13 rfl ?_
  refine zx_iloadN dX9_bestScore_16 rfl rfl ?_
  refine zy_iald (v := τ6.1 256 x.toNat) rfl (by decide) (by decide) dX9_bestScore_17 (by omega) (by omega) rfl ?_
  refine zx_iret rfl rfl dX9_bestScore_18 ?_
  rw [hQ]
  refine ⟨congrArg (fun z : Int => (Sum.inl (some (zi z)) : Option zV ⊕ String)) ?_, ?_⟩
  · exact jt.2.1
  exact ⟨hz6, hr6.2.1⟩
set_option maxRecDepth 20000 in
set_option maxHeartbeats 2000000 in
theorem sX9_bestYears_t0 {l : Launch} {w : zW} (hfl : l.stackTraces = false) {σ : zS} {x : Int} (hz : zOK σ) (hW : WF (bk σ 30)) (hP1 : 1 ≤ σ.1 31 0) (hx : zr x) (hw0 : ¬ (0 ≤ x ∧ x < σ.1 31 0)) : Sp l w mX9_bestYears 7 1 [zf 9 0, zi x] σ (zthr "java/lang/IndexOutOfBoundsException" σ) := by
  obtain ⟨Q, hQ⟩ : ∃ Q : zQ, Q = (zthr "java/lang/IndexOutOfBoundsException" σ) := ⟨_, rfl⟩
  rw [← hQ]
  refine zx_enter hfl (by decide) rfl 0 rfl ?_
  show zX l w mX9_bestYears (zMQ w 7 1 Q) 0 [zf 9 0, zi x] [] 0 σ
  have hP : 0 ≤ σ.1 31 0 ∧ σ.1 31 0 ≤ 8 := hW.1.1
  have hM : 0 ≤ σ.1 31 7 ∧ σ.1 31 7 ≤ 8 := hW.1.2.1
  have hE : 0 ≤ σ.1 31 10 ∧ σ.1 31 10 ≤ 12 := hW.1.2.2.1
  have hK : 0 ≤ σ.1 42 0 ∧ σ.1 42 0 ≤ 40 := hW.1.2.2.2
  refine zx_aloadN dX9_bestYears_0 rfl rfl ?_
  refine zx_iloadN dX9_bestYears_1 rfl rfl ?_
  refine zy_cvt [zi x] (sX9_requirePrinter_t  hfl hz (by first | exact hz _ _ | assumption | exact zr_b _ | exact zcmp_r _ _ | (unfold zr at *; omega)) (by first | assumption | omega)) dX9_bestYears_2 (by decide) rfl cw_RX9_172 okX9_requirePrinter rfl (Nat.le_of_ble_eq_true rfl) ⟨Nat.le_of_ble_eq_true rfl, Nat.le_of_ble_eq_true rfl, Nat.le_of_ble_eq_true rfl, Nat.le_of_ble_eq_true rfl⟩ ?_
  refine zxt_out rfl ?_
  rw [hQ]
  exact ⟨rfl, by first | rfl | (exfalso; omega)⟩
set_option maxRecDepth 20000 in
set_option maxHeartbeats 2000000 in
theorem sX9_bestYears {l : Launch} {w : zW} (hfl : l.stackTraces = false) {σ : zS} {x : Int} (hz : zOK σ) (hW : WF (bk σ 30)) (hP1 : 1 ≤ σ.1 31 0) (hx : zr x) (hw0 : 0 ≤ x ∧ x < σ.1 31 0) : Sp l w mX9_bestYears 7 0 [zf 9 0, zi x] σ (zqv (some (zi (tN (bk σ 30) (Ht (bk σ 30)) x.toNat))) (fun τ => zOK τ ∧ zSame (fun q => 252 ≤ q ∧ q ≤ 258) σ τ)) := by
  obtain ⟨Q, hQ⟩ : ∃ Q : zQ, Q = (zqv (some (zi (tN (bk σ 30) (Ht (bk σ 30)) x.toNat))) (fun τ => zOK τ ∧ zSame (fun q => 252 ≤ q ∧ q ≤ 258) σ τ)) := ⟨_, rfl⟩
  rw [← hQ]
  refine zx_enter hfl (by decide) rfl 0 rfl ?_
  show zX l w mX9_bestYears (zMQ w 7 0 Q) 0 [zf 9 0, zi x] [] 0 σ
  have hP : 0 ≤ σ.1 31 0 ∧ σ.1 31 0 ≤ 8 := hW.1.1
  have hM : 0 ≤ σ.1 31 7 ∧ σ.1 31 7 ≤ 8 := hW.1.2.1
  have hE : 0 ≤ σ.1 31 10 ∧ σ.1 31 10 ≤ 12 := hW.1.2.2.1
  have hK : 0 ≤ σ.1 42 0 ∧ σ.1 42 0 ≤ 40 := hW.1.2.2.2
  refine zx_aloadN dX9_bestYears_0 rfl rfl ?_
  refine zx_iloadN dX9_bestYears_1 rfl rfl ?_
  refine zy_cvv [zi x] (sX9_requirePrinter  hfl hz (by first | exact hz _ _ | assumption | exact zr_b _ | exact zcmp_r _ _ | (unfold zr at *; omega)) (by first | assumption | omega)) dX9_bestYears_2 (by decide) rfl cw_RX9_172 okX9_requirePrinter rfl (Nat.le_of_ble_eq_true rfl) ⟨Nat.le_of_ble_eq_true rfl, Nat.le_of_ble_eq_true rfl, Nat.le_of_ble_eq_true rfl, Nat.le_of_ble_eq_true rfl⟩ ?_
  refine zx_aloadN dX9_bestYears_5 rfl rfl ?_
  refine zy_cvvR [] (sX9_judgePresent  hfl hz (by first | assumption | omega)) dX9_bestYears_6 (by decide) rfl cw_RX9_240 okX9_judgePresent rfl (Nat.le_of_ble_eq_true rfl) ⟨Nat.le_of_ble_eq_true rfl, Nat.le_of_ble_eq_true rfl, Nat.le_of_ble_eq_true rfl, Nat.le_of_ble_eq_true rfl⟩ (fun τ6 hr6 => ?_)
  have hz6 : zOK τ6 := hr6.1
  have bk1 : bk σ 30 1 0 = σ.1 31 0 := rfl
  have bk12 : bk σ 30 12 0 = σ.1 42 0 := rfl
  have jw := Jd_win hW hr6.2.2 hP1
  have jwP : (wP (bk σ 30) (Ht (bk σ 30)) : Int) < σ.1 31 0 := jw.1
  have jr := Jd_rk hr6.2.2
  have jH := hr6.2.2.2.1
  have jT := hr6.2.2.2.2.1
  have jP : τ6.1 252 5 = σ.1 31 0 := hr6.2.2.1
  have jO := hr6.2.2.2.2.2
  have j0 := jO.1 0 (by show 0 < (σ.1 31 0).toNat; omega)
  have jq : zEq (bk σ 30) (bk τ6 30) := zEq_same hr6.2.1 (by intro o ho; show ¬ (252 ≤ 30 + o ∧ 30 + o ≤ 258); omega)
  have jW := WF_eq jq hW
  have j31 : τ6.1 31 0 = σ.1 31 0 := hr6.2.1.1 31 (by dsimp only; omega) 0
  have j42 : τ6.1 42 0 = σ.1 42 0 := hr6.2.1.1 42 (by dsimp only; omega) 0
  have jb := tR_b (H := (Ht (bk σ 30))) hW jw.1
  have jy := (hW.2.1 _ jw.1).2
  have jyb : 1450 ≤ wY (bk σ 30) (Ht (bk σ 30)) ∧ wY (bk σ 30) (Ht (bk σ 30)) ≤ 1999 := by unfold wY; omega
  have jsb : 0 ≤ wS (bk σ 30) (Ht (bk σ 30)) ∧ wS (bk σ 30) (Ht (bk σ 30)) ≤ 360 := tS_b hW _
  have jw0 : 0 ≤ τ6.1 258 0 ∧ τ6.1 258 0 < 8 := by omega
  have jt := jT x.toNat (by show ((x.toNat : Nat) : Int) < σ.1 31 0; omega)
  refine zx_aloadN dX9_bestYears_9 rfl rfl ?_
  refine zy_getR (q' := 252) fl_RX9_54 rfl dX9_bestYears_10 rfl ?_
  refine zy_getR (q' := 257) fl_RX9_249 rfl dX9_bestYears_13 rfl ?_
  refine zx_iloadN dX9_bestYears_16 rfl rfl ?_
  refine zy_iald (v := τ6.1 257 x.toNat) rfl (by decide) (by decide) dX9_bestYears_17 (by omega) (by omega) rfl ?_
  refine zx_iret rfl rfl dX9_bestYears_18 ?_
  rw [hQ]
  refine ⟨congrArg (fun z : Int => (Sum.inl (some (zi z)) : Option zV ⊕ String)) ?_, ?_⟩
  · exact jt.2.2
  exact ⟨hz6, hr6.2.1⟩
set_option maxRecDepth 20000 in
set_option maxHeartbeats 2000000 in
theorem sX9_printerByRank {l : Launch} {w : zW} (hfl : l.stackTraces = false) {σ : zS} {x : Int} (hz : zOK σ) (hW : WF (bk σ 30)) (hP1 : 1 ≤ σ.1 31 0) (hx : zr x) : Sp l w mX9_printerByRank 6 0 [zf 9 0, zi x] σ (zqv (some (zi (rkP (bk σ 30) (Ht (bk σ 30)) x))) (fun τ => zOK τ ∧ zSame (fun q => 252 ≤ q ∧ q ≤ 258) σ τ)) := by
  obtain ⟨Q, hQ⟩ : ∃ Q : zQ, Q = (zqv (some (zi (rkP (bk σ 30) (Ht (bk σ 30)) x))) (fun τ => zOK τ ∧ zSame (fun q => 252 ≤ q ∧ q ≤ 258) σ τ)) := ⟨_, rfl⟩
  rw [← hQ]
  refine zx_enter hfl (by decide) rfl 0 rfl ?_
  show zX l w mX9_printerByRank (zMQ w 6 0 Q) 0 [zf 9 0, zi x] [] 0 σ
  have hP : 0 ≤ σ.1 31 0 ∧ σ.1 31 0 ≤ 8 := hW.1.1
  have hM : 0 ≤ σ.1 31 7 ∧ σ.1 31 7 ≤ 8 := hW.1.2.1
  have hE : 0 ≤ σ.1 31 10 ∧ σ.1 31 10 ≤ 12 := hW.1.2.2.1
  have hK : 0 ≤ σ.1 42 0 ∧ σ.1 42 0 ≤ 40 := hW.1.2.2.2
  refine zx_aloadN dX9_printerByRank_0 rfl rfl ?_
  refine zy_cvvR [] (sX9_judgePresent  hfl hz (by first | assumption | omega)) dX9_printerByRank_1 (by decide) rfl cw_RX9_240 okX9_judgePresent rfl (Nat.le_of_ble_eq_true rfl) ⟨Nat.le_of_ble_eq_true rfl, Nat.le_of_ble_eq_true rfl, Nat.le_of_ble_eq_true rfl, Nat.le_of_ble_eq_true rfl⟩ (fun τ1 hr1 => ?_)
  have hz1 : zOK τ1 := hr1.1
  have bk1 : bk σ 30 1 0 = σ.1 31 0 := rfl
  have bk12 : bk σ 30 12 0 = σ.1 42 0 := rfl
  have jw := Jd_win hW hr1.2.2 hP1
  have jwP : (wP (bk σ 30) (Ht (bk σ 30)) : Int) < σ.1 31 0 := jw.1
  have jr := Jd_rk hr1.2.2
  have jH := hr1.2.2.2.1
  have jT := hr1.2.2.2.2.1
  have jP : τ1.1 252 5 = σ.1 31 0 := hr1.2.2.1
  have jO := hr1.2.2.2.2.2
  have j0 := jO.1 0 (by show 0 < (σ.1 31 0).toNat; omega)
  have jq : zEq (bk σ 30) (bk τ1 30) := zEq_same hr1.2.1 (by intro o ho; show ¬ (252 ≤ 30 + o ∧ 30 + o ≤ 258); omega)
  have jW := WF_eq jq hW
  have j31 : τ1.1 31 0 = σ.1 31 0 := hr1.2.1.1 31 (by dsimp only; omega) 0
  have j42 : τ1.1 42 0 = σ.1 42 0 := hr1.2.1.1 42 (by dsimp only; omega) 0
  have jb := tR_b (H := (Ht (bk σ 30))) hW jw.1
  have jy := (hW.2.1 _ jw.1).2
  have jyb : 1450 ≤ wY (bk σ 30) (Ht (bk σ 30)) ∧ wY (bk σ 30) (Ht (bk σ 30)) ≤ 1999 := by unfold wY; omega
  have jsb : 0 ≤ wS (bk σ 30) (Ht (bk σ 30)) ∧ wS (bk σ 30) (Ht (bk σ 30)) ≤ 360 := tS_b hW _
  have jw0 : 0 ≤ τ1.1 258 0 ∧ τ1.1 258 0 < 8 := by omega
  refine zx_aloadN dX9_printerByRank_4 rfl rfl ?_
  refine zy_getR (q' := 252) fl_RX9_54 rfl dX9_printerByRank_5 rfl ?_
  refine zx_iloadN dX9_printerByRank_8 rfl rfl ?_
  refine zy_cv [zi x] (sX7_printerAt  hfl hz1 (by first | exact hz1 _ _ | assumption | exact zr_b _ | exact zcmp_r _ _ | (unfold zr at *; omega)) (by first | assumption | omega)) dX9_printerByRank_9 (by decide) rfl cw_RX9_252 okX7_printerAt rfl (Nat.le_of_ble_eq_true rfl) ⟨Nat.le_of_ble_eq_true rfl, Nat.le_of_ble_eq_true rfl, Nat.le_of_ble_eq_true rfl, Nat.le_of_ble_eq_true rfl⟩ ?_
  refine zx_iret rfl rfl dX9_printerByRank_12 ?_
  rw [hQ]
  refine ⟨congrArg (fun z : Int => (Sum.inl (some (zi z)) : Option zV ⊕ String)) ?_, ?_⟩
  · rw [jP]; exact jr x
  exact ⟨hz1, hr1.2.1⟩
set_option maxRecDepth 20000 in
set_option maxHeartbeats 2000000 in
theorem sX9_verdictPrinter {l : Launch} {w : zW} (hfl : l.stackTraces = false) {σ : zS}  (hz : zOK σ) (hW : WF (bk σ 30)) (hP1 : 1 ≤ σ.1 31 0) : Sp l w mX9_verdictPrinter 6 0 [zf 9 0] σ (zqv (some (zi ((wP (bk σ 30) (Ht (bk σ 30)) : Nat) : Int))) (fun τ => zOK τ ∧ zSame (fun q => 252 ≤ q ∧ q ≤ 258) σ τ)) := by
  obtain ⟨Q, hQ⟩ : ∃ Q : zQ, Q = (zqv (some (zi ((wP (bk σ 30) (Ht (bk σ 30)) : Nat) : Int))) (fun τ => zOK τ ∧ zSame (fun q => 252 ≤ q ∧ q ≤ 258) σ τ)) := ⟨_, rfl⟩
  rw [← hQ]
  refine zx_enter hfl (by decide) rfl 0 rfl ?_
  show zX l w mX9_verdictPrinter (zMQ w 6 0 Q) 0 [zf 9 0] [] 0 σ
  have hP : 0 ≤ σ.1 31 0 ∧ σ.1 31 0 ≤ 8 := hW.1.1
  have hM : 0 ≤ σ.1 31 7 ∧ σ.1 31 7 ≤ 8 := hW.1.2.1
  have hE : 0 ≤ σ.1 31 10 ∧ σ.1 31 10 ≤ 12 := hW.1.2.2.1
  have hK : 0 ≤ σ.1 42 0 ∧ σ.1 42 0 ≤ 40 := hW.1.2.2.2
  refine zx_aloadN dX9_verdictPrinter_0 rfl rfl ?_
  refine zy_cvvR [] (sX9_judgePresent  hfl hz (by first | assumption | omega)) dX9_verdictPrinter_1 (by decide) rfl cw_RX9_240 okX9_judgePresent rfl (Nat.le_of_ble_eq_true rfl) ⟨Nat.le_of_ble_eq_true rfl, Nat.le_of_ble_eq_true rfl, Nat.le_of_ble_eq_true rfl, Nat.le_of_ble_eq_true rfl⟩ (fun τ1 hr1 => ?_)
  have hz1 : zOK τ1 := hr1.1
  have bk1 : bk σ 30 1 0 = σ.1 31 0 := rfl
  have bk12 : bk σ 30 12 0 = σ.1 42 0 := rfl
  have jw := Jd_win hW hr1.2.2 hP1
  have jwP : (wP (bk σ 30) (Ht (bk σ 30)) : Int) < σ.1 31 0 := jw.1
  have jr := Jd_rk hr1.2.2
  have jH := hr1.2.2.2.1
  have jT := hr1.2.2.2.2.1
  have jP : τ1.1 252 5 = σ.1 31 0 := hr1.2.2.1
  have jO := hr1.2.2.2.2.2
  have j0 := jO.1 0 (by show 0 < (σ.1 31 0).toNat; omega)
  have jq : zEq (bk σ 30) (bk τ1 30) := zEq_same hr1.2.1 (by intro o ho; show ¬ (252 ≤ 30 + o ∧ 30 + o ≤ 258); omega)
  have jW := WF_eq jq hW
  have j31 : τ1.1 31 0 = σ.1 31 0 := hr1.2.1.1 31 (by dsimp only; omega) 0
  have j42 : τ1.1 42 0 = σ.1 42 0 := hr1.2.1.1 42 (by dsimp only; omega) 0
  have jb := tR_b (H := (Ht (bk σ 30))) hW jw.1
  have jy := (hW.2.1 _ jw.1).2
  have jyb : 1450 ≤ wY (bk σ 30) (Ht (bk σ 30)) ∧ wY (bk σ 30) (Ht (bk σ 30)) ≤ 1999 := by unfold wY; omega
  have jsb : 0 ≤ wS (bk σ 30) (Ht (bk σ 30)) ∧ wS (bk σ 30) (Ht (bk σ 30)) ≤ 360 := tS_b hW _
  have jw0 : 0 ≤ τ1.1 258 0 ∧ τ1.1 258 0 < 8 := by omega
  refine zx_aloadN dX9_verdictPrinter_4 rfl rfl ?_
  refine zy_getR (q' := 252) fl_RX9_54 rfl dX9_verdictPrinter_5 rfl ?_
  refine zy_cv [] (sX7_winner  hfl hz1 (by first | assumption | omega)) dX9_verdictPrinter_8 (by decide) rfl cw_RX9_255 okX7_winner rfl (Nat.le_of_ble_eq_true rfl) ⟨Nat.le_of_ble_eq_true rfl, Nat.le_of_ble_eq_true rfl, Nat.le_of_ble_eq_true rfl, Nat.le_of_ble_eq_true rfl⟩ ?_
  refine zx_iret rfl rfl dX9_verdictPrinter_11 ?_
  rw [hQ]
  refine ⟨congrArg (fun z : Int => (Sum.inl (some (zi z)) : Option zV ⊕ String)) ?_, ?_⟩
  · exact jw.2.1
  exact ⟨hz1, hr1.2.1⟩
set_option maxRecDepth 20000 in
set_option maxHeartbeats 2000000 in
theorem sX9_verdictYear {l : Launch} {w : zW} (hfl : l.stackTraces = false) {σ : zS}  (hz : zOK σ) (hW : WF (bk σ 30)) (hP1 : 1 ≤ σ.1 31 0) : Sp l w mX9_verdictYear 6 0 [zf 9 0] σ (zqv (some (zi (wY (bk σ 30) (Ht (bk σ 30))))) (fun τ => zOK τ ∧ zSame (fun q => 252 ≤ q ∧ q ≤ 258) σ τ)) := by
  obtain ⟨Q, hQ⟩ : ∃ Q : zQ, Q = (zqv (some (zi (wY (bk σ 30) (Ht (bk σ 30))))) (fun τ => zOK τ ∧ zSame (fun q => 252 ≤ q ∧ q ≤ 258) σ τ)) := ⟨_, rfl⟩
  rw [← hQ]
  refine zx_enter hfl (by decide) rfl 0 rfl ?_
  show zX l w mX9_verdictYear (zMQ w 6 0 Q) 0 [zf 9 0] [] 0 σ
  have hP : 0 ≤ σ.1 31 0 ∧ σ.1 31 0 ≤ 8 := hW.1.1
  have hM : 0 ≤ σ.1 31 7 ∧ σ.1 31 7 ≤ 8 := hW.1.2.1
  have hE : 0 ≤ σ.1 31 10 ∧ σ.1 31 10 ≤ 12 := hW.1.2.2.1
  have hK : 0 ≤ σ.1 42 0 ∧ σ.1 42 0 ≤ 40 := hW.1.2.2.2
  refine zx_aloadN dX9_verdictYear_0 rfl rfl ?_
  refine zy_cvvR [] (sX9_judgePresent  hfl hz (by first | assumption | omega)) dX9_verdictYear_1 (by decide) rfl cw_RX9_240 okX9_judgePresent rfl (Nat.le_of_ble_eq_true rfl) ⟨Nat.le_of_ble_eq_true rfl, Nat.le_of_ble_eq_true rfl, Nat.le_of_ble_eq_true rfl, Nat.le_of_ble_eq_true rfl⟩ (fun τ1 hr1 => ?_)
  have hz1 : zOK τ1 := hr1.1
  have bk1 : bk σ 30 1 0 = σ.1 31 0 := rfl
  have bk12 : bk σ 30 12 0 = σ.1 42 0 := rfl
  have jw := Jd_win hW hr1.2.2 hP1
  have jwP : (wP (bk σ 30) (Ht (bk σ 30)) : Int) < σ.1 31 0 := jw.1
  have jr := Jd_rk hr1.2.2
  have jH := hr1.2.2.2.1
  have jT := hr1.2.2.2.2.1
  have jP : τ1.1 252 5 = σ.1 31 0 := hr1.2.2.1
  have jO := hr1.2.2.2.2.2
  have j0 := jO.1 0 (by show 0 < (σ.1 31 0).toNat; omega)
  have jq : zEq (bk σ 30) (bk τ1 30) := zEq_same hr1.2.1 (by intro o ho; show ¬ (252 ≤ 30 + o ∧ 30 + o ≤ 258); omega)
  have jW := WF_eq jq hW
  have j31 : τ1.1 31 0 = σ.1 31 0 := hr1.2.1.1 31 (by dsimp only; omega) 0
  have j42 : τ1.1 42 0 = σ.1 42 0 := hr1.2.1.1 42 (by dsimp only; omega) 0
  have jb := tR_b (H := (Ht (bk σ 30))) hW jw.1
  have jy := (hW.2.1 _ jw.1).2
  have jyb : 1450 ≤ wY (bk σ 30) (Ht (bk σ 30)) ∧ wY (bk σ 30) (Ht (bk σ 30)) ≤ 1999 := by unfold wY; omega
  have jsb : 0 ≤ wS (bk σ 30) (Ht (bk σ 30)) ∧ wS (bk σ 30) (Ht (bk σ 30)) ≤ 360 := tS_b hW _
  have jw0 : 0 ≤ τ1.1 258 0 ∧ τ1.1 258 0 < 8 := by omega
  refine zx_aloadN dX9_verdictYear_4 rfl rfl ?_
  refine zy_getR (q' := 252) fl_RX9_54 rfl dX9_verdictYear_5 rfl ?_
  refine zy_cv [] (sX7_winningYear  hfl hz1 (by first | assumption | omega) (by first | assumption | omega)) dX9_verdictYear_8 (by decide) rfl cw_RX9_258 okX7_winningYear rfl (Nat.le_of_ble_eq_true rfl) ⟨Nat.le_of_ble_eq_true rfl, Nat.le_of_ble_eq_true rfl, Nat.le_of_ble_eq_true rfl, Nat.le_of_ble_eq_true rfl⟩ ?_
  refine zx_iret rfl rfl dX9_verdictYear_11 ?_
  rw [hQ]
  refine ⟨congrArg (fun z : Int => (Sum.inl (some (zi z)) : Option zV ⊕ String)) ?_, ?_⟩
  · rw [jw.2.1]; exact jw.2.2.1
  exact ⟨hz1, hr1.2.1⟩
set_option maxRecDepth 20000 in
set_option maxHeartbeats 2000000 in
theorem sX9_verdictScore {l : Launch} {w : zW} (hfl : l.stackTraces = false) {σ : zS}  (hz : zOK σ) (hW : WF (bk σ 30)) (hP1 : 1 ≤ σ.1 31 0) : Sp l w mX9_verdictScore 6 0 [zf 9 0] σ (zqv (some (zi (wS (bk σ 30) (Ht (bk σ 30))))) (fun τ => zOK τ ∧ zSame (fun q => 252 ≤ q ∧ q ≤ 258) σ τ)) := by
  obtain ⟨Q, hQ⟩ : ∃ Q : zQ, Q = (zqv (some (zi (wS (bk σ 30) (Ht (bk σ 30))))) (fun τ => zOK τ ∧ zSame (fun q => 252 ≤ q ∧ q ≤ 258) σ τ)) := ⟨_, rfl⟩
  rw [← hQ]
  refine zx_enter hfl (by decide) rfl 0 rfl ?_
  show zX l w mX9_verdictScore (zMQ w 6 0 Q) 0 [zf 9 0] [] 0 σ
  have hP : 0 ≤ σ.1 31 0 ∧ σ.1 31 0 ≤ 8 := hW.1.1
  have hM : 0 ≤ σ.1 31 7 ∧ σ.1 31 7 ≤ 8 := hW.1.2.1
  have hE : 0 ≤ σ.1 31 10 ∧ σ.1 31 10 ≤ 12 := hW.1.2.2.1
  have hK : 0 ≤ σ.1 42 0 ∧ σ.1 42 0 ≤ 40 := hW.1.2.2.2
  refine zx_aloadN dX9_verdictScore_0 rfl rfl ?_
  refine zy_cvvR [] (sX9_judgePresent  hfl hz (by first | assumption | omega)) dX9_verdictScore_1 (by decide) rfl cw_RX9_240 okX9_judgePresent rfl (Nat.le_of_ble_eq_true rfl) ⟨Nat.le_of_ble_eq_true rfl, Nat.le_of_ble_eq_true rfl, Nat.le_of_ble_eq_true rfl, Nat.le_of_ble_eq_true rfl⟩ (fun τ1 hr1 => ?_)
  have hz1 : zOK τ1 := hr1.1
  have bk1 : bk σ 30 1 0 = σ.1 31 0 := rfl
  have bk12 : bk σ 30 12 0 = σ.1 42 0 := rfl
  have jw := Jd_win hW hr1.2.2 hP1
  have jwP : (wP (bk σ 30) (Ht (bk σ 30)) : Int) < σ.1 31 0 := jw.1
  have jr := Jd_rk hr1.2.2
  have jH := hr1.2.2.2.1
  have jT := hr1.2.2.2.2.1
  have jP : τ1.1 252 5 = σ.1 31 0 := hr1.2.2.1
  have jO := hr1.2.2.2.2.2
  have j0 := jO.1 0 (by show 0 < (σ.1 31 0).toNat; omega)
  have jq : zEq (bk σ 30) (bk τ1 30) := zEq_same hr1.2.1 (by intro o ho; show ¬ (252 ≤ 30 + o ∧ 30 + o ≤ 258); omega)
  have jW := WF_eq jq hW
  have j31 : τ1.1 31 0 = σ.1 31 0 := hr1.2.1.1 31 (by dsimp only; omega) 0
  have j42 : τ1.1 42 0 = σ.1 42 0 := hr1.2.1.1 42 (by dsimp only; omega) 0
  have jb := tR_b (H := (Ht (bk σ 30))) hW jw.1
  have jy := (hW.2.1 _ jw.1).2
  have jyb : 1450 ≤ wY (bk σ 30) (Ht (bk σ 30)) ∧ wY (bk σ 30) (Ht (bk σ 30)) ≤ 1999 := by unfold wY; omega
  have jsb : 0 ≤ wS (bk σ 30) (Ht (bk σ 30)) ∧ wS (bk σ 30) (Ht (bk σ 30)) ≤ 360 := tS_b hW _
  have jw0 : 0 ≤ τ1.1 258 0 ∧ τ1.1 258 0 < 8 := by omega
  refine zx_aloadN dX9_verdictScore_4 rfl rfl ?_
  refine zy_getR (q' := 252) fl_RX9_54 rfl dX9_verdictScore_5 rfl ?_
  refine zy_cv [] (sX7_winningScore  hfl hz1 (by first | assumption | omega) (by first | assumption | omega)) dX9_verdictScore_8 (by decide) rfl cw_RX9_261 okX7_winningScore rfl (Nat.le_of_ble_eq_true rfl) ⟨Nat.le_of_ble_eq_true rfl, Nat.le_of_ble_eq_true rfl, Nat.le_of_ble_eq_true rfl, Nat.le_of_ble_eq_true rfl⟩ ?_
  refine zx_iret rfl rfl dX9_verdictScore_11 ?_
  rw [hQ]
  refine ⟨congrArg (fun z : Int => (Sum.inl (some (zi z)) : Option zV ⊕ String)) ?_, ?_⟩
  · rw [jw.2.1]; exact jw.2.2.2
  exact ⟨hz1, hr1.2.1⟩
set_option maxRecDepth 20000 in
set_option maxHeartbeats 2000000 in
theorem sX9_margin {l : Launch} {w : zW} (hfl : l.stackTraces = false) {σ : zS}  (hz : zOK σ) (hW : WF (bk σ 30)) (hP1 : 1 ≤ σ.1 31 0) : Sp l w mX9_margin 6 0 [zf 9 0] σ (zqv (some (zi (wS (bk σ 30) (Ht (bk σ 30)) - scd (bk σ 30) (Ht (bk σ 30))))) (fun τ => zOK τ ∧ zSame (fun q => 252 ≤ q ∧ q ≤ 258) σ τ)) := by
  obtain ⟨Q, hQ⟩ : ∃ Q : zQ, Q = (zqv (some (zi (wS (bk σ 30) (Ht (bk σ 30)) - scd (bk σ 30) (Ht (bk σ 30))))) (fun τ => zOK τ ∧ zSame (fun q => 252 ≤ q ∧ q ≤ 258) σ τ)) := ⟨_, rfl⟩
  rw [← hQ]
  refine zx_enter hfl (by decide) rfl 0 rfl ?_
  show zX l w mX9_margin (zMQ w 6 0 Q) 0 [zf 9 0] [] 0 σ
  have hP : 0 ≤ σ.1 31 0 ∧ σ.1 31 0 ≤ 8 := hW.1.1
  have hM : 0 ≤ σ.1 31 7 ∧ σ.1 31 7 ≤ 8 := hW.1.2.1
  have hE : 0 ≤ σ.1 31 10 ∧ σ.1 31 10 ≤ 12 := hW.1.2.2.1
  have hK : 0 ≤ σ.1 42 0 ∧ σ.1 42 0 ≤ 40 := hW.1.2.2.2
  refine zx_aloadN dX9_margin_0 rfl rfl ?_
  refine zy_cvvR [] (sX9_judgePresent  hfl hz (by first | assumption | omega)) dX9_margin_1 (by decide) rfl cw_RX9_240 okX9_judgePresent rfl (Nat.le_of_ble_eq_true rfl) ⟨Nat.le_of_ble_eq_true rfl, Nat.le_of_ble_eq_true rfl, Nat.le_of_ble_eq_true rfl, Nat.le_of_ble_eq_true rfl⟩ (fun τ1 hr1 => ?_)
  have hz1 : zOK τ1 := hr1.1
  have bk1 : bk σ 30 1 0 = σ.1 31 0 := rfl
  have bk12 : bk σ 30 12 0 = σ.1 42 0 := rfl
  have jw := Jd_win hW hr1.2.2 hP1
  have jwP : (wP (bk σ 30) (Ht (bk σ 30)) : Int) < σ.1 31 0 := jw.1
  have jr := Jd_rk hr1.2.2
  have jH := hr1.2.2.2.1
  have jT := hr1.2.2.2.2.1
  have jP : τ1.1 252 5 = σ.1 31 0 := hr1.2.2.1
  have jO := hr1.2.2.2.2.2
  have j0 := jO.1 0 (by show 0 < (σ.1 31 0).toNat; omega)
  have jq : zEq (bk σ 30) (bk τ1 30) := zEq_same hr1.2.1 (by intro o ho; show ¬ (252 ≤ 30 + o ∧ 30 + o ≤ 258); omega)
  have jW := WF_eq jq hW
  have j31 : τ1.1 31 0 = σ.1 31 0 := hr1.2.1.1 31 (by dsimp only; omega) 0
  have j42 : τ1.1 42 0 = σ.1 42 0 := hr1.2.1.1 42 (by dsimp only; omega) 0
  have jb := tR_b (H := (Ht (bk σ 30))) hW jw.1
  have jy := (hW.2.1 _ jw.1).2
  have jyb : 1450 ≤ wY (bk σ 30) (Ht (bk σ 30)) ∧ wY (bk σ 30) (Ht (bk σ 30)) ≤ 1999 := by unfold wY; omega
  have jsb : 0 ≤ wS (bk σ 30) (Ht (bk σ 30)) ∧ wS (bk σ 30) (Ht (bk σ 30)) ≤ 360 := tS_b hW _
  have jw0 : 0 ≤ τ1.1 258 0 ∧ τ1.1 258 0 < 8 := by omega
  have j1 := jO.1 1
  have jr1 := jr 1
  have jt1 := jT (τ1.1 258 1).toNat
  refine zx_aloadN dX9_margin_4 rfl rfl ?_
  refine zy_getR (q' := 252) fl_RX9_54 rfl dX9_margin_5 rfl ?_
  refine zy_cv [] (sX7_winningScore  hfl hz1 (by first | assumption | omega) (by first | assumption | omega)) dX9_margin_8 (by decide) rfl cw_RX9_261 okX7_winningScore rfl (Nat.le_of_ble_eq_true rfl) ⟨Nat.le_of_ble_eq_true rfl, Nat.le_of_ble_eq_true rfl, Nat.le_of_ble_eq_true rfl, Nat.le_of_ble_eq_true rfl⟩ ?_
  refine zy_top (b := wS (bk σ 30) (Ht (bk σ 30))) (by rw [jw.2.1]; exact jw.2.2.2) ?_
  refine zx_aloadN dX9_margin_11 rfl rfl ?_
  refine zy_getR (q' := 252) fl_RX9_54 rfl dX9_margin_12 rfl ?_
  refine zx_iconst dX9_margin_15 ?_
  by_cases hb16 : ¬ (0 ≤ 1 ∧ 1 < τ1.1 252 5)
  · refine zy_cv [zi 1] (sX7_scoreAt_0  hfl hz1 (by first | exact hz1 _ _ | assumption | exact zr_b _ | exact zcmp_r _ _ | (unfold zr at *; omega)) (by first | assumption | omega) (by first | assumption | omega)) dX9_margin_16 (by decide) rfl cw_RX9_264 okX7_scoreAt rfl (Nat.le_of_ble_eq_true rfl) ⟨Nat.le_of_ble_eq_true rfl, Nat.le_of_ble_eq_true rfl, Nat.le_of_ble_eq_true rfl, Nat.le_of_ble_eq_true rfl⟩ ?_
    refine zx_isub dX9_margin_19 ?_
    refine zx_iret rfl rfl dX9_margin_20 ?_
    rw [hQ]
    refine ⟨congrArg (fun z : Int => (Sum.inl (some (zi z)) : Option zV ⊕ String)) ?_, ?_⟩
    · first
      | (have q : ¬ 2 ≤ bk σ 30 1 0 := by (show ¬ 2 ≤ σ.1 31 0; omega)
         unfold scd; rw [if_neg q])
      | (have q : 2 ≤ bk σ 30 1 0 := by (show 2 ≤ σ.1 31 0; omega)
         have q2 := j1 (by omega)
         have q3 : rkP (bk σ 30) (Ht (bk σ 30)) 1 = τ1.1 258 1 := by rw [← jr1, if_pos (by omega)]; rfl
         have q4 := jt1 (by omega)
         unfold scd; rw [if_pos q, q3, ← q4.2.1]; rfl)
    exact ⟨hz1, hr1.2.1⟩
  · refine zy_cv [zi 1] (sX7_scoreAt  hfl hz1 (by first | exact hz1 _ _ | assumption | exact zr_b _ | exact zcmp_r _ _ | (unfold zr at *; omega)) (by first | assumption | omega) (by first | assumption | omega) (by show 0 ≤ τ1.1 258 1 ∧ τ1.1 258 1 < 8; omega)) dX9_margin_16 (by decide) rfl cw_RX9_264 okX7_scoreAt rfl (Nat.le_of_ble_eq_true rfl) ⟨Nat.le_of_ble_eq_true rfl, Nat.le_of_ble_eq_true rfl, Nat.le_of_ble_eq_true rfl, Nat.le_of_ble_eq_true rfl⟩ ?_
    refine zx_isub dX9_margin_19 ?_
    refine zx_iret rfl rfl dX9_margin_20 ?_
    rw [hQ]
    refine ⟨congrArg (fun z : Int => (Sum.inl (some (zi z)) : Option zV ⊕ String)) ?_, ?_⟩
    · first
      | (have q : ¬ 2 ≤ bk σ 30 1 0 := by (show ¬ 2 ≤ σ.1 31 0; omega)
         unfold scd; rw [if_neg q])
      | (have q : 2 ≤ bk σ 30 1 0 := by (show 2 ≤ σ.1 31 0; omega)
         have q2 := j1 (by omega)
         have q3 : rkP (bk σ 30) (Ht (bk σ 30)) 1 = τ1.1 258 1 := by rw [← jr1, if_pos (by omega)]; rfl
         have q4 := jt1 (by omega)
         unfold scd; rw [if_pos q, q3, ← q4.2.1]; rfl)
    exact ⟨hz1, hr1.2.1⟩
set_option maxRecDepth 20000 in
set_option maxHeartbeats 2000000 in
theorem sX9_unexplainedCount {l : Launch} {w : zW} (hfl : l.stackTraces = false) {σ : zS}  (hz : zOK σ) (hW : WF (bk σ 30)) (hP1 : 1 ≤ σ.1 31 0) : Sp l w mX9_unexplainedCount 6 0 [zf 9 0] σ (zqv (some (zi (zs (fun c => zb (opn (bk σ 30) c)) (σ.1 42 0).toNat))) (fun τ => zOK τ ∧ zSame (fun q => 252 ≤ q ∧ q ≤ 258) σ τ)) := by
  obtain ⟨Q, hQ⟩ : ∃ Q : zQ, Q = (zqv (some (zi (zs (fun c => zb (opn (bk σ 30) c)) (σ.1 42 0).toNat))) (fun τ => zOK τ ∧ zSame (fun q => 252 ≤ q ∧ q ≤ 258) σ τ)) := ⟨_, rfl⟩
  rw [← hQ]
  refine zx_enter hfl (by decide) rfl 2 rfl ?_
  show zX l w mX9_unexplainedCount (zMQ w 6 0 Q) 0 [zf 9 0, zu, zu] [] 0 σ
  have hP : 0 ≤ σ.1 31 0 ∧ σ.1 31 0 ≤ 8 := hW.1.1
  have hM : 0 ≤ σ.1 31 7 ∧ σ.1 31 7 ≤ 8 := hW.1.2.1
  have hE : 0 ≤ σ.1 31 10 ∧ σ.1 31 10 ≤ 12 := hW.1.2.2.1
  have hK : 0 ≤ σ.1 42 0 ∧ σ.1 42 0 ≤ 40 := hW.1.2.2.2
  refine zx_aloadN dX9_unexplainedCount_0 rfl rfl ?_
  refine zy_cvvR [] (sX9_judgePresent  hfl hz (by first | assumption | omega)) dX9_unexplainedCount_1 (by decide) rfl cw_RX9_240 okX9_judgePresent rfl (Nat.le_of_ble_eq_true rfl) ⟨Nat.le_of_ble_eq_true rfl, Nat.le_of_ble_eq_true rfl, Nat.le_of_ble_eq_true rfl, Nat.le_of_ble_eq_true rfl⟩ (fun τ1 hr1 => ?_)
  have hz1 : zOK τ1 := hr1.1
  have bk1 : bk σ 30 1 0 = σ.1 31 0 := rfl
  have bk12 : bk σ 30 12 0 = σ.1 42 0 := rfl
  have jw := Jd_win hW hr1.2.2 hP1
  have jwP : (wP (bk σ 30) (Ht (bk σ 30)) : Int) < σ.1 31 0 := jw.1
  have jr := Jd_rk hr1.2.2
  have jH := hr1.2.2.2.1
  have jT := hr1.2.2.2.2.1
  have jP : τ1.1 252 5 = σ.1 31 0 := hr1.2.2.1
  have jO := hr1.2.2.2.2.2
  have j0 := jO.1 0 (by show 0 < (σ.1 31 0).toNat; omega)
  have jq : zEq (bk σ 30) (bk τ1 30) := zEq_same hr1.2.1 (by intro o ho; show ¬ (252 ≤ 30 + o ∧ 30 + o ≤ 258); omega)
  have jW := WF_eq jq hW
  have j31 : τ1.1 31 0 = σ.1 31 0 := hr1.2.1.1 31 (by dsimp only; omega) 0
  have j42 : τ1.1 42 0 = σ.1 42 0 := hr1.2.1.1 42 (by dsimp only; omega) 0
  have jb := tR_b (H := (Ht (bk σ 30))) hW jw.1
  have jy := (hW.2.1 _ jw.1).2
  have jyb : 1450 ≤ wY (bk σ 30) (Ht (bk σ 30)) ∧ wY (bk σ 30) (Ht (bk σ 30)) ≤ 1999 := by unfold wY; omega
  have jsb : 0 ≤ wS (bk σ 30) (Ht (bk σ 30)) ∧ wS (bk σ 30) (Ht (bk σ 30)) ≤ 360 := tS_b hW _
  have jw0 : 0 ≤ τ1.1 258 0 ∧ τ1.1 258 0 < 8 := by omega
  refine zx_iconst dX9_unexplainedCount_4 ?_
  refine zy_istoreN [zf 9 0, zi 0, zu] dX9_unexplainedCount_5 rfl (Nat.le_of_ble_eq_true rfl) (Nat.le_of_ble_eq_true rfl) rfl rfl ?_
  refine zx_iconst dX9_unexplainedCount_6 ?_
  refine zy_istoreN [zf 9 0, zi 0, zi 0] dX9_unexplainedCount_7 rfl (Nat.le_of_ble_eq_true rfl) (Nat.le_of_ble_eq_true rfl) rfl rfl ?_
  have L8 : ∀ (N : Nat) (c : Nat) (acc : Int), ((c : Int) ≤ σ.1 42 0) → (acc = zs (fun c => zb (opn (bk σ 30) c)) c) → (41 - c) < N → zX l w mX9_unexplainedCount (zMQ w 6 0 Q) 8 [zf 9 0, zi acc, zi ((c : Nat) : Int)] [] 0 τ1 := by
    intro N
    induction N with
    | zero => intro c acc _ _ _; exact absurd (by assumption) (Nat.not_lt_zero _)
    | succ N ih8 =>
      intro c acc hc hacc hN
      refine zx_iloadN dX9_unexplainedCount_8 rfl rfl ?_
      refine zx_aloadN dX9_unexplainedCount_9 rfl rfl ?_
      refine zy_getR (q' := 30) fl_RX9_33 rfl dX9_unexplainedCount_10 rfl ?_
      refine zy_getR (q' := 42) fl_RX9_125 rfl dX9_unexplainedCount_13 rfl ?_
      refine zy_getI fl_RX9_129 rfl dX9_unexplainedCount_16 rfl ?_
      refine zx_icmp_ge (tgt := 46) (by first | exact hz1 _ _ | assumption | exact zr_b _ | exact zcmp_r _ _ | (unfold zr at *; omega)) (by first | exact hz1 _ _ | assumption | exact zr_b _ | exact zcmp_r _ _ | (unfold zr at *; omega)) dX9_unexplainedCount_19 (by decide) (fun h19 => ?_) (fun h19 => ?_)
      · refine zx_iloadN dX9_unexplainedCount_46 rfl rfl ?_
        refine zx_iret rfl rfl dX9_unexplainedCount_47 ?_
        rw [hQ]
        refine ⟨congrArg (fun z : Int => (Sum.inl (some (zi z)) : Option zV ⊕ String)) ?_, ?_⟩
        · rw [hacc]; congr 1; omega
        exact ⟨hz1, hr1.2.1⟩
      · refine zx_aloadN dX9_unexplainedCount_22 rfl rfl ?_
        refine zy_getR (q' := 252) fl_RX9_54 rfl dX9_unexplainedCount_23 rfl ?_
        refine zx_aloadN dX9_unexplainedCount_26 rfl rfl ?_
        refine zy_getR (q' := 30) fl_RX9_33 rfl dX9_unexplainedCount_27 rfl ?_
        refine zx_iloadN dX9_unexplainedCount_30 rfl rfl ?_
        refine zy_cv [zf 1 30, zi ((c : Nat) : Int)] (sX7_leavesOpen (h := (Ht (bk σ 30) c)) (u := (wP (bk σ 30) (Ht (bk σ 30)))) hfl hz1 jW (by first | assumption | omega) jw.2.1 (by omega) (by omega) (jH c (by show ((c : Nat) : Int) < σ.1 42 0; omega))) dX9_unexplainedCount_31 (by decide) rfl cw_RX9_267 okX7_leavesOpen rfl (Nat.le_of_ble_eq_true rfl) ⟨Nat.le_of_ble_eq_true rfl, Nat.le_of_ble_eq_true rfl, Nat.le_of_ble_eq_true rfl, Nat.le_of_ble_eq_true rfl⟩ ?_
        refine zy_top (b := zb (opn (bk σ 30) c)) (by rw [jw.2.2.1]; exact zb_c (by unfold opn; rw [cFit_eq jq hW jw.1 (show ((c : Nat) : Int) < σ.1 42 0 by omega)])) ?_
        refine zx_if_eq (tgt := 40) (by first | exact hz1 _ _ | assumption | exact zr_b _ | exact zcmp_r _ _ | (unfold zr at *; omega)) dX9_unexplainedCount_34 (by decide) (fun h34 => ?_) (fun h34 => ?_)
        · have h34 := zb_0.mp h34
          refine zy_iinc (b := ((c + 1 : Nat) : Int)) [zf 9 0, zi acc, zi ((c + 1 : Nat) : Int)] dX9_unexplainedCount_40 rfl (by omega) (Nat.le_of_ble_eq_true rfl) rfl rfl ?_
          refine zx_goto (tgt := 8) dX9_unexplainedCount_43 (by decide) ?_
          exact ih8 (c + 1) acc (by first | assumption | omega) (by subst hacc; first | exact zsb_t (P := opn (bk σ 30)) h34 | exact zsb_f (P := opn (bk σ 30)) h34) (by omega)
        · have h34 := zb_n.mp h34
          refine zy_iinc (b := acc + 1) [zf 9 0, zi (acc + 1), zi ((c : Nat) : Int)] dX9_unexplainedCount_37 rfl (by omega) (Nat.le_of_ble_eq_true rfl) rfl rfl ?_
          refine zy_iinc (b := ((c + 1 : Nat) : Int)) [zf 9 0, zi (acc + 1), zi ((c + 1 : Nat) : Int)] dX9_unexplainedCount_40 rfl (by omega) (Nat.le_of_ble_eq_true rfl) rfl rfl ?_
          refine zx_goto (tgt := 8) dX9_unexplainedCount_43 (by decide) ?_
          exact ih8 (c + 1) (acc + 1) (by first | assumption | omega) (by subst hacc; first | exact zsb_t (P := opn (bk σ 30)) h34 | exact zsb_f (P := opn (bk σ 30)) h34) (by omega)
  exact L8 _ 0 0 (by first | assumption | omega) rfl (Nat.lt_succ_self _)
set_option maxRecDepth 20000 in
set_option maxHeartbeats 2000000 in
theorem sX9_unexplainedClue {l : Launch} {w : zW} (hfl : l.stackTraces = false) {σ : zS} {x : Int} (hz : zOK σ) (hW : WF (bk σ 30)) (hP1 : 1 ≤ σ.1 31 0) (hx : zr x) : Sp l w mX9_unexplainedClue 6 0 [zf 9 0, zi x] σ (zqv (some (zi (unx (bk σ 30) x))) (fun τ => zOK τ ∧ zSame (fun q => 252 ≤ q ∧ q ≤ 258) σ τ)) := by
  obtain ⟨Q, hQ⟩ : ∃ Q : zQ, Q = (zqv (some (zi (unx (bk σ 30) x))) (fun τ => zOK τ ∧ zSame (fun q => 252 ≤ q ∧ q ≤ 258) σ τ)) := ⟨_, rfl⟩
  rw [← hQ]
  refine zx_enter hfl (by decide) rfl 3 rfl ?_
  show zX l w mX9_unexplainedClue (zMQ w 6 0 Q) 0 [zf 9 0, zi x, zu, zu, zu] [] 0 σ
  have hP : 0 ≤ σ.1 31 0 ∧ σ.1 31 0 ≤ 8 := hW.1.1
  have hM : 0 ≤ σ.1 31 7 ∧ σ.1 31 7 ≤ 8 := hW.1.2.1
  have hE : 0 ≤ σ.1 31 10 ∧ σ.1 31 10 ≤ 12 := hW.1.2.2.1
  have hK : 0 ≤ σ.1 42 0 ∧ σ.1 42 0 ≤ 40 := hW.1.2.2.2
  refine zx_aloadN dX9_unexplainedClue_0 rfl rfl ?_
  refine zy_cvvR [] (sX9_judgePresent  hfl hz (by first | assumption | omega)) dX9_unexplainedClue_1 (by decide) rfl cw_RX9_240 okX9_judgePresent rfl (Nat.le_of_ble_eq_true rfl) ⟨Nat.le_of_ble_eq_true rfl, Nat.le_of_ble_eq_true rfl, Nat.le_of_ble_eq_true rfl, Nat.le_of_ble_eq_true rfl⟩ (fun τ1 hr1 => ?_)
  have hz1 : zOK τ1 := hr1.1
  have bk1 : bk σ 30 1 0 = σ.1 31 0 := rfl
  have bk12 : bk σ 30 12 0 = σ.1 42 0 := rfl
  have jw := Jd_win hW hr1.2.2 hP1
  have jwP : (wP (bk σ 30) (Ht (bk σ 30)) : Int) < σ.1 31 0 := jw.1
  have jr := Jd_rk hr1.2.2
  have jH := hr1.2.2.2.1
  have jT := hr1.2.2.2.2.1
  have jP : τ1.1 252 5 = σ.1 31 0 := hr1.2.2.1
  have jO := hr1.2.2.2.2.2
  have j0 := jO.1 0 (by show 0 < (σ.1 31 0).toNat; omega)
  have jq : zEq (bk σ 30) (bk τ1 30) := zEq_same hr1.2.1 (by intro o ho; show ¬ (252 ≤ 30 + o ∧ 30 + o ≤ 258); omega)
  have jW := WF_eq jq hW
  have j31 : τ1.1 31 0 = σ.1 31 0 := hr1.2.1.1 31 (by dsimp only; omega) 0
  have j42 : τ1.1 42 0 = σ.1 42 0 := hr1.2.1.1 42 (by dsimp only; omega) 0
  have jb := tR_b (H := (Ht (bk σ 30))) hW jw.1
  have jy := (hW.2.1 _ jw.1).2
  have jyb : 1450 ≤ wY (bk σ 30) (Ht (bk σ 30)) ∧ wY (bk σ 30) (Ht (bk σ 30)) ≤ 1999 := by unfold wY; omega
  have jsb : 0 ≤ wS (bk σ 30) (Ht (bk σ 30)) ∧ wS (bk σ 30) (Ht (bk σ 30)) ≤ 360 := tS_b hW _
  have jw0 : 0 ≤ τ1.1 258 0 ∧ τ1.1 258 0 < 8 := by omega
  refine zx_iconst dX9_unexplainedClue_4 ?_
  refine zy_istoreN [zf 9 0, zi x, zi 0, zu, zu] dX9_unexplainedClue_5 rfl (Nat.le_of_ble_eq_true rfl) (Nat.le_of_ble_eq_true rfl) rfl rfl ?_
  refine zx_iconst dX9_unexplainedClue_6 ?_
  refine zy_istoreN [zf 9 0, zi x, zi 0, zi 0, zu] dX9_unexplainedClue_7 rfl (Nat.le_of_ble_eq_true rfl) (Nat.le_of_ble_eq_true rfl) rfl rfl ?_
  have L8 : ∀ (N : Nat) (p : Nat) (acc : Int), ((p : Int) ≤ σ.1 42 0) → (acc = zs (fun i => zb (opn (bk σ 30) (σ.1 49 i).toNat)) p) → (∀ q, q < p → ¬ (fun p => opn (bk σ 30) (σ.1 49 p).toNat ∧ zs (fun i => zb (opn (bk σ 30) (σ.1 49 i).toNat)) p = x) q) → (41 - p) < N → zX l w mX9_unexplainedClue (zMQ w 6 0 Q) 8 [zf 9 0, zi x, zi acc, zi ((p : Nat) : Int), zu] [] 0 τ1 := by
    intro N
    induction N with
    | zero => intro p acc _ _ _ _; exact absurd (by assumption) (Nat.not_lt_zero _)
    | succ N ih8 =>
      intro p acc hc hacc hj hN
      refine zx_iloadN dX9_unexplainedClue_8 rfl rfl ?_
      refine zx_aloadN dX9_unexplainedClue_9 rfl rfl ?_
      refine zy_getR (q' := 30) fl_RX9_33 rfl dX9_unexplainedClue_10 rfl ?_
      refine zy_getR (q' := 42) fl_RX9_125 rfl dX9_unexplainedClue_13 rfl ?_
      refine zy_getI fl_RX9_129 rfl dX9_unexplainedClue_16 rfl ?_
      refine zx_icmp_ge (tgt := 68) (by first | exact hz1 _ _ | assumption | exact zr_b _ | exact zcmp_r _ _ | (unfold zr at *; omega)) (by first | exact hz1 _ _ | assumption | exact zr_b _ | exact zcmp_r _ _ | (unfold zr at *; omega)) dX9_unexplainedClue_19 (by decide) (fun h19 => ?_) (fun h19 => ?_)
      · refine zx_iconst dX9_unexplainedClue_68 ?_
        refine zx_iret rfl rfl dX9_unexplainedClue_69 ?_
        rw [hQ]
        refine ⟨congrArg (fun z : Int => (Sum.inl (some (zi z)) : Option zV ⊕ String)) ?_, ?_⟩
        · first
          | exact (unx_no (fun j hj2 => hj j (by have q : j < (σ.1 42 0).toNat := hj2; omega))).symm
          | (refine ((unx_at (i := p) (show (p : Int) < σ.1 42 0 by omega) hj ⟨h48, hacc.symm.trans (by omega)⟩).trans ?_).symm; show σ.1 49 p = _; omega)
        exact ⟨hz1, hr1.2.1⟩
      · have hO : 0 ≤ σ.1 49 p ∧ σ.1 49 p < σ.1 42 0 := hW.2.2.2.2.2.1 p (by show (p : Int) < σ.1 42 0; omega)
        have c49 := hr1.2.1.1 49 (by dsimp only; omega) p
        have hab := zsb_le (fun i => opn (bk σ 30) (σ.1 49 i).toNat) p
        rw [← hacc] at hab
        refine zx_aloadN dX9_unexplainedClue_22 rfl rfl ?_
        refine zy_getR (q' := 30) fl_RX9_33 rfl dX9_unexplainedClue_23 rfl ?_
        refine zy_getR (q' := 42) fl_RX9_125 rfl dX9_unexplainedClue_26 rfl ?_
        refine zx_iloadN dX9_unexplainedClue_29 rfl rfl ?_
        refine zy_cv [zi ((p : Nat) : Int)] (sX2_clueAt  hfl hz1 (by first | exact hz1 _ _ | assumption | exact zr_b _ | exact zcmp_r _ _ | (unfold zr at *; omega)) (by first | assumption | omega)) dX9_unexplainedClue_30 (by decide) rfl cw_RX9_226 okX2_clueAt rfl (Nat.le_of_ble_eq_true rfl) ⟨Nat.le_of_ble_eq_true rfl, Nat.le_of_ble_eq_true rfl, Nat.le_of_ble_eq_true rfl, Nat.le_of_ble_eq_true rfl⟩ ?_
        refine zy_top (b := if 0 ≤ ((p : Nat) : Int) ∧ ((p : Nat) : Int) < τ1.1 42 0 then τ1.1 49 p else -1) rfl ?_
        refine zy_top (b := (((σ.1 49 p).toNat : Nat) : Int)) (by rw [if_pos (by omega)]; show τ1.1 49 p = _; omega) ?_
        refine zy_istore [zf 9 0, zi x, zi acc, zi ((p : Nat) : Int), zi (((σ.1 49 p).toNat : Nat) : Int)] dX9_unexplainedClue_33 (Nat.le_of_ble_eq_true rfl) (Nat.le_of_ble_eq_true rfl) rfl rfl ?_
        refine zx_aloadN dX9_unexplainedClue_35 rfl rfl ?_
        refine zy_getR (q' := 252) fl_RX9_54 rfl dX9_unexplainedClue_36 rfl ?_
        refine zx_aloadN dX9_unexplainedClue_39 rfl rfl ?_
        refine zy_getR (q' := 30) fl_RX9_33 rfl dX9_unexplainedClue_40 rfl ?_
        refine zx_iload dX9_unexplainedClue_43 rfl ?_
        refine zy_cv [zf 1 30, zi (((σ.1 49 p).toNat : Nat) : Int)] (sX7_leavesOpen (h := (Ht (bk σ 30) (σ.1 49 p).toNat)) (u := (wP (bk σ 30) (Ht (bk σ 30)))) hfl hz1 jW (by first | assumption | omega) jw.2.1 (by omega) (by omega) (jH (σ.1 49 p).toNat (by show (((σ.1 49 p).toNat : Nat) : Int) < σ.1 42 0; omega))) dX9_unexplainedClue_45 (by decide) rfl cw_RX9_267 okX7_leavesOpen rfl (Nat.le_of_ble_eq_true rfl) ⟨Nat.le_of_ble_eq_true rfl, Nat.le_of_ble_eq_true rfl, Nat.le_of_ble_eq_true rfl, Nat.le_of_ble_eq_true rfl⟩ ?_
        refine zy_top (b := zb (opn (bk σ 30) (σ.1 49 p).toNat)) (by rw [jw.2.2.1]; exact zb_c (by unfold opn; rw [cFit_eq jq hW jw.1 (show (((σ.1 49 p).toNat : Nat) : Int) < σ.1 42 0 by omega)])) ?_
        refine zx_if_eq (tgt := 62) (by first | exact hz1 _ _ | assumption | exact zr_b _ | exact zcmp_r _ _ | (unfold zr at *; omega)) dX9_unexplainedClue_48 (by decide) (fun h48 => ?_) (fun h48 => ?_)
        · have h48 := zb_0.mp h48
          refine zy_iinc (b := ((p + 1 : Nat) : Int)) [zf 9 0, zi x, zi acc, zi ((p + 1 : Nat) : Int), zi (((σ.1 49 p).toNat : Nat) : Int)] dX9_unexplainedClue_62 rfl (by omega) (Nat.le_of_ble_eq_true rfl) rfl rfl ?_
          refine zx_goto (tgt := 8) dX9_unexplainedClue_65 (by decide) ?_
          refine zy_drop 4 [zf 9 0, zi x, zi acc, zi ((p + 1 : Nat) : Int), zu] rfl ?_
          exact ih8 (p + 1) acc (by first | assumption | omega) (by subst hacc; first | exact zsb_t (P := fun i => opn (bk σ 30) (σ.1 49 i).toNat) h48 | exact zsb_f (P := fun i => opn (bk σ 30) (σ.1 49 i).toNat) h48) (lt_s hj (fun q => by first | exact absurd q.1 h48 | (have q2 := q.2; rw [← hacc] at q2; omega))) (by omega)
        · have h48 := zb_n.mp h48
          refine zx_iloadN dX9_unexplainedClue_51 rfl rfl ?_
          refine zx_iloadN dX9_unexplainedClue_52 rfl rfl ?_
          refine zx_icmp_ne (tgt := 59) (by first | exact hz1 _ _ | assumption | exact zr_b _ | exact zcmp_r _ _ | (unfold zr at *; omega)) (by first | exact hz1 _ _ | assumption | exact zr_b _ | exact zcmp_r _ _ | (unfold zr at *; omega)) dX9_unexplainedClue_53 (by decide) (fun h53 => ?_) (fun h53 => ?_)
          · refine zy_iinc (b := acc + 1) [zf 9 0, zi x, zi (acc + 1), zi ((p : Nat) : Int), zi (((σ.1 49 p).toNat : Nat) : Int)] dX9_unexplainedClue_59 rfl (by omega) (Nat.le_of_ble_eq_true rfl) rfl rfl ?_
            refine zy_iinc (b := ((p + 1 : Nat) : Int)) [zf 9 0, zi x, zi (acc + 1), zi ((p + 1 : Nat) : Int), zi (((σ.1 49 p).toNat : Nat) : Int)] dX9_unexplainedClue_62 rfl (by omega) (Nat.le_of_ble_eq_true rfl) rfl rfl ?_
            refine zx_goto (tgt := 8) dX9_unexplainedClue_65 (by decide) ?_
            refine zy_drop 4 [zf 9 0, zi x, zi (acc + 1), zi ((p + 1 : Nat) : Int), zu] rfl ?_
            exact ih8 (p + 1) (acc + 1) (by first | assumption | omega) (by subst hacc; first | exact zsb_t (P := fun i => opn (bk σ 30) (σ.1 49 i).toNat) h48 | exact zsb_f (P := fun i => opn (bk σ 30) (σ.1 49 i).toNat) h48) (lt_s hj (fun q => by first | exact absurd q.1 h48 | (have q2 := q.2; rw [← hacc] at q2; omega))) (by omega)
          · refine zx_iload dX9_unexplainedClue_56 rfl ?_
            refine zx_iret rfl rfl dX9_unexplainedClue_58 ?_
            rw [hQ]
            refine ⟨congrArg (fun z : Int => (Sum.inl (some (zi z)) : Option zV ⊕ String)) ?_, ?_⟩
            · first
              | exact (unx_no (fun j hj2 => hj j (by have q : j < (σ.1 42 0).toNat := hj2; omega))).symm
              | (refine ((unx_at (i := p) (show (p : Int) < σ.1 42 0 by omega) hj ⟨h48, hacc.symm.trans (by omega)⟩).trans ?_).symm; show σ.1 49 p = _; omega)
            exact ⟨hz1, hr1.2.1⟩
  exact L8 _ 0 0 (by first | assumption | omega) rfl lt_0 (Nat.lt_succ_self _)
set_option maxRecDepth 20000 in
set_option maxHeartbeats 2000000 in
theorem sX9_contradict_t0 {l : Launch} {w : zW} (hfl : l.stackTraces = false) {σ : zS} {x y : Int} (hz : zOK σ) (hW : WF (bk σ 30)) (hx : zr x) (hy : zr y) (hw0 : ¬ (0 ≤ x ∧ x < σ.1 42 0)) : Sp l w mX9_contradict 7 1 [zf 9 0, zi x, zi y] σ (zthr "java/lang/IndexOutOfBoundsException" σ) := by
  obtain ⟨Q, hQ⟩ : ∃ Q : zQ, Q = (zthr "java/lang/IndexOutOfBoundsException" σ) := ⟨_, rfl⟩
  rw [← hQ]
  refine zx_enter hfl (by decide) rfl 0 rfl ?_
  show zX l w mX9_contradict (zMQ w 7 1 Q) 0 [zf 9 0, zi x, zi y] [] 0 σ
  have hP : 0 ≤ σ.1 31 0 ∧ σ.1 31 0 ≤ 8 := hW.1.1
  have hM : 0 ≤ σ.1 31 7 ∧ σ.1 31 7 ≤ 8 := hW.1.2.1
  have hE : 0 ≤ σ.1 31 10 ∧ σ.1 31 10 ≤ 12 := hW.1.2.2.1
  have hK : 0 ≤ σ.1 42 0 ∧ σ.1 42 0 ≤ 40 := hW.1.2.2.2
  refine zx_aloadN dX9_contradict_0 rfl rfl ?_
  refine zx_iloadN dX9_contradict_1 rfl rfl ?_
  refine zy_cvt [zi x] (sX9_requireClue_t  hfl hz (by first | exact hz _ _ | assumption | exact zr_b _ | exact zcmp_r _ _ | (unfold zr at *; omega)) (by first | assumption | omega)) dX9_contradict_2 (by decide) rfl cw_RX9_204 okX9_requireClue rfl (Nat.le_of_ble_eq_true rfl) ⟨Nat.le_of_ble_eq_true rfl, Nat.le_of_ble_eq_true rfl, Nat.le_of_ble_eq_true rfl, Nat.le_of_ble_eq_true rfl⟩ ?_
  refine zxt_out rfl ?_
  rw [hQ]
  exact ⟨rfl, by first | rfl | (exfalso; omega)⟩
set_option maxRecDepth 20000 in
set_option maxHeartbeats 2000000 in
theorem sX9_contradict_t1 {l : Launch} {w : zW} (hfl : l.stackTraces = false) {σ : zS} {x y : Int} (hz : zOK σ) (hW : WF (bk σ 30)) (hx : zr x) (hy : zr y) (hw0 : 0 ≤ x ∧ x < σ.1 42 0) (hw1 : ¬ (0 ≤ y ∧ y < σ.1 42 0)) : Sp l w mX9_contradict 7 1 [zf 9 0, zi x, zi y] σ (zthr "java/lang/IndexOutOfBoundsException" σ) := by
  obtain ⟨Q, hQ⟩ : ∃ Q : zQ, Q = (zthr "java/lang/IndexOutOfBoundsException" σ) := ⟨_, rfl⟩
  rw [← hQ]
  refine zx_enter hfl (by decide) rfl 0 rfl ?_
  show zX l w mX9_contradict (zMQ w 7 1 Q) 0 [zf 9 0, zi x, zi y] [] 0 σ
  have hP : 0 ≤ σ.1 31 0 ∧ σ.1 31 0 ≤ 8 := hW.1.1
  have hM : 0 ≤ σ.1 31 7 ∧ σ.1 31 7 ≤ 8 := hW.1.2.1
  have hE : 0 ≤ σ.1 31 10 ∧ σ.1 31 10 ≤ 12 := hW.1.2.2.1
  have hK : 0 ≤ σ.1 42 0 ∧ σ.1 42 0 ≤ 40 := hW.1.2.2.2
  refine zx_aloadN dX9_contradict_0 rfl rfl ?_
  refine zx_iloadN dX9_contradict_1 rfl rfl ?_
  refine zy_cvv [zi x] (sX9_requireClue  hfl hz (by first | exact hz _ _ | assumption | exact zr_b _ | exact zcmp_r _ _ | (unfold zr at *; omega)) (by first | assumption | omega)) dX9_contradict_2 (by decide) rfl cw_RX9_204 okX9_requireClue rfl (Nat.le_of_ble_eq_true rfl) ⟨Nat.le_of_ble_eq_true rfl, Nat.le_of_ble_eq_true rfl, Nat.le_of_ble_eq_true rfl, Nat.le_of_ble_eq_true rfl⟩ ?_
  refine zx_aloadN dX9_contradict_5 rfl rfl ?_
  refine zx_iloadN dX9_contradict_6 rfl rfl ?_
  refine zy_cvt [zi y] (sX9_requireClue_t  hfl hz (by first | exact hz _ _ | assumption | exact zr_b _ | exact zcmp_r _ _ | (unfold zr at *; omega)) (by first | assumption | omega)) dX9_contradict_7 (by decide) rfl cw_RX9_204 okX9_requireClue rfl (Nat.le_of_ble_eq_true rfl) ⟨Nat.le_of_ble_eq_true rfl, Nat.le_of_ble_eq_true rfl, Nat.le_of_ble_eq_true rfl, Nat.le_of_ble_eq_true rfl⟩ ?_
  refine zxt_out rfl ?_
  rw [hQ]
  exact ⟨rfl, by first | rfl | (exfalso; omega)⟩
set_option maxRecDepth 20000 in
set_option maxHeartbeats 2000000 in
theorem sX9_contradict {l : Launch} {w : zW} (hfl : l.stackTraces = false) {σ : zS} {x y : Int} (hz : zOK σ) (hW : WF (bk σ 30)) (hx : zr x) (hy : zr y) (hw0 : 0 ≤ x ∧ x < σ.1 42 0) (hw1 : 0 ≤ y ∧ y < σ.1 42 0) : Sp l w mX9_contradict 7 0 [zf 9 0, zi x, zi y] σ (zret (zi (zb (¬ x = y ∧ ¬ tog (bk σ 30) x.toNat y.toNat))) σ) := by
  obtain ⟨Q, hQ⟩ : ∃ Q : zQ, Q = (zret (zi (zb (¬ x = y ∧ ¬ tog (bk σ 30) x.toNat y.toNat))) σ) := ⟨_, rfl⟩
  rw [← hQ]
  refine zx_enter hfl (by decide) rfl 0 rfl ?_
  show zX l w mX9_contradict (zMQ w 7 0 Q) 0 [zf 9 0, zi x, zi y] [] 0 σ
  have hP : 0 ≤ σ.1 31 0 ∧ σ.1 31 0 ≤ 8 := hW.1.1
  have hM : 0 ≤ σ.1 31 7 ∧ σ.1 31 7 ≤ 8 := hW.1.2.1
  have hE : 0 ≤ σ.1 31 10 ∧ σ.1 31 10 ≤ 12 := hW.1.2.2.1
  have hK : 0 ≤ σ.1 42 0 ∧ σ.1 42 0 ≤ 40 := hW.1.2.2.2
  have ex : x = ((x.toNat : Nat) : Int) := by omega
  have ey : y = ((y.toNat : Nat) : Int) := by omega
  refine zx_aloadN dX9_contradict_0 rfl rfl ?_
  refine zx_iloadN dX9_contradict_1 rfl rfl ?_
  refine zy_cvv [zi x] (sX9_requireClue  hfl hz (by first | exact hz _ _ | assumption | exact zr_b _ | exact zcmp_r _ _ | (unfold zr at *; omega)) (by first | assumption | omega)) dX9_contradict_2 (by decide) rfl cw_RX9_204 okX9_requireClue rfl (Nat.le_of_ble_eq_true rfl) ⟨Nat.le_of_ble_eq_true rfl, Nat.le_of_ble_eq_true rfl, Nat.le_of_ble_eq_true rfl, Nat.le_of_ble_eq_true rfl⟩ ?_
  refine zx_aloadN dX9_contradict_5 rfl rfl ?_
  refine zx_iloadN dX9_contradict_6 rfl rfl ?_
  refine zy_cvv [zi y] (sX9_requireClue  hfl hz (by first | exact hz _ _ | assumption | exact zr_b _ | exact zcmp_r _ _ | (unfold zr at *; omega)) (by first | assumption | omega)) dX9_contradict_7 (by decide) rfl cw_RX9_204 okX9_requireClue rfl (Nat.le_of_ble_eq_true rfl) ⟨Nat.le_of_ble_eq_true rfl, Nat.le_of_ble_eq_true rfl, Nat.le_of_ble_eq_true rfl, Nat.le_of_ble_eq_true rfl⟩ ?_
  refine zx_iloadN dX9_contradict_10 rfl rfl ?_
  refine zx_iloadN dX9_contradict_11 rfl rfl ?_
  refine zx_icmp_eq (tgt := 31) (by first | exact hz _ _ | assumption | exact zr_b _ | exact zcmp_r _ _ | (unfold zr at *; omega)) (by first | exact hz _ _ | assumption | exact zr_b _ | exact zcmp_r _ _ | (unfold zr at *; omega)) dX9_contradict_12 (by decide) (fun h12 => ?_) (fun h12 => ?_)
  · refine zx_iconst dX9_contradict_31 ?_
    refine zx_iret rfl rfl dX9_contradict_32 ?_
    rw [hQ]
    refine ⟨congrArg (fun z : Int => (Sum.inl (some (zi z)) : Option zV ⊕ String)) ?_, by first | rfl | (exfalso; omega)⟩
    first | exact (zb_f (fun q => q.1 (by omega))).symm | exact (zb_t ⟨by omega, by assumption⟩).symm | exact (zb_f (fun q => q.2 (by assumption))).symm
  · refine zx_aloadN dX9_contradict_15 rfl rfl ?_
    refine zy_getR (q' := 30) fl_RX9_33 rfl dX9_contradict_16 rfl ?_
    refine zx_iloadN dX9_contradict_19 rfl rfl ?_
    refine zy_top (b := ((x.toNat : Nat) : Int)) (ex) ?_
    refine zx_iloadN dX9_contradict_20 rfl rfl ?_
    refine zy_top (b := ((y.toNat : Nat) : Int)) (ey) ?_
    refine zy_cv [zi ((x.toNat : Nat) : Int), zi ((y.toNat : Nat) : Int)] (sX1_canBothHold  hfl hz (by first | assumption | omega) (by first | assumption | omega | (show (x.toNat : Int) < σ.1 42 0; omega)) (by first | assumption | omega | (show (y.toNat : Int) < σ.1 42 0; omega))) dX9_contradict_21 (by decide) rfl cw_RX9_274 okX1_canBothHold rfl (Nat.le_of_ble_eq_true rfl) ⟨Nat.le_of_ble_eq_true rfl, Nat.le_of_ble_eq_true rfl, Nat.le_of_ble_eq_true rfl, Nat.le_of_ble_eq_true rfl⟩ ?_
    refine zx_if_ne (tgt := 31) (by first | exact hz _ _ | assumption | exact zr_b _ | exact zcmp_r _ _ | (unfold zr at *; omega)) dX9_contradict_24 (by decide) (fun h24 => ?_) (fun h24 => ?_)
    · have h24 := zb_n.mp h24
      refine zx_iconst dX9_contradict_31 ?_
      refine zx_iret rfl rfl dX9_contradict_32 ?_
      rw [hQ]
      refine ⟨congrArg (fun z : Int => (Sum.inl (some (zi z)) : Option zV ⊕ String)) ?_, by first | rfl | (exfalso; omega)⟩
      first | exact (zb_f (fun q => q.1 (by omega))).symm | exact (zb_t ⟨by omega, by assumption⟩).symm | exact (zb_f (fun q => q.2 (by assumption))).symm
    · have h24 := zb_0.mp h24
      refine zx_iconst dX9_contradict_27 ?_
      refine zx_goto (tgt := 32) dX9_contradict_28 (by decide) ?_
      refine zx_iret rfl rfl dX9_contradict_32 ?_
      rw [hQ]
      refine ⟨congrArg (fun z : Int => (Sum.inl (some (zi z)) : Option zV ⊕ String)) ?_, by first | rfl | (exfalso; omega)⟩
      first | exact (zb_f (fun q => q.1 (by omega))).symm | exact (zb_t ⟨by omega, by assumption⟩).symm | exact (zb_f (fun q => q.2 (by assumption))).symm
set_option maxRecDepth 20000 in
set_option maxHeartbeats 2000000 in
theorem sX9_contradictionsOf_t0 {l : Launch} {w : zW} (hfl : l.stackTraces = false) {σ : zS} {x : Int} (hz : zOK σ) (hW : WF (bk σ 30)) (hx : zr x) (hw0 : ¬ (0 ≤ x ∧ x < σ.1 42 0)) : Sp l w mX9_contradictionsOf 7 1 [zf 9 0, zi x] σ (zthr "java/lang/IndexOutOfBoundsException" σ) := by
  obtain ⟨Q, hQ⟩ : ∃ Q : zQ, Q = (zthr "java/lang/IndexOutOfBoundsException" σ) := ⟨_, rfl⟩
  rw [← hQ]
  refine zx_enter hfl (by decide) rfl 2 rfl ?_
  show zX l w mX9_contradictionsOf (zMQ w 7 1 Q) 0 [zf 9 0, zi x, zu, zu] [] 0 σ
  have hP : 0 ≤ σ.1 31 0 ∧ σ.1 31 0 ≤ 8 := hW.1.1
  have hM : 0 ≤ σ.1 31 7 ∧ σ.1 31 7 ≤ 8 := hW.1.2.1
  have hE : 0 ≤ σ.1 31 10 ∧ σ.1 31 10 ≤ 12 := hW.1.2.2.1
  have hK : 0 ≤ σ.1 42 0 ∧ σ.1 42 0 ≤ 40 := hW.1.2.2.2
  refine zx_aloadN dX9_contradictionsOf_0 rfl rfl ?_
  refine zx_iloadN dX9_contradictionsOf_1 rfl rfl ?_
  refine zy_cvt [zi x] (sX9_requireClue_t  hfl hz (by first | exact hz _ _ | assumption | exact zr_b _ | exact zcmp_r _ _ | (unfold zr at *; omega)) (by first | assumption | omega)) dX9_contradictionsOf_2 (by decide) rfl cw_RX9_204 okX9_requireClue rfl (Nat.le_of_ble_eq_true rfl) ⟨Nat.le_of_ble_eq_true rfl, Nat.le_of_ble_eq_true rfl, Nat.le_of_ble_eq_true rfl, Nat.le_of_ble_eq_true rfl⟩ ?_
  refine zxt_out rfl ?_
  rw [hQ]
  exact ⟨rfl, by first | rfl | (exfalso; omega)⟩
set_option maxRecDepth 20000 in
set_option maxHeartbeats 2000000 in
theorem sX9_contradictionsOf {l : Launch} {w : zW} (hfl : l.stackTraces = false) {σ : zS} {x : Int} (hz : zOK σ) (hW : WF (bk σ 30)) (hx : zr x) (hw0 : 0 ≤ x ∧ x < σ.1 42 0) : Sp l w mX9_contradictionsOf 7 0 [zf 9 0, zi x] σ (zret (zi (zs (fun c => zb (¬ (c : Int) = x ∧ ¬ tog (bk σ 30) x.toNat c)) (σ.1 42 0).toNat)) σ) := by
  obtain ⟨Q, hQ⟩ : ∃ Q : zQ, Q = (zret (zi (zs (fun c => zb (¬ (c : Int) = x ∧ ¬ tog (bk σ 30) x.toNat c)) (σ.1 42 0).toNat)) σ) := ⟨_, rfl⟩
  rw [← hQ]
  refine zx_enter hfl (by decide) rfl 2 rfl ?_
  show zX l w mX9_contradictionsOf (zMQ w 7 0 Q) 0 [zf 9 0, zi x, zu, zu] [] 0 σ
  have hP : 0 ≤ σ.1 31 0 ∧ σ.1 31 0 ≤ 8 := hW.1.1
  have hM : 0 ≤ σ.1 31 7 ∧ σ.1 31 7 ≤ 8 := hW.1.2.1
  have hE : 0 ≤ σ.1 31 10 ∧ σ.1 31 10 ≤ 12 := hW.1.2.2.1
  have hK : 0 ≤ σ.1 42 0 ∧ σ.1 42 0 ≤ 40 := hW.1.2.2.2
  have ex : x = ((x.toNat : Nat) : Int) := by omega
  refine zx_aloadN dX9_contradictionsOf_0 rfl rfl ?_
  refine zx_iloadN dX9_contradictionsOf_1 rfl rfl ?_
  refine zy_cvv [zi x] (sX9_requireClue  hfl hz (by first | exact hz _ _ | assumption | exact zr_b _ | exact zcmp_r _ _ | (unfold zr at *; omega)) (by first | assumption | omega)) dX9_contradictionsOf_2 (by decide) rfl cw_RX9_204 okX9_requireClue rfl (Nat.le_of_ble_eq_true rfl) ⟨Nat.le_of_ble_eq_true rfl, Nat.le_of_ble_eq_true rfl, Nat.le_of_ble_eq_true rfl, Nat.le_of_ble_eq_true rfl⟩ ?_
  refine zx_iconst dX9_contradictionsOf_5 ?_
  refine zy_istoreN [zf 9 0, zi x, zi 0, zu] dX9_contradictionsOf_6 rfl (Nat.le_of_ble_eq_true rfl) (Nat.le_of_ble_eq_true rfl) rfl rfl ?_
  refine zx_iconst dX9_contradictionsOf_7 ?_
  refine zy_istoreN [zf 9 0, zi x, zi 0, zi 0] dX9_contradictionsOf_8 rfl (Nat.le_of_ble_eq_true rfl) (Nat.le_of_ble_eq_true rfl) rfl rfl ?_
  have L9 : ∀ (N : Nat) (c : Nat) (acc : Int), ((c : Int) ≤ σ.1 42 0) → (acc = zs (fun c => zb (¬ (c : Int) = x ∧ ¬ tog (bk σ 30) x.toNat c)) c) → (41 - c) < N → zX l w mX9_contradictionsOf (zMQ w 7 0 Q) 9 [zf 9 0, zi x, zi acc, zi ((c : Nat) : Int)] [] 0 σ := by
    intro N
    induction N with
    | zero => intro c acc _ _ _; exact absurd (by assumption) (Nat.not_lt_zero _)
    | succ N ih9 =>
      intro c acc hc hacc hN
      refine zx_iloadN dX9_contradictionsOf_9 rfl rfl ?_
      refine zx_aloadN dX9_contradictionsOf_10 rfl rfl ?_
      refine zy_getR (q' := 30) fl_RX9_33 rfl dX9_contradictionsOf_11 rfl ?_
      refine zy_getR (q' := 42) fl_RX9_125 rfl dX9_contradictionsOf_14 rfl ?_
      refine zy_getI fl_RX9_129 rfl dX9_contradictionsOf_17 rfl ?_
      refine zx_icmp_ge (tgt := 49) (by first | exact hz _ _ | assumption | exact zr_b _ | exact zcmp_r _ _ | (unfold zr at *; omega)) (by first | exact hz _ _ | assumption | exact zr_b _ | exact zcmp_r _ _ | (unfold zr at *; omega)) dX9_contradictionsOf_20 (by decide) (fun h20 => ?_) (fun h20 => ?_)
      · refine zx_iloadN dX9_contradictionsOf_49 rfl rfl ?_
        refine zx_iret rfl rfl dX9_contradictionsOf_50 ?_
        rw [hQ]
        refine ⟨congrArg (fun z : Int => (Sum.inl (some (zi z)) : Option zV ⊕ String)) ?_, by first | rfl | (exfalso; omega)⟩
        rw [hacc]; congr 1; omega
      · refine zx_iloadN dX9_contradictionsOf_23 rfl rfl ?_
        refine zx_iloadN dX9_contradictionsOf_24 rfl rfl ?_
        refine zx_icmp_eq (tgt := 43) (by first | exact hz _ _ | assumption | exact zr_b _ | exact zcmp_r _ _ | (unfold zr at *; omega)) (by first | exact hz _ _ | assumption | exact zr_b _ | exact zcmp_r _ _ | (unfold zr at *; omega)) dX9_contradictionsOf_25 (by decide) (fun h25 => ?_) (fun h25 => ?_)
        · refine zy_iinc (b := ((c + 1 : Nat) : Int)) [zf 9 0, zi x, zi acc, zi ((c + 1 : Nat) : Int)] dX9_contradictionsOf_43 rfl (by omega) (Nat.le_of_ble_eq_true rfl) rfl rfl ?_
          refine zx_goto (tgt := 9) dX9_contradictionsOf_46 (by decide) ?_
          exact ih9 (c + 1) acc (by first | assumption | omega) (by subst hacc; first | exact zsb_t (P := fun c : Nat => (¬ (c : Int) = x ∧ ¬ tog (bk σ 30) x.toNat c)) ⟨by omega, h37⟩ | exact zsb_f (P := fun c : Nat => (¬ (c : Int) = x ∧ ¬ tog (bk σ 30) x.toNat c)) (fun q => q.1 (by omega)) | exact zsb_f (P := fun c : Nat => (¬ (c : Int) = x ∧ ¬ tog (bk σ 30) x.toNat c)) (fun q => q.2 h37)) (by omega)
        · refine zx_aloadN dX9_contradictionsOf_28 rfl rfl ?_
          refine zy_getR (q' := 30) fl_RX9_33 rfl dX9_contradictionsOf_29 rfl ?_
          refine zx_iloadN dX9_contradictionsOf_32 rfl rfl ?_
          refine zy_top (b := ((x.toNat : Nat) : Int)) (ex) ?_
          refine zx_iloadN dX9_contradictionsOf_33 rfl rfl ?_
          refine zy_cv [zi ((x.toNat : Nat) : Int), zi ((c : Nat) : Int)] (sX1_canBothHold  hfl hz (by first | assumption | omega) (by first | assumption | omega | (show (x.toNat : Int) < σ.1 42 0; omega)) (by first | assumption | omega | (show (c : Int) < σ.1 42 0; omega))) dX9_contradictionsOf_34 (by decide) rfl cw_RX9_274 okX1_canBothHold rfl (Nat.le_of_ble_eq_true rfl) ⟨Nat.le_of_ble_eq_true rfl, Nat.le_of_ble_eq_true rfl, Nat.le_of_ble_eq_true rfl, Nat.le_of_ble_eq_true rfl⟩ ?_
          refine zx_if_ne (tgt := 43) (by first | exact hz _ _ | assumption | exact zr_b _ | exact zcmp_r _ _ | (unfold zr at *; omega)) dX9_contradictionsOf_37 (by decide) (fun h37 => ?_) (fun h37 => ?_)
          · have h37 := zb_n.mp h37
            refine zy_iinc (b := ((c + 1 : Nat) : Int)) [zf 9 0, zi x, zi acc, zi ((c + 1 : Nat) : Int)] dX9_contradictionsOf_43 rfl (by omega) (Nat.le_of_ble_eq_true rfl) rfl rfl ?_
            refine zx_goto (tgt := 9) dX9_contradictionsOf_46 (by decide) ?_
            exact ih9 (c + 1) acc (by first | assumption | omega) (by subst hacc; first | exact zsb_t (P := fun c : Nat => (¬ (c : Int) = x ∧ ¬ tog (bk σ 30) x.toNat c)) ⟨by omega, h37⟩ | exact zsb_f (P := fun c : Nat => (¬ (c : Int) = x ∧ ¬ tog (bk σ 30) x.toNat c)) (fun q => q.1 (by omega)) | exact zsb_f (P := fun c : Nat => (¬ (c : Int) = x ∧ ¬ tog (bk σ 30) x.toNat c)) (fun q => q.2 h37)) (by omega)
          · have h37 := zb_0.mp h37
            refine zy_iinc (b := acc + 1) [zf 9 0, zi x, zi (acc + 1), zi ((c : Nat) : Int)] dX9_contradictionsOf_40 rfl (by omega) (Nat.le_of_ble_eq_true rfl) rfl rfl ?_
            refine zy_iinc (b := ((c + 1 : Nat) : Int)) [zf 9 0, zi x, zi (acc + 1), zi ((c + 1 : Nat) : Int)] dX9_contradictionsOf_43 rfl (by omega) (Nat.le_of_ble_eq_true rfl) rfl rfl ?_
            refine zx_goto (tgt := 9) dX9_contradictionsOf_46 (by decide) ?_
            exact ih9 (c + 1) (acc + 1) (by first | assumption | omega) (by subst hacc; first | exact zsb_t (P := fun c : Nat => (¬ (c : Int) = x ∧ ¬ tog (bk σ 30) x.toNat c)) ⟨by omega, h37⟩ | exact zsb_f (P := fun c : Nat => (¬ (c : Int) = x ∧ ¬ tog (bk σ 30) x.toNat c)) (fun q => q.1 (by omega)) | exact zsb_f (P := fun c : Nat => (¬ (c : Int) = x ∧ ¬ tog (bk σ 30) x.toNat c)) (fun q => q.2 h37)) (by omega)
  exact L9 _ 0 0 (by first | assumption | omega) rfl (Nat.lt_succ_self _)
set_option maxRecDepth 20000 in
set_option maxHeartbeats 2000000 in
theorem sX9_printerAfter_t0 {l : Launch} {w : zW} (hfl : l.stackTraces = false) {σ : zS} {x : Int} (hz : zOK σ) (hW : WF (bk σ 30)) (hP1 : 1 ≤ σ.1 31 0) (hx : zr x) (hw0 : ¬ (0 ≤ x ∧ x ≤ 40)) : Sp l w mX9_printerAfter 7 1 [zf 9 0, zi x] σ (zthr "java/lang/IllegalArgumentException" σ) := by
  obtain ⟨Q, hQ⟩ : ∃ Q : zQ, Q = (zthr "java/lang/IllegalArgumentException" σ) := ⟨_, rfl⟩
  rw [← hQ]
  refine zx_enter hfl (by decide) rfl 0 rfl ?_
  show zX l w mX9_printerAfter (zMQ w 7 1 Q) 0 [zf 9 0, zi x] [] 0 σ
  have hP : 0 ≤ σ.1 31 0 ∧ σ.1 31 0 ≤ 8 := hW.1.1
  have hM : 0 ≤ σ.1 31 7 ∧ σ.1 31 7 ≤ 8 := hW.1.2.1
  have hE : 0 ≤ σ.1 31 10 ∧ σ.1 31 10 ≤ 12 := hW.1.2.2.1
  have hK : 0 ≤ σ.1 42 0 ∧ σ.1 42 0 ≤ 40 := hW.1.2.2.2
  refine zx_iloadN dX9_printerAfter_0 rfl rfl ?_
  refine zy_cst [zi x] (sX9_requirePrediction_t  hfl hz (by first | exact hz _ _ | assumption | exact zr_b _ | exact zcmp_r _ _ | (unfold zr at *; omega)) (by first | assumption | omega)) dX9_printerAfter_1 cw_RX9_277 okX9_requirePrediction rfl (Nat.le_of_ble_eq_true rfl) ⟨Nat.le_of_ble_eq_true rfl, Nat.le_of_ble_eq_true rfl, Nat.le_of_ble_eq_true rfl, Nat.le_of_ble_eq_true rfl⟩ ?_
  refine zxt_out rfl ?_
  rw [hQ]
  exact ⟨rfl, by first | rfl | (exfalso; omega)⟩
set_option maxRecDepth 20000 in
set_option maxHeartbeats 2000000 in
theorem sX9_printerAfter {l : Launch} {w : zW} (hfl : l.stackTraces = false) {σ : zS} {x : Int} (hz : zOK σ) (hW : WF (bk σ 30)) (hP1 : 1 ≤ σ.1 31 0) (hx : zr x) (hw0 : 0 ≤ x ∧ x ≤ 40) : Sp l w mX9_printerAfter 7 0 [zf 9 0, zi x] σ (zqv (some (zi ((wP (bk σ 30) (Hd (bk σ 30) x (-1)) : Nat) : Int))) (fun τ => zOK τ ∧ zSame (fun q => 252 ≤ q ∧ q ≤ 258) σ τ)) := by
  obtain ⟨Q, hQ⟩ : ∃ Q : zQ, Q = (zqv (some (zi ((wP (bk σ 30) (Hd (bk σ 30) x (-1)) : Nat) : Int))) (fun τ => zOK τ ∧ zSame (fun q => 252 ≤ q ∧ q ≤ 258) σ τ)) := ⟨_, rfl⟩
  rw [← hQ]
  refine zx_enter hfl (by decide) rfl 0 rfl ?_
  show zX l w mX9_printerAfter (zMQ w 7 0 Q) 0 [zf 9 0, zi x] [] 0 σ
  have hP : 0 ≤ σ.1 31 0 ∧ σ.1 31 0 ≤ 8 := hW.1.1
  have hM : 0 ≤ σ.1 31 7 ∧ σ.1 31 7 ≤ 8 := hW.1.2.1
  have hE : 0 ≤ σ.1 31 10 ∧ σ.1 31 10 ≤ 12 := hW.1.2.2.1
  have hK : 0 ≤ σ.1 42 0 ∧ σ.1 42 0 ≤ 40 := hW.1.2.2.2
  refine zx_iloadN dX9_printerAfter_0 rfl rfl ?_
  refine zy_csv [zi x] (sX9_requirePrediction  hfl hz (by first | exact hz _ _ | assumption | exact zr_b _ | exact zcmp_r _ _ | (unfold zr at *; omega)) (by first | assumption | omega)) dX9_printerAfter_1 cw_RX9_277 okX9_requirePrediction rfl (Nat.le_of_ble_eq_true rfl) ⟨Nat.le_of_ble_eq_true rfl, Nat.le_of_ble_eq_true rfl, Nat.le_of_ble_eq_true rfl, Nat.le_of_ble_eq_true rfl⟩ ?_
  refine zx_aloadN dX9_printerAfter_4 rfl rfl ?_
  refine zy_getR (q' := 252) fl_RX9_54 rfl dX9_printerAfter_5 rfl ?_
  refine zx_aloadN dX9_printerAfter_8 rfl rfl ?_
  refine zy_getR (q' := 30) fl_RX9_33 rfl dX9_printerAfter_9 rfl ?_
  refine zx_iloadN dX9_printerAfter_12 rfl rfl ?_
  refine zx_iconst dX9_printerAfter_13 ?_
  refine zy_cvvR [zf 1 30, zi x, zi (-1)] (sX7_weigh  hfl hz (by first | assumption | omega) (by first | assumption | omega) (by unfold zr; omega)) dX9_printerAfter_14 (by decide) rfl cw_RX9_280 okX7_weigh rfl (Nat.le_of_ble_eq_true rfl) ⟨Nat.le_of_ble_eq_true rfl, Nat.le_of_ble_eq_true rfl, Nat.le_of_ble_eq_true rfl, Nat.le_of_ble_eq_true rfl⟩ (fun τ14 hr14 => ?_)
  have hz14 : zOK τ14 := hr14.1
  have bk1 : bk σ 30 1 0 = σ.1 31 0 := rfl
  have bk12 : bk σ 30 12 0 = σ.1 42 0 := rfl
  have jw := Jd_win hW hr14.2.2 hP1
  have jwP : (wP (bk σ 30) (Hd (bk σ 30) x (-1)) : Int) < σ.1 31 0 := jw.1
  have jr := Jd_rk hr14.2.2
  have jH := hr14.2.2.2.1
  have jT := hr14.2.2.2.2.1
  have jP : τ14.1 252 5 = σ.1 31 0 := hr14.2.2.1
  have jO := hr14.2.2.2.2.2
  have j0 := jO.1 0 (by show 0 < (σ.1 31 0).toNat; omega)
  have jq : zEq (bk σ 30) (bk τ14 30) := zEq_same hr14.2.1 (by intro o ho; show ¬ (252 ≤ 30 + o ∧ 30 + o ≤ 258); omega)
  have jW := WF_eq jq hW
  have j31 : τ14.1 31 0 = σ.1 31 0 := hr14.2.1.1 31 (by dsimp only; omega) 0
  have j42 : τ14.1 42 0 = σ.1 42 0 := hr14.2.1.1 42 (by dsimp only; omega) 0
  have jb := tR_b (H := (Hd (bk σ 30) x (-1))) hW jw.1
  have jy := (hW.2.1 _ jw.1).2
  have jyb : 1450 ≤ wY (bk σ 30) (Hd (bk σ 30) x (-1)) ∧ wY (bk σ 30) (Hd (bk σ 30) x (-1)) ≤ 1999 := by unfold wY; omega
  have jsb : 0 ≤ wS (bk σ 30) (Hd (bk σ 30) x (-1)) ∧ wS (bk σ 30) (Hd (bk σ 30) x (-1)) ≤ 360 := tS_b hW _
  have jw0 : 0 ≤ τ14.1 258 0 ∧ τ14.1 258 0 < 8 := by omega
  refine zx_aloadN dX9_printerAfter_17 rfl rfl ?_
  refine zy_getR (q' := 252) fl_RX9_54 rfl dX9_printerAfter_18 rfl ?_
  refine zy_cv [] (sX7_winner  hfl hz14 (by first | assumption | omega)) dX9_printerAfter_21 (by decide) rfl cw_RX9_255 okX7_winner rfl (Nat.le_of_ble_eq_true rfl) ⟨Nat.le_of_ble_eq_true rfl, Nat.le_of_ble_eq_true rfl, Nat.le_of_ble_eq_true rfl, Nat.le_of_ble_eq_true rfl⟩ ?_
  refine zx_iret rfl rfl dX9_printerAfter_24 ?_
  rw [hQ]
  refine ⟨congrArg (fun z : Int => (Sum.inl (some (zi z)) : Option zV ⊕ String)) ?_, ?_⟩
  · exact jw.2.1
  exact ⟨hz14, hr14.2.1⟩
set_option maxRecDepth 20000 in
set_option maxHeartbeats 2000000 in
theorem sX9_yearAfter_t0 {l : Launch} {w : zW} (hfl : l.stackTraces = false) {σ : zS} {x : Int} (hz : zOK σ) (hW : WF (bk σ 30)) (hP1 : 1 ≤ σ.1 31 0) (hx : zr x) (hw0 : ¬ (0 ≤ x ∧ x ≤ 40)) : Sp l w mX9_yearAfter 7 1 [zf 9 0, zi x] σ (zthr "java/lang/IllegalArgumentException" σ) := by
  obtain ⟨Q, hQ⟩ : ∃ Q : zQ, Q = (zthr "java/lang/IllegalArgumentException" σ) := ⟨_, rfl⟩
  rw [← hQ]
  refine zx_enter hfl (by decide) rfl 0 rfl ?_
  show zX l w mX9_yearAfter (zMQ w 7 1 Q) 0 [zf 9 0, zi x] [] 0 σ
  have hP : 0 ≤ σ.1 31 0 ∧ σ.1 31 0 ≤ 8 := hW.1.1
  have hM : 0 ≤ σ.1 31 7 ∧ σ.1 31 7 ≤ 8 := hW.1.2.1
  have hE : 0 ≤ σ.1 31 10 ∧ σ.1 31 10 ≤ 12 := hW.1.2.2.1
  have hK : 0 ≤ σ.1 42 0 ∧ σ.1 42 0 ≤ 40 := hW.1.2.2.2
  refine zx_iloadN dX9_yearAfter_0 rfl rfl ?_
  refine zy_cst [zi x] (sX9_requirePrediction_t  hfl hz (by first | exact hz _ _ | assumption | exact zr_b _ | exact zcmp_r _ _ | (unfold zr at *; omega)) (by first | assumption | omega)) dX9_yearAfter_1 cw_RX9_277 okX9_requirePrediction rfl (Nat.le_of_ble_eq_true rfl) ⟨Nat.le_of_ble_eq_true rfl, Nat.le_of_ble_eq_true rfl, Nat.le_of_ble_eq_true rfl, Nat.le_of_ble_eq_true rfl⟩ ?_
  refine zxt_out rfl ?_
  rw [hQ]
  exact ⟨rfl, by first | rfl | (exfalso; omega)⟩
set_option maxRecDepth 20000 in
set_option maxHeartbeats 2000000 in
theorem sX9_yearAfter {l : Launch} {w : zW} (hfl : l.stackTraces = false) {σ : zS} {x : Int} (hz : zOK σ) (hW : WF (bk σ 30)) (hP1 : 1 ≤ σ.1 31 0) (hx : zr x) (hw0 : 0 ≤ x ∧ x ≤ 40) : Sp l w mX9_yearAfter 7 0 [zf 9 0, zi x] σ (zqv (some (zi (wY (bk σ 30) (Hd (bk σ 30) x (-1))))) (fun τ => zOK τ ∧ zSame (fun q => 252 ≤ q ∧ q ≤ 258) σ τ)) := by
  obtain ⟨Q, hQ⟩ : ∃ Q : zQ, Q = (zqv (some (zi (wY (bk σ 30) (Hd (bk σ 30) x (-1))))) (fun τ => zOK τ ∧ zSame (fun q => 252 ≤ q ∧ q ≤ 258) σ τ)) := ⟨_, rfl⟩
  rw [← hQ]
  refine zx_enter hfl (by decide) rfl 0 rfl ?_
  show zX l w mX9_yearAfter (zMQ w 7 0 Q) 0 [zf 9 0, zi x] [] 0 σ
  have hP : 0 ≤ σ.1 31 0 ∧ σ.1 31 0 ≤ 8 := hW.1.1
  have hM : 0 ≤ σ.1 31 7 ∧ σ.1 31 7 ≤ 8 := hW.1.2.1
  have hE : 0 ≤ σ.1 31 10 ∧ σ.1 31 10 ≤ 12 := hW.1.2.2.1
  have hK : 0 ≤ σ.1 42 0 ∧ σ.1 42 0 ≤ 40 := hW.1.2.2.2
  refine zx_iloadN dX9_yearAfter_0 rfl rfl ?_
  refine zy_csv [zi x] (sX9_requirePrediction  hfl hz (by first | exact hz _ _ | assumption | exact zr_b _ | exact zcmp_r _ _ | (unfold zr at *; omega)) (by first | assumption | omega)) dX9_yearAfter_1 cw_RX9_277 okX9_requirePrediction rfl (Nat.le_of_ble_eq_true rfl) ⟨Nat.le_of_ble_eq_true rfl, Nat.le_of_ble_eq_true rfl, Nat.le_of_ble_eq_true rfl, Nat.le_of_ble_eq_true rfl⟩ ?_
  refine zx_aloadN dX9_yearAfter_4 rfl rfl ?_
  refine zy_getR (q' := 252) fl_RX9_54 rfl dX9_yearAfter_5 rfl ?_
  refine zx_aloadN dX9_yearAfter_8 rfl rfl ?_
  refine zy_getR (q' := 30) fl_RX9_33 rfl dX9_yearAfter_9 rfl ?_
  refine zx_iloadN dX9_yearAfter_12 rfl rfl ?_
  refine zx_iconst dX9_yearAfter_13 ?_
  refine zy_cvvR [zf 1 30, zi x, zi (-1)] (sX7_weigh  hfl hz (by first | assumption | omega) (by first | assumption | omega) (by unfold zr; omega)) dX9_yearAfter_14 (by decide) rfl cw_RX9_280 okX7_weigh rfl (Nat.le_of_ble_eq_true rfl) ⟨Nat.le_of_ble_eq_true rfl, Nat.le_of_ble_eq_true rfl, Nat.le_of_ble_eq_true rfl, Nat.le_of_ble_eq_true rfl⟩ (fun τ14 hr14 => ?_)
  have hz14 : zOK τ14 := hr14.1
  have bk1 : bk σ 30 1 0 = σ.1 31 0 := rfl
  have bk12 : bk σ 30 12 0 = σ.1 42 0 := rfl
  have jw := Jd_win hW hr14.2.2 hP1
  have jwP : (wP (bk σ 30) (Hd (bk σ 30) x (-1)) : Int) < σ.1 31 0 := jw.1
  have jr := Jd_rk hr14.2.2
  have jH := hr14.2.2.2.1
  have jT := hr14.2.2.2.2.1
  have jP : τ14.1 252 5 = σ.1 31 0 := hr14.2.2.1
  have jO := hr14.2.2.2.2.2
  have j0 := jO.1 0 (by show 0 < (σ.1 31 0).toNat; omega)
  have jq : zEq (bk σ 30) (bk τ14 30) := zEq_same hr14.2.1 (by intro o ho; show ¬ (252 ≤ 30 + o ∧ 30 + o ≤ 258); omega)
  have jW := WF_eq jq hW
  have j31 : τ14.1 31 0 = σ.1 31 0 := hr14.2.1.1 31 (by dsimp only; omega) 0
  have j42 : τ14.1 42 0 = σ.1 42 0 := hr14.2.1.1 42 (by dsimp only; omega) 0
  have jb := tR_b (H := (Hd (bk σ 30) x (-1))) hW jw.1
  have jy := (hW.2.1 _ jw.1).2
  have jyb : 1450 ≤ wY (bk σ 30) (Hd (bk σ 30) x (-1)) ∧ wY (bk σ 30) (Hd (bk σ 30) x (-1)) ≤ 1999 := by unfold wY; omega
  have jsb : 0 ≤ wS (bk σ 30) (Hd (bk σ 30) x (-1)) ∧ wS (bk σ 30) (Hd (bk σ 30) x (-1)) ≤ 360 := tS_b hW _
  have jw0 : 0 ≤ τ14.1 258 0 ∧ τ14.1 258 0 < 8 := by omega
  refine zx_aloadN dX9_yearAfter_17 rfl rfl ?_
  refine zy_getR (q' := 252) fl_RX9_54 rfl dX9_yearAfter_18 rfl ?_
  refine zy_cv [] (sX7_winningYear  hfl hz14 (by first | assumption | omega) (by first | assumption | omega)) dX9_yearAfter_21 (by decide) rfl cw_RX9_258 okX7_winningYear rfl (Nat.le_of_ble_eq_true rfl) ⟨Nat.le_of_ble_eq_true rfl, Nat.le_of_ble_eq_true rfl, Nat.le_of_ble_eq_true rfl, Nat.le_of_ble_eq_true rfl⟩ ?_
  refine zx_iret rfl rfl dX9_yearAfter_24 ?_
  rw [hQ]
  refine ⟨congrArg (fun z : Int => (Sum.inl (some (zi z)) : Option zV ⊕ String)) ?_, ?_⟩
  · rw [jw.2.1]; exact jw.2.2.1
  exact ⟨hz14, hr14.2.1⟩

