abbrev mX10_tells : zM := (yX10_tells, cX10_tells, 2, (some .int), [])
theorem okX10_tells : zMok mX10_tells 1 := ⟨by decide, by decide, by decide +kernel⟩
theorem dX10_tells_0 : decode cX10_tells 0 = .ok (.aload_n 0, 1) := by decide +kernel
theorem dX10_tells_1 : decode cX10_tells 1 = .ok (.iconst 0, 1) := by decide +kernel
theorem dX10_tells_2 : decode cX10_tells 2 = .ok (.putfield 67, 3) := by decide +kernel
theorem dX10_tells_5 : decode cX10_tells 5 = .ok (.iload_n 1, 1) := by decide +kernel
theorem dX10_tells_6 : decode cX10_tells 6 = .ok (.ireturn, 1) := by decide +kernel
abbrev mX10_thrown : zM := (yX10_thrown, cX10_thrown, 1, (some .int), [])
theorem okX10_thrown : zMok mX10_thrown 0 := ⟨by decide, by decide, by decide +kernel⟩
theorem dX10_thrown_0 : decode cX10_thrown 0 = .ok (.aload_n 0, 1) := by decide +kernel
theorem dX10_thrown_1 : decode cX10_thrown 1 = .ok (.getfield 67, 3) := by decide +kernel
theorem dX10_thrown_4 : decode cX10_thrown 4 = .ok (.ireturn, 1) := by decide +kernel
abbrev mX10_areMore : zM := (yX10_areMore, cX10_areMore, 1, (some .boolean), [])
theorem okX10_areMore : zMok mX10_areMore 1 := ⟨by decide, by decide, by decide +kernel⟩
theorem dX10_areMore_0 : decode cX10_areMore 0 = .ok (.iload_n 0, 1) := by decide +kernel
theorem dX10_areMore_1 : decode cX10_areMore 1 = .ok (.i2l, 1) := by decide +kernel
theorem dX10_areMore_2 : decode cX10_areMore 2 = .ok (.lconst 0, 1) := by decide +kernel
theorem dX10_areMore_3 : decode cX10_areMore 3 = .ok (.ldc2_w 428, 3) := by decide +kernel
theorem lk_RX10_428 : Cond.constantLong RX10 428 (Int64.ofInt 40) ∈ zgood := zmem1 2126 (by decide +kernel) rfl
theorem dX10_areMore_6 : decode cX10_areMore 6 = .ok (.invokestatic 74, 3) := by decide +kernel
theorem dX10_areMore_9 : decode cX10_areMore 9 = .ok (.ireturn, 1) := by decide +kernel
abbrev mX10_printerCount : zM := (yX10_printerCount, cX10_printerCount, 1, (some .int), [])
theorem okX10_printerCount : zMok mX10_printerCount 0 := ⟨by decide, by decide, by decide +kernel⟩
theorem dX10_printerCount_0 : decode cX10_printerCount 0 = .ok (.aload_n 0, 1) := by decide +kernel
theorem dX10_printerCount_1 : decode cX10_printerCount 1 = .ok (.aload_n 0, 1) := by decide +kernel
theorem dX10_printerCount_2 : decode cX10_printerCount 2 = .ok (.getfield 7, 3) := by decide +kernel
theorem dX10_printerCount_5 : decode cX10_printerCount 5 = .ok (.iconst 0, 1) := by decide +kernel
theorem dX10_printerCount_6 : decode cX10_printerCount 6 = .ok (.iaload, 1) := by decide +kernel
theorem dX10_printerCount_7 : decode cX10_printerCount 7 = .ok (.invokevirtual 397, 3) := by decide +kernel
theorem cw_RX10_397 : zCwV RX10 397 mX10_tells := zall [1915, 1917, 87, 128, 1918] (by decide +kernel) (by decide +kernel)
theorem dX10_printerCount_10 : decode cX10_printerCount 10 = .ok (.ireturn, 1) := by decide +kernel
abbrev mX10_watermarkCount : zM := (yX10_watermarkCount, cX10_watermarkCount, 1, (some .int), [])
theorem okX10_watermarkCount : zMok mX10_watermarkCount 0 := ⟨by decide, by decide, by decide +kernel⟩
theorem dX10_watermarkCount_0 : decode cX10_watermarkCount 0 = .ok (.aload_n 0, 1) := by decide +kernel
theorem dX10_watermarkCount_1 : decode cX10_watermarkCount 1 = .ok (.aload_n 0, 1) := by decide +kernel
theorem dX10_watermarkCount_2 : decode cX10_watermarkCount 2 = .ok (.getfield 7, 3) := by decide +kernel
theorem dX10_watermarkCount_5 : decode cX10_watermarkCount 5 = .ok (.iconst 1, 1) := by decide +kernel
theorem dX10_watermarkCount_6 : decode cX10_watermarkCount 6 = .ok (.iaload, 1) := by decide +kernel
theorem dX10_watermarkCount_7 : decode cX10_watermarkCount 7 = .ok (.invokevirtual 397, 3) := by decide +kernel
theorem dX10_watermarkCount_10 : decode cX10_watermarkCount 10 = .ok (.ireturn, 1) := by decide +kernel
abbrev mX10_editionCount : zM := (yX10_editionCount, cX10_editionCount, 1, (some .int), [])
theorem okX10_editionCount : zMok mX10_editionCount 0 := ⟨by decide, by decide, by decide +kernel⟩
theorem dX10_editionCount_0 : decode cX10_editionCount 0 = .ok (.aload_n 0, 1) := by decide +kernel
theorem dX10_editionCount_1 : decode cX10_editionCount 1 = .ok (.aload_n 0, 1) := by decide +kernel
theorem dX10_editionCount_2 : decode cX10_editionCount 2 = .ok (.getfield 7, 3) := by decide +kernel
theorem dX10_editionCount_5 : decode cX10_editionCount 5 = .ok (.iconst 2, 1) := by decide +kernel
theorem dX10_editionCount_6 : decode cX10_editionCount 6 = .ok (.iaload, 1) := by decide +kernel
theorem dX10_editionCount_7 : decode cX10_editionCount 7 = .ok (.invokevirtual 397, 3) := by decide +kernel
theorem dX10_editionCount_10 : decode cX10_editionCount 10 = .ok (.ireturn, 1) := by decide +kernel
abbrev mX10_clueCount : zM := (yX10_clueCount, cX10_clueCount, 1, (some .int), [])
theorem okX10_clueCount : zMok mX10_clueCount 0 := ⟨by decide, by decide, by decide +kernel⟩
theorem dX10_clueCount_0 : decode cX10_clueCount 0 = .ok (.aload_n 0, 1) := by decide +kernel
theorem dX10_clueCount_1 : decode cX10_clueCount 1 = .ok (.aload_n 0, 1) := by decide +kernel
theorem dX10_clueCount_2 : decode cX10_clueCount 2 = .ok (.getfield 7, 3) := by decide +kernel
theorem dX10_clueCount_5 : decode cX10_clueCount 5 = .ok (.iconst 3, 1) := by decide +kernel
theorem dX10_clueCount_6 : decode cX10_clueCount 6 = .ok (.iaload, 1) := by decide +kernel
theorem dX10_clueCount_7 : decode cX10_clueCount 7 = .ok (.invokevirtual 397, 3) := by decide +kernel
theorem dX10_clueCount_10 : decode cX10_clueCount 10 = .ok (.ireturn, 1) := by decide +kernel
abbrev mX10_cityOf : zM := (yX10_cityOf, cX10_cityOf, 2, (some .int), [])
theorem okX10_cityOf : zMok mX10_cityOf 1 := ⟨by decide, by decide, by decide +kernel⟩
theorem dX10_cityOf_0 : decode cX10_cityOf 0 = .ok (.aload_n 0, 1) := by decide +kernel
theorem dX10_cityOf_1 : decode cX10_cityOf 1 = .ok (.aload_n 0, 1) := by decide +kernel
theorem dX10_cityOf_2 : decode cX10_cityOf 2 = .ok (.iload_n 1, 1) := by decide +kernel
theorem dX10_cityOf_3 : decode cX10_cityOf 3 = .ok (.invokevirtual 400, 3) := by decide +kernel
theorem cw_RX10_400 : zCwV RX10 400 mX10_isPrinter := zall [1927, 1929, 88, 128, 1930] (by decide +kernel) (by decide +kernel)
theorem dX10_cityOf_6 : decode cX10_cityOf 6 = .ok (.invokevirtual 220, 3) := by decide +kernel
theorem cw_RX10_220 : zCwV RX10 220 mX10_passes := zall [1649, 1651, 51, 128, 1652] (by decide +kernel) (by decide +kernel)
theorem dX10_cityOf_9 : decode cX10_cityOf 9 = .ok (.ifCond .eq 13, 3) := by decide +kernel
theorem dX10_cityOf_22 : decode cX10_cityOf 22 = .ok (.iconst 0, 1) := by decide +kernel
theorem dX10_cityOf_23 : decode cX10_cityOf 23 = .ok (.ireturn, 1) := by decide +kernel
theorem dX10_cityOf_12 : decode cX10_cityOf 12 = .ok (.aload_n 0, 1) := by decide +kernel
theorem dX10_cityOf_13 : decode cX10_cityOf 13 = .ok (.iload_n 1, 1) := by decide +kernel
theorem dX10_cityOf_14 : decode cX10_cityOf 14 = .ok (.bipush 7, 2) := by decide +kernel
theorem dX10_cityOf_16 : decode cX10_cityOf 16 = .ok (.invokevirtual 82, 3) := by decide +kernel
theorem dX10_cityOf_19 : decode cX10_cityOf 19 = .ok (.goto 4, 3) := by decide +kernel
abbrev mX10_isActive : zM := (yX10_isActive, cX10_isActive, 3, (some .boolean), [])
theorem okX10_isActive : zMok mX10_isActive 2 := ⟨by decide, by decide, by decide +kernel⟩
theorem dX10_isActive_0 : decode cX10_isActive 0 = .ok (.aload_n 0, 1) := by decide +kernel
theorem dX10_isActive_1 : decode cX10_isActive 1 = .ok (.aload_n 0, 1) := by decide +kernel
theorem dX10_isActive_2 : decode cX10_isActive 2 = .ok (.iload_n 1, 1) := by decide +kernel
theorem dX10_isActive_3 : decode cX10_isActive 3 = .ok (.invokevirtual 400, 3) := by decide +kernel
theorem dX10_isActive_6 : decode cX10_isActive 6 = .ok (.iload_n 2, 1) := by decide +kernel
theorem dX10_isActive_7 : decode cX10_isActive 7 = .ok (.invokestatic 403, 3) := by decide +kernel
theorem cw_RX10_403 : zCwS RX10 403 mX10_isYear := zall [1935, 1936, 128, 1937] (by decide +kernel) (by decide +kernel)
theorem dX10_isActive_10 : decode cX10_isActive 10 = .ok (.invokevirtual 406, 3) := by decide +kernel
theorem cw_RX10_406 : zCwV RX10 406 mX10_passesBoth := zall [1940, 1942, 89, 128, 1943] (by decide +kernel) (by decide +kernel)
theorem dX10_isActive_13 : decode cX10_isActive 13 = .ok (.ifCond .eq 16, 3) := by decide +kernel
theorem dX10_isActive_29 : decode cX10_isActive 29 = .ok (.iconst 0, 1) := by decide +kernel
theorem dX10_isActive_30 : decode cX10_isActive 30 = .ok (.ireturn, 1) := by decide +kernel
theorem dX10_isActive_16 : decode cX10_isActive 16 = .ok (.aload_n 0, 1) := by decide +kernel
theorem dX10_isActive_17 : decode cX10_isActive 17 = .ok (.iload_n 1, 1) := by decide +kernel
theorem dX10_isActive_18 : decode cX10_isActive 18 = .ok (.iload_n 2, 1) := by decide +kernel
theorem dX10_isActive_19 : decode cX10_isActive 19 = .ok (.invokevirtual 108, 3) := by decide +kernel
theorem dX10_isActive_22 : decode cX10_isActive 22 = .ok (.ifCond .eq 7, 3) := by decide +kernel
theorem dX10_isActive_25 : decode cX10_isActive 25 = .ok (.iconst 1, 1) := by decide +kernel
theorem dX10_isActive_26 : decode cX10_isActive 26 = .ok (.goto 4, 3) := by decide +kernel
abbrev mX10_hasDevice : zM := (yX10_hasDevice, cX10_hasDevice, 3, (some .boolean), [])
theorem okX10_hasDevice : zMok mX10_hasDevice 2 := ⟨by decide, by decide, by decide +kernel⟩
theorem dX10_hasDevice_0 : decode cX10_hasDevice 0 = .ok (.aload_n 0, 1) := by decide +kernel
theorem dX10_hasDevice_1 : decode cX10_hasDevice 1 = .ok (.aload_n 0, 1) := by decide +kernel
theorem dX10_hasDevice_2 : decode cX10_hasDevice 2 = .ok (.iload_n 1, 1) := by decide +kernel
theorem dX10_hasDevice_3 : decode cX10_hasDevice 3 = .ok (.invokevirtual 400, 3) := by decide +kernel
theorem dX10_hasDevice_6 : decode cX10_hasDevice 6 = .ok (.invokevirtual 220, 3) := by decide +kernel
theorem dX10_hasDevice_9 : decode cX10_hasDevice 9 = .ok (.ifCond .eq 16, 3) := by decide +kernel
theorem dX10_hasDevice_25 : decode cX10_hasDevice 25 = .ok (.iconst 0, 1) := by decide +kernel
theorem dX10_hasDevice_26 : decode cX10_hasDevice 26 = .ok (.ireturn, 1) := by decide +kernel
theorem dX10_hasDevice_12 : decode cX10_hasDevice 12 = .ok (.aload_n 0, 1) := by decide +kernel
theorem dX10_hasDevice_13 : decode cX10_hasDevice 13 = .ok (.iload_n 1, 1) := by decide +kernel
theorem dX10_hasDevice_14 : decode cX10_hasDevice 14 = .ok (.iload_n 2, 1) := by decide +kernel
theorem dX10_hasDevice_15 : decode cX10_hasDevice 15 = .ok (.invokevirtual 90, 3) := by decide +kernel
theorem dX10_hasDevice_18 : decode cX10_hasDevice 18 = .ok (.ifCond .eq 7, 3) := by decide +kernel
theorem dX10_hasDevice_21 : decode cX10_hasDevice 21 = .ok (.iconst 1, 1) := by decide +kernel
theorem dX10_hasDevice_22 : decode cX10_hasDevice 22 = .ok (.goto 4, 3) := by decide +kernel
abbrev mX10_hasTypeface : zM := (yX10_hasTypeface, cX10_hasTypeface, 3, (some .boolean), [])
theorem okX10_hasTypeface : zMok mX10_hasTypeface 2 := ⟨by decide, by decide, by decide +kernel⟩
theorem dX10_hasTypeface_0 : decode cX10_hasTypeface 0 = .ok (.aload_n 0, 1) := by decide +kernel
theorem dX10_hasTypeface_1 : decode cX10_hasTypeface 1 = .ok (.aload_n 0, 1) := by decide +kernel
theorem dX10_hasTypeface_2 : decode cX10_hasTypeface 2 = .ok (.iload_n 1, 1) := by decide +kernel
theorem dX10_hasTypeface_3 : decode cX10_hasTypeface 3 = .ok (.invokevirtual 400, 3) := by decide +kernel
theorem dX10_hasTypeface_6 : decode cX10_hasTypeface 6 = .ok (.invokevirtual 220, 3) := by decide +kernel
theorem dX10_hasTypeface_9 : decode cX10_hasTypeface 9 = .ok (.ifCond .eq 16, 3) := by decide +kernel
theorem dX10_hasTypeface_25 : decode cX10_hasTypeface 25 = .ok (.iconst 0, 1) := by decide +kernel
theorem dX10_hasTypeface_26 : decode cX10_hasTypeface 26 = .ok (.ireturn, 1) := by decide +kernel
theorem dX10_hasTypeface_12 : decode cX10_hasTypeface 12 = .ok (.aload_n 0, 1) := by decide +kernel
theorem dX10_hasTypeface_13 : decode cX10_hasTypeface 13 = .ok (.iload_n 1, 1) := by decide +kernel
theorem dX10_hasTypeface_14 : decode cX10_hasTypeface 14 = .ok (.iload_n 2, 1) := by decide +kernel
theorem dX10_hasTypeface_15 : decode cX10_hasTypeface 15 = .ok (.invokevirtual 105, 3) := by decide +kernel
theorem dX10_hasTypeface_18 : decode cX10_hasTypeface 18 = .ok (.ifCond .eq 7, 3) := by decide +kernel
theorem dX10_hasTypeface_21 : decode cX10_hasTypeface 21 = .ok (.iconst 1, 1) := by decide +kernel
theorem dX10_hasTypeface_22 : decode cX10_hasTypeface 22 = .ok (.goto 4, 3) := by decide +kernel
abbrev mX10_deviceOwners : zM := (yX10_deviceOwners, cX10_deviceOwners, 2, (some .int), [])
theorem okX10_deviceOwners : zMok mX10_deviceOwners 1 := ⟨by decide, by decide, by decide +kernel⟩
theorem dX10_deviceOwners_0 : decode cX10_deviceOwners 0 = .ok (.aload_n 0, 1) := by decide +kernel
theorem dX10_deviceOwners_1 : decode cX10_deviceOwners 1 = .ok (.aload_n 0, 1) := by decide +kernel
theorem dX10_deviceOwners_2 : decode cX10_deviceOwners 2 = .ok (.iload_n 1, 1) := by decide +kernel
theorem dX10_deviceOwners_3 : decode cX10_deviceOwners 3 = .ok (.invokevirtual 214, 3) := by decide +kernel
theorem cw_RX10_214 : zCwV RX10 214 mX10_owners := zall [1907, 1909, 86, 128, 1910] (by decide +kernel) (by decide +kernel)
theorem dX10_deviceOwners_6 : decode cX10_deviceOwners 6 = .ok (.invokevirtual 397, 3) := by decide +kernel
theorem dX10_deviceOwners_9 : decode cX10_deviceOwners 9 = .ok (.ireturn, 1) := by decide +kernel
abbrev mX10_watermarksOf : zM := (yX10_watermarksOf, cX10_watermarksOf, 4, (some .int), [])
theorem okX10_watermarksOf : zMok mX10_watermarksOf 1 := ⟨by decide, by decide, by decide +kernel⟩
theorem dX10_watermarksOf_0 : decode cX10_watermarksOf 0 = .ok (.aload_n 0, 1) := by decide +kernel
theorem dX10_watermarksOf_1 : decode cX10_watermarksOf 1 = .ok (.iload_n 1, 1) := by decide +kernel
theorem dX10_watermarksOf_2 : decode cX10_watermarksOf 2 = .ok (.invokestatic 403, 3) := by decide +kernel
theorem dX10_watermarksOf_5 : decode cX10_watermarksOf 5 = .ok (.invokevirtual 220, 3) := by decide +kernel
theorem dX10_watermarksOf_8 : decode cX10_watermarksOf 8 = .ok (.ifCond .ne 5, 3) := by decide +kernel
theorem dX10_watermarksOf_11 : decode cX10_watermarksOf 11 = .ok (.iconst 0, 1) := by decide +kernel
theorem dX10_watermarksOf_12 : decode cX10_watermarksOf 12 = .ok (.ireturn, 1) := by decide +kernel
theorem dX10_watermarksOf_13 : decode cX10_watermarksOf 13 = .ok (.iconst 0, 1) := by decide +kernel
theorem dX10_watermarksOf_14 : decode cX10_watermarksOf 14 = .ok (.istore_n 2, 1) := by decide +kernel
theorem dX10_watermarksOf_15 : decode cX10_watermarksOf 15 = .ok (.iconst 0, 1) := by decide +kernel
theorem dX10_watermarksOf_16 : decode cX10_watermarksOf 16 = .ok (.istore_n 3, 1) := by decide +kernel
theorem dX10_watermarksOf_17 : decode cX10_watermarksOf 17 = .ok (.iload_n 3, 1) := by decide +kernel
theorem dX10_watermarksOf_18 : decode cX10_watermarksOf 18 = .ok (.aload_n 0, 1) := by decide +kernel
theorem dX10_watermarksOf_19 : decode cX10_watermarksOf 19 = .ok (.getfield 7, 3) := by decide +kernel
theorem dX10_watermarksOf_22 : decode cX10_watermarksOf 22 = .ok (.iconst 1, 1) := by decide +kernel
theorem dX10_watermarksOf_23 : decode cX10_watermarksOf 23 = .ok (.iaload, 1) := by decide +kernel
theorem dX10_watermarksOf_24 : decode cX10_watermarksOf 24 = .ok (.if_icmp .ge 48, 3) := by decide +kernel
theorem dX10_watermarksOf_72 : decode cX10_watermarksOf 72 = .ok (.iload_n 2, 1) := by decide +kernel
theorem dX10_watermarksOf_73 : decode cX10_watermarksOf 73 = .ok (.ireturn, 1) := by decide +kernel
theorem dX10_watermarksOf_27 : decode cX10_watermarksOf 27 = .ok (.iload_n 2, 1) := by decide +kernel
theorem dX10_watermarksOf_28 : decode cX10_watermarksOf 28 = .ok (.iload_n 1, 1) := by decide +kernel
theorem dX10_watermarksOf_29 : decode cX10_watermarksOf 29 = .ok (.i2l, 1) := by decide +kernel
theorem dX10_watermarksOf_30 : decode cX10_watermarksOf 30 = .ok (.aload_n 0, 1) := by decide +kernel
theorem dX10_watermarksOf_31 : decode cX10_watermarksOf 31 = .ok (.getfield 7, 3) := by decide +kernel
theorem dX10_watermarksOf_34 : decode cX10_watermarksOf 34 = .ok (.bipush 100, 2) := by decide +kernel
theorem dX10_watermarksOf_36 : decode cX10_watermarksOf 36 = .ok (.iconst 2, 1) := by decide +kernel
theorem dX10_watermarksOf_37 : decode cX10_watermarksOf 37 = .ok (.iload_n 3, 1) := by decide +kernel
theorem dX10_watermarksOf_38 : decode cX10_watermarksOf 38 = .ok (.imul, 1) := by decide +kernel
theorem dX10_watermarksOf_39 : decode cX10_watermarksOf 39 = .ok (.iadd, 1) := by decide +kernel
theorem dX10_watermarksOf_40 : decode cX10_watermarksOf 40 = .ok (.iaload, 1) := by decide +kernel
theorem dX10_watermarksOf_41 : decode cX10_watermarksOf 41 = .ok (.i2l, 1) := by decide +kernel
theorem dX10_watermarksOf_42 : decode cX10_watermarksOf 42 = .ok (.aload_n 0, 1) := by decide +kernel
theorem dX10_watermarksOf_43 : decode cX10_watermarksOf 43 = .ok (.getfield 7, 3) := by decide +kernel
theorem dX10_watermarksOf_46 : decode cX10_watermarksOf 46 = .ok (.bipush 100, 2) := by decide +kernel
theorem dX10_watermarksOf_48 : decode cX10_watermarksOf 48 = .ok (.iconst 2, 1) := by decide +kernel
theorem dX10_watermarksOf_49 : decode cX10_watermarksOf 49 = .ok (.iload_n 3, 1) := by decide +kernel
theorem dX10_watermarksOf_50 : decode cX10_watermarksOf 50 = .ok (.imul, 1) := by decide +kernel
theorem dX10_watermarksOf_51 : decode cX10_watermarksOf 51 = .ok (.iadd, 1) := by decide +kernel
theorem dX10_watermarksOf_52 : decode cX10_watermarksOf 52 = .ok (.iconst 1, 1) := by decide +kernel
theorem dX10_watermarksOf_53 : decode cX10_watermarksOf 53 = .ok (.iadd, 1) := by decide +kernel
theorem dX10_watermarksOf_54 : decode cX10_watermarksOf 54 = .ok (.iaload, 1) := by decide +kernel
theorem dX10_watermarksOf_55 : decode cX10_watermarksOf 55 = .ok (.iconst 3, 1) := by decide +kernel
theorem dX10_watermarksOf_56 : decode cX10_watermarksOf 56 = .ok (.iadd, 1) := by decide +kernel
theorem dX10_watermarksOf_57 : decode cX10_watermarksOf 57 = .ok (.i2l, 1) := by decide +kernel
theorem dX10_watermarksOf_58 : decode cX10_watermarksOf 58 = .ok (.invokestatic 74, 3) := by decide +kernel
theorem dX10_watermarksOf_61 : decode cX10_watermarksOf 61 = .ok (.invokestatic 94, 3) := by decide +kernel
theorem dX10_watermarksOf_64 : decode cX10_watermarksOf 64 = .ok (.iadd, 1) := by decide +kernel
theorem dX10_watermarksOf_65 : decode cX10_watermarksOf 65 = .ok (.istore_n 2, 1) := by decide +kernel
theorem dX10_watermarksOf_66 : decode cX10_watermarksOf 66 = .ok (.iinc 3 1, 3) := by decide +kernel
theorem dX10_watermarksOf_69 : decode cX10_watermarksOf 69 = .ok (.goto (-52), 3) := by decide +kernel
abbrev mX10_tellsClue : zM := (yX10_tellsClue, cX10_tellsClue, 3, (some .int), [])
theorem okX10_tellsClue : zMok mX10_tellsClue 2 := ⟨by decide, by decide, by decide +kernel⟩
theorem dX10_tellsClue_0 : decode cX10_tellsClue 0 = .ok (.aload_n 0, 1) := by decide +kernel
theorem dX10_tellsClue_1 : decode cX10_tellsClue 1 = .ok (.aload_n 0, 1) := by decide +kernel
theorem dX10_tellsClue_2 : decode cX10_tellsClue 2 = .ok (.iload_n 1, 1) := by decide +kernel
theorem dX10_tellsClue_3 : decode cX10_tellsClue 3 = .ok (.invokevirtual 205, 3) := by decide +kernel
theorem cw_RX10_205 : zCwV RX10 205 mX10_isClue := zall [1824, 1826, 66, 128, 1827] (by decide +kernel) (by decide +kernel)
theorem dX10_tellsClue_6 : decode cX10_tellsClue 6 = .ok (.invokevirtual 220, 3) := by decide +kernel
theorem dX10_tellsClue_9 : decode cX10_tellsClue 9 = .ok (.ifCond .eq 12, 3) := by decide +kernel
theorem dX10_tellsClue_21 : decode cX10_tellsClue 21 = .ok (.iconst 0, 1) := by decide +kernel
theorem dX10_tellsClue_22 : decode cX10_tellsClue 22 = .ok (.ireturn, 1) := by decide +kernel
theorem dX10_tellsClue_12 : decode cX10_tellsClue 12 = .ok (.aload_n 0, 1) := by decide +kernel
theorem dX10_tellsClue_13 : decode cX10_tellsClue 13 = .ok (.iload_n 1, 1) := by decide +kernel
theorem dX10_tellsClue_14 : decode cX10_tellsClue 14 = .ok (.iload_n 2, 1) := by decide +kernel
theorem dX10_tellsClue_15 : decode cX10_tellsClue 15 = .ok (.invokevirtual 102, 3) := by decide +kernel
theorem dX10_tellsClue_18 : decode cX10_tellsClue 18 = .ok (.goto 4, 3) := by decide +kernel
abbrev mX10_kindOf : zM := (yX10_kindOf, cX10_kindOf, 2, (some .int), [])
theorem okX10_kindOf : zMok mX10_kindOf 1 := ⟨by decide, by decide, by decide +kernel⟩
theorem dX10_kindOf_0 : decode cX10_kindOf 0 = .ok (.aload_n 0, 1) := by decide +kernel
theorem dX10_kindOf_1 : decode cX10_kindOf 1 = .ok (.iload_n 1, 1) := by decide +kernel
theorem dX10_kindOf_2 : decode cX10_kindOf 2 = .ok (.iconst 1, 1) := by decide +kernel
theorem dX10_kindOf_3 : decode cX10_kindOf 3 = .ok (.invokevirtual 410, 3) := by decide +kernel
theorem cw_RX10_410 : zCwV RX10 410 mX10_tellsClue := zall [1980, 1982, 91, 128, 1983] (by decide +kernel) (by decide +kernel)
theorem dX10_kindOf_6 : decode cX10_kindOf 6 = .ok (.ireturn, 1) := by decide +kernel
abbrev mX10_valueOf : zM := (yX10_valueOf, cX10_valueOf, 2, (some .int), [])
theorem okX10_valueOf : zMok mX10_valueOf 1 := ⟨by decide, by decide, by decide +kernel⟩
theorem dX10_valueOf_0 : decode cX10_valueOf 0 = .ok (.aload_n 0, 1) := by decide +kernel
theorem dX10_valueOf_1 : decode cX10_valueOf 1 = .ok (.iload_n 1, 1) := by decide +kernel
theorem dX10_valueOf_2 : decode cX10_valueOf 2 = .ok (.iconst 2, 1) := by decide +kernel
theorem dX10_valueOf_3 : decode cX10_valueOf 3 = .ok (.invokevirtual 410, 3) := by decide +kernel
theorem dX10_valueOf_6 : decode cX10_valueOf 6 = .ok (.ireturn, 1) := by decide +kernel
abbrev mX10_pageOf : zM := (yX10_pageOf, cX10_pageOf, 2, (some .int), [])
theorem okX10_pageOf : zMok mX10_pageOf 1 := ⟨by decide, by decide, by decide +kernel⟩
theorem dX10_pageOf_0 : decode cX10_pageOf 0 = .ok (.aload_n 0, 1) := by decide +kernel
theorem dX10_pageOf_1 : decode cX10_pageOf 1 = .ok (.iload_n 1, 1) := by decide +kernel
theorem dX10_pageOf_2 : decode cX10_pageOf 2 = .ok (.iconst 0, 1) := by decide +kernel
theorem dX10_pageOf_3 : decode cX10_pageOf 3 = .ok (.invokevirtual 410, 3) := by decide +kernel
theorem dX10_pageOf_6 : decode cX10_pageOf 6 = .ok (.ireturn, 1) := by decide +kernel
abbrev mX10_weightOf : zM := (yX10_weightOf, cX10_weightOf, 2, (some .int), [])
theorem okX10_weightOf : zMok mX10_weightOf 1 := ⟨by decide, by decide, by decide +kernel⟩
theorem dX10_weightOf_0 : decode cX10_weightOf 0 = .ok (.aload_n 0, 1) := by decide +kernel
theorem dX10_weightOf_1 : decode cX10_weightOf 1 = .ok (.iload_n 1, 1) := by decide +kernel
theorem dX10_weightOf_2 : decode cX10_weightOf 2 = .ok (.iconst 3, 1) := by decide +kernel
theorem dX10_weightOf_3 : decode cX10_weightOf 3 = .ok (.invokevirtual 410, 3) := by decide +kernel
theorem dX10_weightOf_6 : decode cX10_weightOf 6 = .ok (.ireturn, 1) := by decide +kernel
abbrev mX10_isRead : zM := (yX10_isRead, cX10_isRead, 2, (some .boolean), [])
theorem okX10_isRead : zMok mX10_isRead 1 := ⟨by decide, by decide, by decide +kernel⟩
theorem dX10_isRead_0 : decode cX10_isRead 0 = .ok (.aload_n 0, 1) := by decide +kernel
theorem dX10_isRead_1 : decode cX10_isRead 1 = .ok (.iload_n 1, 1) := by decide +kernel
theorem dX10_isRead_2 : decode cX10_isRead 2 = .ok (.iconst 4, 1) := by decide +kernel
theorem dX10_isRead_3 : decode cX10_isRead 3 = .ok (.invokevirtual 410, 3) := by decide +kernel
theorem dX10_isRead_6 : decode cX10_isRead 6 = .ok (.iconst 1, 1) := by decide +kernel
theorem dX10_isRead_7 : decode cX10_isRead 7 = .ok (.if_icmp .ne 7, 3) := by decide +kernel
theorem dX10_isRead_14 : decode cX10_isRead 14 = .ok (.iconst 0, 1) := by decide +kernel
theorem dX10_isRead_15 : decode cX10_isRead 15 = .ok (.ireturn, 1) := by decide +kernel
theorem dX10_isRead_10 : decode cX10_isRead 10 = .ok (.iconst 1, 1) := by decide +kernel
theorem dX10_isRead_11 : decode cX10_isRead 11 = .ok (.goto 4, 3) := by decide +kernel
abbrev mX10_isAside : zM := (yX10_isAside, cX10_isAside, 2, (some .boolean), [])
theorem okX10_isAside : zMok mX10_isAside 1 := ⟨by decide, by decide, by decide +kernel⟩
theorem dX10_isAside_0 : decode cX10_isAside 0 = .ok (.aload_n 0, 1) := by decide +kernel
theorem dX10_isAside_1 : decode cX10_isAside 1 = .ok (.iload_n 1, 1) := by decide +kernel
theorem dX10_isAside_2 : decode cX10_isAside 2 = .ok (.iconst 5, 1) := by decide +kernel
theorem dX10_isAside_3 : decode cX10_isAside 3 = .ok (.invokevirtual 410, 3) := by decide +kernel
theorem dX10_isAside_6 : decode cX10_isAside 6 = .ok (.iconst 1, 1) := by decide +kernel
theorem dX10_isAside_7 : decode cX10_isAside 7 = .ok (.if_icmp .ne 7, 3) := by decide +kernel
theorem dX10_isAside_14 : decode cX10_isAside 14 = .ok (.iconst 0, 1) := by decide +kernel
theorem dX10_isAside_15 : decode cX10_isAside 15 = .ok (.ireturn, 1) := by decide +kernel
theorem dX10_isAside_10 : decode cX10_isAside 10 = .ok (.iconst 1, 1) := by decide +kernel
theorem dX10_isAside_11 : decode cX10_isAside 11 = .ok (.goto 4, 3) := by decide +kernel
abbrev mX10_clueInOrder : zM := (yX10_clueInOrder, cX10_clueInOrder, 2, (some .int), [])
theorem okX10_clueInOrder : zMok mX10_clueInOrder 1 := ⟨by decide, by decide, by decide +kernel⟩
theorem dX10_clueInOrder_0 : decode cX10_clueInOrder 0 = .ok (.aload_n 0, 1) := by decide +kernel
theorem dX10_clueInOrder_1 : decode cX10_clueInOrder 1 = .ok (.aload_n 0, 1) := by decide +kernel
theorem dX10_clueInOrder_2 : decode cX10_clueInOrder 2 = .ok (.iload_n 1, 1) := by decide +kernel
theorem dX10_clueInOrder_3 : decode cX10_clueInOrder 3 = .ok (.invokevirtual 413, 3) := by decide +kernel
theorem cw_RX10_413 : zCwV RX10 413 mX10_inOrder := zall [2008, 2010, 92, 128, 2011] (by decide +kernel) (by decide +kernel)
theorem dX10_clueInOrder_6 : decode cX10_clueInOrder 6 = .ok (.invokevirtual 397, 3) := by decide +kernel
theorem dX10_clueInOrder_9 : decode cX10_clueInOrder 9 = .ok (.ireturn, 1) := by decide +kernel
abbrev mX10_nextClue : zM := (yX10_nextClue, cX10_nextClue, 1, (some .int), [])
theorem okX10_nextClue : zMok mX10_nextClue 0 := ⟨by decide, by decide, by decide +kernel⟩
theorem dX10_nextClue_0 : decode cX10_nextClue 0 = .ok (.aload_n 0, 1) := by decide +kernel
theorem dX10_nextClue_1 : decode cX10_nextClue 1 = .ok (.aload_n 0, 1) := by decide +kernel
theorem dX10_nextClue_2 : decode cX10_nextClue 2 = .ok (.invokevirtual 172, 3) := by decide +kernel
theorem dX10_nextClue_5 : decode cX10_nextClue 5 = .ok (.invokevirtual 397, 3) := by decide +kernel
theorem dX10_nextClue_8 : decode cX10_nextClue 8 = .ok (.ireturn, 1) := by decide +kernel
abbrev mX10_countingWeight : zM := (yX10_countingWeight, cX10_countingWeight, 1, (some .int), [])
theorem okX10_countingWeight : zMok mX10_countingWeight 0 := ⟨by decide, by decide, by decide +kernel⟩
theorem dX10_countingWeight_0 : decode cX10_countingWeight 0 = .ok (.aload_n 0, 1) := by decide +kernel
theorem dX10_countingWeight_1 : decode cX10_countingWeight 1 = .ok (.aload_n 0, 1) := by decide +kernel
theorem dX10_countingWeight_2 : decode cX10_countingWeight 2 = .ok (.invokevirtual 416, 3) := by decide +kernel
theorem cw_RX10_416 : zCwV RX10 416 mX10_counted := zall [2020, 2022, 93, 128, 2023] (by decide +kernel) (by decide +kernel)
theorem dX10_countingWeight_5 : decode cX10_countingWeight 5 = .ok (.invokevirtual 397, 3) := by decide +kernel
theorem dX10_countingWeight_8 : decode cX10_countingWeight 8 = .ok (.ireturn, 1) := by decide +kernel
abbrev mX10_explains : zM := (yX10_explains, cX10_explains, 4, (some .boolean), [])
theorem okX10_explains : zMok mX10_explains 3 := ⟨by decide, by decide, by decide +kernel⟩
theorem dX10_explains_0 : decode cX10_explains 0 = .ok (.aload_n 0, 1) := by decide +kernel
theorem dX10_explains_1 : decode cX10_explains 1 = .ok (.aload_n 0, 1) := by decide +kernel
theorem dX10_explains_2 : decode cX10_explains 2 = .ok (.iload_n 1, 1) := by decide +kernel
theorem dX10_explains_3 : decode cX10_explains 3 = .ok (.invokevirtual 400, 3) := by decide +kernel
theorem dX10_explains_6 : decode cX10_explains 6 = .ok (.ifCond .eq 15, 3) := by decide +kernel
theorem dX10_explains_21 : decode cX10_explains 21 = .ok (.iconst 0, 1) := by decide +kernel
theorem dX10_explains_22 : decode cX10_explains 22 = .ok (.iload_n 2, 1) := by decide +kernel
theorem dX10_explains_23 : decode cX10_explains 23 = .ok (.invokestatic 403, 3) := by decide +kernel
theorem dX10_explains_26 : decode cX10_explains 26 = .ok (.invokevirtual 406, 3) := by decide +kernel
theorem dX10_explains_29 : decode cX10_explains 29 = .ok (.ifCond .eq 17, 3) := by decide +kernel
theorem dX10_explains_46 : decode cX10_explains 46 = .ok (.iconst 0, 1) := by decide +kernel
theorem dX10_explains_47 : decode cX10_explains 47 = .ok (.ireturn, 1) := by decide +kernel
theorem dX10_explains_9 : decode cX10_explains 9 = .ok (.aload_n 0, 1) := by decide +kernel
theorem dX10_explains_10 : decode cX10_explains 10 = .ok (.iload_n 3, 1) := by decide +kernel
theorem dX10_explains_11 : decode cX10_explains 11 = .ok (.invokevirtual 205, 3) := by decide +kernel
theorem dX10_explains_14 : decode cX10_explains 14 = .ok (.ifCond .eq 7, 3) := by decide +kernel
theorem dX10_explains_17 : decode cX10_explains 17 = .ok (.iconst 1, 1) := by decide +kernel
theorem dX10_explains_18 : decode cX10_explains 18 = .ok (.goto 4, 3) := by decide +kernel
theorem dX10_explains_32 : decode cX10_explains 32 = .ok (.aload_n 0, 1) := by decide +kernel
theorem dX10_explains_33 : decode cX10_explains 33 = .ok (.iload_n 3, 1) := by decide +kernel
theorem dX10_explains_34 : decode cX10_explains 34 = .ok (.iload_n 1, 1) := by decide +kernel
theorem dX10_explains_35 : decode cX10_explains 35 = .ok (.iload_n 2, 1) := by decide +kernel
theorem dX10_explains_36 : decode cX10_explains 36 = .ok (.invokevirtual 125, 3) := by decide +kernel
theorem dX10_explains_39 : decode cX10_explains 39 = .ok (.ifCond .eq 7, 3) := by decide +kernel
theorem dX10_explains_42 : decode cX10_explains 42 = .ok (.iconst 1, 1) := by decide +kernel
theorem dX10_explains_43 : decode cX10_explains 43 = .ok (.goto 4, 3) := by decide +kernel
abbrev mX10_score : zM := (yX10_score, cX10_score, 3, (some .int), [])
theorem okX10_score : zMok mX10_score 2 := ⟨by decide, by decide, by decide +kernel⟩
theorem dX10_score_0 : decode cX10_score 0 = .ok (.aload_n 0, 1) := by decide +kernel
theorem dX10_score_1 : decode cX10_score 1 = .ok (.aload_n 0, 1) := by decide +kernel
theorem dX10_score_2 : decode cX10_score 2 = .ok (.iload_n 1, 1) := by decide +kernel
theorem dX10_score_3 : decode cX10_score 3 = .ok (.invokevirtual 400, 3) := by decide +kernel
theorem dX10_score_6 : decode cX10_score 6 = .ok (.iload_n 2, 1) := by decide +kernel
theorem dX10_score_7 : decode cX10_score 7 = .ok (.invokestatic 403, 3) := by decide +kernel
theorem dX10_score_10 : decode cX10_score 10 = .ok (.invokevirtual 406, 3) := by decide +kernel
theorem dX10_score_13 : decode cX10_score 13 = .ok (.ifCond .ne 5, 3) := by decide +kernel
theorem dX10_score_16 : decode cX10_score 16 = .ok (.iconst 0, 1) := by decide +kernel
theorem dX10_score_17 : decode cX10_score 17 = .ok (.ireturn, 1) := by decide +kernel
theorem dX10_score_18 : decode cX10_score 18 = .ok (.aload_n 0, 1) := by decide +kernel
theorem dX10_score_19 : decode cX10_score 19 = .ok (.iload_n 1, 1) := by decide +kernel
theorem dX10_score_20 : decode cX10_score 20 = .ok (.iload_n 2, 1) := by decide +kernel
theorem dX10_score_21 : decode cX10_score 21 = .ok (.invokevirtual 108, 3) := by decide +kernel
theorem dX10_score_24 : decode cX10_score 24 = .ok (.ifCond .eq 12, 3) := by decide +kernel
theorem dX10_score_36 : decode cX10_score 36 = .ok (.iconst (-1), 1) := by decide +kernel
theorem dX10_score_37 : decode cX10_score 37 = .ok (.ireturn, 1) := by decide +kernel
theorem dX10_score_27 : decode cX10_score 27 = .ok (.aload_n 0, 1) := by decide +kernel
theorem dX10_score_28 : decode cX10_score 28 = .ok (.iload_n 1, 1) := by decide +kernel
theorem dX10_score_29 : decode cX10_score 29 = .ok (.iload_n 2, 1) := by decide +kernel
theorem dX10_score_30 : decode cX10_score 30 = .ok (.invokevirtual 419, 3) := by decide +kernel
theorem cw_RX10_419 : zCwV RX10 419 mX10_scoreOf := zall [2036, 2038, 95, 128, 2039] (by decide +kernel) (by decide +kernel)
theorem dX10_score_33 : decode cX10_score 33 = .ok (.goto 4, 3) := by decide +kernel
abbrev mX10_bestYear : zM := (yX10_bestYear, cX10_bestYear, 2, (some .int), [])
theorem okX10_bestYear : zMok mX10_bestYear 1 := ⟨by decide, by decide, by decide +kernel⟩
theorem dX10_bestYear_0 : decode cX10_bestYear 0 = .ok (.aload_n 0, 1) := by decide +kernel
theorem dX10_bestYear_1 : decode cX10_bestYear 1 = .ok (.aload_n 0, 1) := by decide +kernel
theorem dX10_bestYear_2 : decode cX10_bestYear 2 = .ok (.iload_n 1, 1) := by decide +kernel
theorem dX10_bestYear_3 : decode cX10_bestYear 3 = .ok (.invokevirtual 400, 3) := by decide +kernel
theorem dX10_bestYear_6 : decode cX10_bestYear 6 = .ok (.invokevirtual 220, 3) := by decide +kernel
theorem dX10_bestYear_9 : decode cX10_bestYear 9 = .ok (.ifCond .ne 5, 3) := by decide +kernel
theorem dX10_bestYear_12 : decode cX10_bestYear 12 = .ok (.iconst 0, 1) := by decide +kernel
theorem dX10_bestYear_13 : decode cX10_bestYear 13 = .ok (.ireturn, 1) := by decide +kernel
theorem dX10_bestYear_14 : decode cX10_bestYear 14 = .ok (.aload_n 0, 1) := by decide +kernel
theorem dX10_bestYear_15 : decode cX10_bestYear 15 = .ok (.iload_n 1, 1) := by decide +kernel
theorem dX10_bestYear_16 : decode cX10_bestYear 16 = .ok (.invokevirtual 142, 3) := by decide +kernel
theorem dX10_bestYear_19 : decode cX10_bestYear 19 = .ok (.aload_n 0, 1) := by decide +kernel
theorem dX10_bestYear_20 : decode cX10_bestYear 20 = .ok (.getfield 133, 3) := by decide +kernel
theorem dX10_bestYear_23 : decode cX10_bestYear 23 = .ok (.ireturn, 1) := by decide +kernel
abbrev mX10_bestScore : zM := (yX10_bestScore, cX10_bestScore, 2, (some .int), [])
theorem okX10_bestScore : zMok mX10_bestScore 1 := ⟨by decide, by decide, by decide +kernel⟩
theorem dX10_bestScore_0 : decode cX10_bestScore 0 = .ok (.aload_n 0, 1) := by decide +kernel
theorem dX10_bestScore_1 : decode cX10_bestScore 1 = .ok (.aload_n 0, 1) := by decide +kernel
theorem dX10_bestScore_2 : decode cX10_bestScore 2 = .ok (.iload_n 1, 1) := by decide +kernel
theorem dX10_bestScore_3 : decode cX10_bestScore 3 = .ok (.invokevirtual 400, 3) := by decide +kernel
theorem dX10_bestScore_6 : decode cX10_bestScore 6 = .ok (.invokevirtual 220, 3) := by decide +kernel
theorem dX10_bestScore_9 : decode cX10_bestScore 9 = .ok (.ifCond .eq 11, 3) := by decide +kernel
theorem dX10_bestScore_20 : decode cX10_bestScore 20 = .ok (.iconst 0, 1) := by decide +kernel
theorem dX10_bestScore_21 : decode cX10_bestScore 21 = .ok (.ireturn, 1) := by decide +kernel
theorem dX10_bestScore_12 : decode cX10_bestScore 12 = .ok (.aload_n 0, 1) := by decide +kernel
theorem dX10_bestScore_13 : decode cX10_bestScore 13 = .ok (.iload_n 1, 1) := by decide +kernel
theorem dX10_bestScore_14 : decode cX10_bestScore 14 = .ok (.invokevirtual 145, 3) := by decide +kernel
theorem dX10_bestScore_17 : decode cX10_bestScore 17 = .ok (.goto 4, 3) := by decide +kernel
abbrev mX10_bestYears : zM := (yX10_bestYears, cX10_bestYears, 2, (some .int), [])
theorem okX10_bestYears : zMok mX10_bestYears 1 := ⟨by decide, by decide, by decide +kernel⟩
theorem dX10_bestYears_0 : decode cX10_bestYears 0 = .ok (.aload_n 0, 1) := by decide +kernel
theorem dX10_bestYears_1 : decode cX10_bestYears 1 = .ok (.aload_n 0, 1) := by decide +kernel
theorem dX10_bestYears_2 : decode cX10_bestYears 2 = .ok (.iload_n 1, 1) := by decide +kernel
theorem dX10_bestYears_3 : decode cX10_bestYears 3 = .ok (.invokevirtual 400, 3) := by decide +kernel
theorem dX10_bestYears_6 : decode cX10_bestYears 6 = .ok (.invokevirtual 220, 3) := by decide +kernel
theorem dX10_bestYears_9 : decode cX10_bestYears 9 = .ok (.ifCond .ne 5, 3) := by decide +kernel
theorem dX10_bestYears_12 : decode cX10_bestYears 12 = .ok (.iconst 0, 1) := by decide +kernel
theorem dX10_bestYears_13 : decode cX10_bestYears 13 = .ok (.ireturn, 1) := by decide +kernel
theorem dX10_bestYears_14 : decode cX10_bestYears 14 = .ok (.aload_n 0, 1) := by decide +kernel
theorem dX10_bestYears_15 : decode cX10_bestYears 15 = .ok (.iload_n 1, 1) := by decide +kernel
theorem dX10_bestYears_16 : decode cX10_bestYears 16 = .ok (.invokevirtual 142, 3) := by decide +kernel
theorem dX10_bestYears_19 : decode cX10_bestYears 19 = .ok (.aload_n 0, 1) := by decide +kernel
theorem dX10_bestYears_20 : decode cX10_bestYears 20 = .ok (.getfield 139, 3) := by decide +kernel
theorem dX10_bestYears_23 : decode cX10_bestYears 23 = .ok (.ireturn, 1) := by decide +kernel
abbrev mX10_printerByRank : zM := (yX10_printerByRank, cX10_printerByRank, 2, (some .int), [])
theorem okX10_printerByRank : zMok mX10_printerByRank 1 := ⟨by decide, by decide, by decide +kernel⟩
theorem dX10_printerByRank_0 : decode cX10_printerByRank 0 = .ok (.aload_n 0, 1) := by decide +kernel
theorem dX10_printerByRank_1 : decode cX10_printerByRank 1 = .ok (.aload_n 0, 1) := by decide +kernel
theorem dX10_printerByRank_2 : decode cX10_printerByRank 2 = .ok (.iload_n 1, 1) := by decide +kernel
theorem dX10_printerByRank_3 : decode cX10_printerByRank 3 = .ok (.invokevirtual 157, 3) := by decide +kernel
theorem dX10_printerByRank_6 : decode cX10_printerByRank 6 = .ok (.invokevirtual 397, 3) := by decide +kernel
theorem dX10_printerByRank_9 : decode cX10_printerByRank 9 = .ok (.ireturn, 1) := by decide +kernel
abbrev mX10_verdictPrinter : zM := (yX10_verdictPrinter, cX10_verdictPrinter, 1, (some .int), [])
theorem okX10_verdictPrinter : zMok mX10_verdictPrinter 0 := ⟨by decide, by decide, by decide +kernel⟩
theorem dX10_verdictPrinter_0 : decode cX10_verdictPrinter 0 = .ok (.aload_n 0, 1) := by decide +kernel
theorem dX10_verdictPrinter_1 : decode cX10_verdictPrinter 1 = .ok (.aload_n 0, 1) := by decide +kernel
theorem dX10_verdictPrinter_2 : decode cX10_verdictPrinter 2 = .ok (.invokevirtual 160, 3) := by decide +kernel
theorem dX10_verdictPrinter_5 : decode cX10_verdictPrinter 5 = .ok (.invokevirtual 397, 3) := by decide +kernel
theorem dX10_verdictPrinter_8 : decode cX10_verdictPrinter 8 = .ok (.ireturn, 1) := by decide +kernel
abbrev mX10_verdictYear : zM := (yX10_verdictYear, cX10_verdictYear, 1, (some .int), [])
theorem okX10_verdictYear : zMok mX10_verdictYear 0 := ⟨by decide, by decide, by decide +kernel⟩
theorem dX10_verdictYear_0 : decode cX10_verdictYear 0 = .ok (.aload_n 0, 1) := by decide +kernel
theorem dX10_verdictYear_1 : decode cX10_verdictYear 1 = .ok (.aload_n 0, 1) := by decide +kernel
theorem dX10_verdictYear_2 : decode cX10_verdictYear 2 = .ok (.invokevirtual 166, 3) := by decide +kernel
theorem dX10_verdictYear_5 : decode cX10_verdictYear 5 = .ok (.invokevirtual 397, 3) := by decide +kernel
theorem dX10_verdictYear_8 : decode cX10_verdictYear 8 = .ok (.ireturn, 1) := by decide +kernel
abbrev mX10_verdictScore : zM := (yX10_verdictScore, cX10_verdictScore, 1, (some .int), [])
theorem okX10_verdictScore : zMok mX10_verdictScore 0 := ⟨by decide, by decide, by decide +kernel⟩
theorem dX10_verdictScore_0 : decode cX10_verdictScore 0 = .ok (.aload_n 0, 1) := by decide +kernel
theorem dX10_verdictScore_1 : decode cX10_verdictScore 1 = .ok (.aload_n 0, 1) := by decide +kernel
theorem dX10_verdictScore_2 : decode cX10_verdictScore 2 = .ok (.invokevirtual 208, 3) := by decide +kernel
theorem cw_RX10_208 : zCwV RX10 208 mX10_scoreOfVerdict := zall [1828, 1830, 67, 128, 1831] (by decide +kernel) (by decide +kernel)
theorem dX10_verdictScore_5 : decode cX10_verdictScore 5 = .ok (.invokevirtual 397, 3) := by decide +kernel
theorem dX10_verdictScore_8 : decode cX10_verdictScore 8 = .ok (.ireturn, 1) := by decide +kernel

theorem rkP_z {D : zBk} {H : Nat → Prop} (w : WF D) (x : Int) : zr (rkP D H x) := by
  have hn := w.1.1
  unfold rkP atR
  rcases zfst_cases (fun k => rkn (ahd D H) (D 1 0).toNat k = x) (D 1 0).toNat with ⟨h, _⟩ | ⟨i, h1, h2, _⟩
  · rw [h]; unfold zr; omega
  · rw [h2]; unfold zr; omega
theorem wY_b {D : zBk} (w : WF D) (h1 : 1 ≤ D 1 0) : 1450 ≤ wY D (Ht D) ∧ wY D (Ht D) ≤ 1999 := by
  have a := dec_b w h1 (c := 0)
  have b := (w.2.1 _ (wP_l (H := Ht D) w h1)).2
  unfold works at a
  omega

set_option maxRecDepth 20000 in
set_option maxHeartbeats 2000000 in
theorem sX10_tells {l : Launch} {w : zW} (hfl : l.stackTraces = false) {σ : zS} {x : Int} (hz : zOK σ) (hx : zr x) : Sp l w mX10_tells 0 0 [zf 10 261, zi x] σ (zret (zi x) (zput σ 261 6 0)) := by
  obtain ⟨Q, hQ⟩ : ∃ Q : zQ, Q = (zret (zi x) (zput σ 261 6 0)) := ⟨_, rfl⟩
  rw [← hQ]
  refine zx_enter hfl (by decide) rfl 0 rfl ?_
  show zX l w mX10_tells (zMQ w 0 0 Q) 0 [zf 10 261, zi x] [] 0 σ
  refine zx_aloadN dX10_tells_0 rfl rfl ?_
  refine zx_iconst dX10_tells_1 ?_
  refine zx_putI fl_RX10_67 rfl (Or.inl fp_10_6) dX10_tells_2 ?_
  refine zx_iloadN dX10_tells_5 rfl rfl ?_
  refine zx_iret rfl rfl dX10_tells_6 ?_
  rw [hQ]
  refine ⟨congrArg (fun z : Int => (Sum.inl (some (zi z)) : Option zV ⊕ String)) ?_, by first | rfl | (exfalso; omega)⟩
  first | rfl | omega | (split <;> first | rfl | omega)
set_option maxRecDepth 20000 in
set_option maxHeartbeats 2000000 in
theorem sX10_thrown {l : Launch} {w : zW} (hfl : l.stackTraces = false) {σ : zS}  (hz : zOK σ)  : Sp l w mX10_thrown 0 0 [zf 10 261] σ (zret (zi (σ.1 261 6)) σ) := by
  obtain ⟨Q, hQ⟩ : ∃ Q : zQ, Q = (zret (zi (σ.1 261 6)) σ) := ⟨_, rfl⟩
  rw [← hQ]
  refine zx_enter hfl (by decide) rfl 0 rfl ?_
  show zX l w mX10_thrown (zMQ w 0 0 Q) 0 [zf 10 261] [] 0 σ
  refine zx_aloadN dX10_thrown_0 rfl rfl ?_
  refine zy_getI fl_RX10_67 rfl dX10_thrown_1 rfl ?_
  refine zx_iret rfl rfl dX10_thrown_4 ?_
  rw [hQ]
  refine ⟨congrArg (fun z : Int => (Sum.inl (some (zi z)) : Option zV ⊕ String)) ?_, by first | rfl | (exfalso; omega)⟩
  first | rfl | omega | (split <;> first | rfl | omega)
set_option maxRecDepth 20000 in
set_option maxHeartbeats 2000000 in
theorem sX10_areMore {l : Launch} {w : zW} (hfl : l.stackTraces = false) {σ : zS} {x : Int} (hz : zOK σ) (hx : zr x) : Sp l w mX10_areMore 1 0 [zi x] σ (zret (zi (zb (0 ≤ x ∧ x ≤ 40))) σ) := by
  obtain ⟨Q, hQ⟩ : ∃ Q : zQ, Q = (zret (zi (zb (0 ≤ x ∧ x ≤ 40))) σ) := ⟨_, rfl⟩
  rw [← hQ]
  refine zx_enter hfl (by decide) rfl 0 rfl ?_
  show zX l w mX10_areMore (zMQ w 1 0 Q) 0 [zi x] [] 0 σ
  refine zx_iloadN dX10_areMore_0 rfl rfl ?_
  refine zx_i2l (by first | exact hz _ _ | assumption | exact zr_b _ | exact zcmp_r _ _ | (unfold zr at *; omega)) dX10_areMore_1 ?_
  refine zx_lconst (a := 0) dX10_areMore_2 rfl ?_
  refine zx_ldc2 (a := 40) dX10_areMore_3 lk_RX10_428 ?_
  refine zy_cs [zl x, zl 0, zl 40] (sX10_in  hfl hz (by first | exact hz _ _ | assumption | exact zr_b _ | exact zcmp_r _ _ | (unfold zr at *; omega)) (by first | exact hz _ _ | assumption | exact zr_b _ | exact zcmp_r _ _ | (unfold zr at *; omega)) (by first | exact hz _ _ | assumption | exact zr_b _ | exact zcmp_r _ _ | (unfold zr at *; omega))) dX10_areMore_6 cw_RX10_74 okX10_in rfl (Nat.le_of_ble_eq_true rfl) ⟨Nat.le_of_ble_eq_true rfl, Nat.le_of_ble_eq_true rfl, Nat.le_of_ble_eq_true rfl, Nat.le_of_ble_eq_true rfl⟩ ?_
  refine zx_iret rfl (zb_nar _) dX10_areMore_9 ?_
  rw [hQ]
  refine ⟨congrArg (fun z : Int => (Sum.inl (some (zi z)) : Option zV ⊕ String)) ?_, by first | rfl | (exfalso; omega)⟩
  rfl
set_option maxRecDepth 20000 in
set_option maxHeartbeats 2000000 in
theorem sX10_printerCount {l : Launch} {w : zW} (hfl : l.stackTraces = false) {σ : zS} {D : zBk}  (hz : zOK σ) (hW : WF D) (hR : Rel D (σ.1 262)) : Sp l w mX10_printerCount 1 0 [zf 10 261] σ (zqv (some (zi (D 1 0))) (fun τ => zOK τ ∧ QP D σ τ ∧ τ.1 261 6 = 0)) := by
  obtain ⟨Q, hQ⟩ : ∃ Q : zQ, Q = (zqv (some (zi (D 1 0))) (fun τ => zOK τ ∧ QP D σ τ ∧ τ.1 261 6 = 0)) := ⟨_, rfl⟩
  rw [← hQ]
  refine zx_enter hfl (by decide) rfl 0 rfl ?_
  show zX l w mX10_printerCount (zMQ w 1 0 Q) 0 [zf 10 261] [] 0 σ
  have hP : 0 ≤ D 1 0 ∧ D 1 0 ≤ 8 := hW.1.1
  have hM : 0 ≤ D 1 7 ∧ D 1 7 ≤ 8 := hW.1.2.1
  have hE : 0 ≤ D 1 10 ∧ D 1 10 ≤ 12 := hW.1.2.2.1
  have hK : 0 ≤ D 12 0 ∧ D 12 0 ≤ 40 := hW.1.2.2.2
  have r0 : σ.1 262 0 = D 1 0 := hR.1.1
  have r1 : σ.1 262 1 = D 1 7 := hR.1.2.1
  have r2 : σ.1 262 2 = D 1 10 := hR.1.2.2.1
  have r3 : σ.1 262 3 = D 12 0 := hR.1.2.2.2
  refine zx_aloadN dX10_printerCount_0 rfl rfl ?_
  refine zx_aloadN dX10_printerCount_1 rfl rfl ?_
  refine zy_getR (q' := 262) fl_RX10_7 rfl dX10_printerCount_2 rfl ?_
  refine zx_iconst dX10_printerCount_5 ?_
  refine zy_iald (v := σ.1 262 0) rfl (by decide) (by decide) dX10_printerCount_6 (by omega) (by omega) rfl ?_
  refine zy_cv [zi (σ.1 262 0)] (sX10_tells  hfl hz (by first | exact hz _ _ | assumption | exact zr_b _ | exact zcmp_r _ _ | (unfold zr at *; omega))) dX10_printerCount_7 (by decide) rfl cw_RX10_397 okX10_tells rfl (Nat.le_of_ble_eq_true rfl) ⟨Nat.le_of_ble_eq_true rfl, Nat.le_of_ble_eq_true rfl, Nat.le_of_ble_eq_true rfl, Nat.le_of_ble_eq_true rfl⟩ ?_
  refine zx_iret rfl rfl dX10_printerCount_10 ?_
  rw [hQ]
  refine ⟨congrArg (fun z : Int => (Sum.inl (some (zi z)) : Option zV ⊕ String)) ?_, ?_⟩
  · exact r0
  exact ⟨(zOK_put hz (by unfold zr; omega)), QP_th hR, zput_s _ _ _ _⟩
set_option maxRecDepth 20000 in
set_option maxHeartbeats 2000000 in
theorem sX10_watermarkCount {l : Launch} {w : zW} (hfl : l.stackTraces = false) {σ : zS} {D : zBk}  (hz : zOK σ) (hW : WF D) (hR : Rel D (σ.1 262)) : Sp l w mX10_watermarkCount 1 0 [zf 10 261] σ (zqv (some (zi (D 1 7))) (fun τ => zOK τ ∧ QP D σ τ ∧ τ.1 261 6 = 0)) := by
  obtain ⟨Q, hQ⟩ : ∃ Q : zQ, Q = (zqv (some (zi (D 1 7))) (fun τ => zOK τ ∧ QP D σ τ ∧ τ.1 261 6 = 0)) := ⟨_, rfl⟩
  rw [← hQ]
  refine zx_enter hfl (by decide) rfl 0 rfl ?_
  show zX l w mX10_watermarkCount (zMQ w 1 0 Q) 0 [zf 10 261] [] 0 σ
  have hP : 0 ≤ D 1 0 ∧ D 1 0 ≤ 8 := hW.1.1
  have hM : 0 ≤ D 1 7 ∧ D 1 7 ≤ 8 := hW.1.2.1
  have hE : 0 ≤ D 1 10 ∧ D 1 10 ≤ 12 := hW.1.2.2.1
  have hK : 0 ≤ D 12 0 ∧ D 12 0 ≤ 40 := hW.1.2.2.2
  have r0 : σ.1 262 0 = D 1 0 := hR.1.1
  have r1 : σ.1 262 1 = D 1 7 := hR.1.2.1
  have r2 : σ.1 262 2 = D 1 10 := hR.1.2.2.1
  have r3 : σ.1 262 3 = D 12 0 := hR.1.2.2.2
  refine zx_aloadN dX10_watermarkCount_0 rfl rfl ?_
  refine zx_aloadN dX10_watermarkCount_1 rfl rfl ?_
  refine zy_getR (q' := 262) fl_RX10_7 rfl dX10_watermarkCount_2 rfl ?_
  refine zx_iconst dX10_watermarkCount_5 ?_
  refine zy_iald (v := σ.1 262 1) rfl (by decide) (by decide) dX10_watermarkCount_6 (by omega) (by omega) rfl ?_
  refine zy_cv [zi (σ.1 262 1)] (sX10_tells  hfl hz (by first | exact hz _ _ | assumption | exact zr_b _ | exact zcmp_r _ _ | (unfold zr at *; omega))) dX10_watermarkCount_7 (by decide) rfl cw_RX10_397 okX10_tells rfl (Nat.le_of_ble_eq_true rfl) ⟨Nat.le_of_ble_eq_true rfl, Nat.le_of_ble_eq_true rfl, Nat.le_of_ble_eq_true rfl, Nat.le_of_ble_eq_true rfl⟩ ?_
  refine zx_iret rfl rfl dX10_watermarkCount_10 ?_
  rw [hQ]
  refine ⟨congrArg (fun z : Int => (Sum.inl (some (zi z)) : Option zV ⊕ String)) ?_, ?_⟩
  · exact r1
  exact ⟨(zOK_put hz (by unfold zr; omega)), QP_th hR, zput_s _ _ _ _⟩
set_option maxRecDepth 20000 in
set_option maxHeartbeats 2000000 in
theorem sX10_editionCount {l : Launch} {w : zW} (hfl : l.stackTraces = false) {σ : zS} {D : zBk}  (hz : zOK σ) (hW : WF D) (hR : Rel D (σ.1 262)) : Sp l w mX10_editionCount 1 0 [zf 10 261] σ (zqv (some (zi (D 1 10))) (fun τ => zOK τ ∧ QP D σ τ ∧ τ.1 261 6 = 0)) := by
  obtain ⟨Q, hQ⟩ : ∃ Q : zQ, Q = (zqv (some (zi (D 1 10))) (fun τ => zOK τ ∧ QP D σ τ ∧ τ.1 261 6 = 0)) := ⟨_, rfl⟩
  rw [← hQ]
  refine zx_enter hfl (by decide) rfl 0 rfl ?_
  show zX l w mX10_editionCount (zMQ w 1 0 Q) 0 [zf 10 261] [] 0 σ
  have hP : 0 ≤ D 1 0 ∧ D 1 0 ≤ 8 := hW.1.1
  have hM : 0 ≤ D 1 7 ∧ D 1 7 ≤ 8 := hW.1.2.1
  have hE : 0 ≤ D 1 10 ∧ D 1 10 ≤ 12 := hW.1.2.2.1
  have hK : 0 ≤ D 12 0 ∧ D 12 0 ≤ 40 := hW.1.2.2.2
  have r0 : σ.1 262 0 = D 1 0 := hR.1.1
  have r1 : σ.1 262 1 = D 1 7 := hR.1.2.1
  have r2 : σ.1 262 2 = D 1 10 := hR.1.2.2.1
  have r3 : σ.1 262 3 = D 12 0 := hR.1.2.2.2
  refine zx_aloadN dX10_editionCount_0 rfl rfl ?_
  refine zx_aloadN dX10_editionCount_1 rfl rfl ?_
  refine zy_getR (q' := 262) fl_RX10_7 rfl dX10_editionCount_2 rfl ?_
  refine zx_iconst dX10_editionCount_5 ?_
  refine zy_iald (v := σ.1 262 2) rfl (by decide) (by decide) dX10_editionCount_6 (by omega) (by omega) rfl ?_
  refine zy_cv [zi (σ.1 262 2)] (sX10_tells  hfl hz (by first | exact hz _ _ | assumption | exact zr_b _ | exact zcmp_r _ _ | (unfold zr at *; omega))) dX10_editionCount_7 (by decide) rfl cw_RX10_397 okX10_tells rfl (Nat.le_of_ble_eq_true rfl) ⟨Nat.le_of_ble_eq_true rfl, Nat.le_of_ble_eq_true rfl, Nat.le_of_ble_eq_true rfl, Nat.le_of_ble_eq_true rfl⟩ ?_
  refine zx_iret rfl rfl dX10_editionCount_10 ?_
  rw [hQ]
  refine ⟨congrArg (fun z : Int => (Sum.inl (some (zi z)) : Option zV ⊕ String)) ?_, ?_⟩
  · exact r2
  exact ⟨(zOK_put hz (by unfold zr; omega)), QP_th hR, zput_s _ _ _ _⟩
set_option maxRecDepth 20000 in
set_option maxHeartbeats 2000000 in
theorem sX10_clueCount {l : Launch} {w : zW} (hfl : l.stackTraces = false) {σ : zS} {D : zBk}  (hz : zOK σ) (hW : WF D) (hR : Rel D (σ.1 262)) : Sp l w mX10_clueCount 1 0 [zf 10 261] σ (zqv (some (zi (D 12 0))) (fun τ => zOK τ ∧ QP D σ τ ∧ τ.1 261 6 = 0)) := by
  obtain ⟨Q, hQ⟩ : ∃ Q : zQ, Q = (zqv (some (zi (D 12 0))) (fun τ => zOK τ ∧ QP D σ τ ∧ τ.1 261 6 = 0)) := ⟨_, rfl⟩
  rw [← hQ]
  refine zx_enter hfl (by decide) rfl 0 rfl ?_
  show zX l w mX10_clueCount (zMQ w 1 0 Q) 0 [zf 10 261] [] 0 σ
  have hP : 0 ≤ D 1 0 ∧ D 1 0 ≤ 8 := hW.1.1
  have hM : 0 ≤ D 1 7 ∧ D 1 7 ≤ 8 := hW.1.2.1
  have hE : 0 ≤ D 1 10 ∧ D 1 10 ≤ 12 := hW.1.2.2.1
  have hK : 0 ≤ D 12 0 ∧ D 12 0 ≤ 40 := hW.1.2.2.2
  have r0 : σ.1 262 0 = D 1 0 := hR.1.1
  have r1 : σ.1 262 1 = D 1 7 := hR.1.2.1
  have r2 : σ.1 262 2 = D 1 10 := hR.1.2.2.1
  have r3 : σ.1 262 3 = D 12 0 := hR.1.2.2.2
  refine zx_aloadN dX10_clueCount_0 rfl rfl ?_
  refine zx_aloadN dX10_clueCount_1 rfl rfl ?_
  refine zy_getR (q' := 262) fl_RX10_7 rfl dX10_clueCount_2 rfl ?_
  refine zx_iconst dX10_clueCount_5 ?_
  refine zy_iald (v := σ.1 262 3) rfl (by decide) (by decide) dX10_clueCount_6 (by omega) (by omega) rfl ?_
  refine zy_cv [zi (σ.1 262 3)] (sX10_tells  hfl hz (by first | exact hz _ _ | assumption | exact zr_b _ | exact zcmp_r _ _ | (unfold zr at *; omega))) dX10_clueCount_7 (by decide) rfl cw_RX10_397 okX10_tells rfl (Nat.le_of_ble_eq_true rfl) ⟨Nat.le_of_ble_eq_true rfl, Nat.le_of_ble_eq_true rfl, Nat.le_of_ble_eq_true rfl, Nat.le_of_ble_eq_true rfl⟩ ?_
  refine zx_iret rfl rfl dX10_clueCount_10 ?_
  rw [hQ]
  refine ⟨congrArg (fun z : Int => (Sum.inl (some (zi z)) : Option zV ⊕ String)) ?_, ?_⟩
  · exact r3
  exact ⟨(zOK_put hz (by unfold zr; omega)), QP_th hR, zput_s _ _ _ _⟩
set_option maxRecDepth 20000 in
set_option maxHeartbeats 2000000 in
theorem sX10_cityOf_t1 {l : Launch} {w : zW} (hfl : l.stackTraces = false) {σ : zS} {D : zBk} {x : Int} (hz : zOK σ) (hW : WF D) (hR : Rel D (σ.1 262)) (hx : zr x) (hw0 : ¬ (0 ≤ x ∧ x < D 1 0)) : Sp l w mX10_cityOf 2 0 [zf 10 261, zi x] σ (zqv (some (zi 0)) (fun τ => zOK τ ∧ QP D σ τ ∧ τ.1 261 6 = 1)) := by
  obtain ⟨Q, hQ⟩ : ∃ Q : zQ, Q = (zqv (some (zi 0)) (fun τ => zOK τ ∧ QP D σ τ ∧ τ.1 261 6 = 1)) := ⟨_, rfl⟩
  rw [← hQ]
  refine zx_enter hfl (by decide) rfl 0 rfl ?_
  show zX l w mX10_cityOf (zMQ w 2 0 Q) 0 [zf 10 261, zi x] [] 0 σ
  have hP : 0 ≤ D 1 0 ∧ D 1 0 ≤ 8 := hW.1.1
  have hM : 0 ≤ D 1 7 ∧ D 1 7 ≤ 8 := hW.1.2.1
  have hE : 0 ≤ D 1 10 ∧ D 1 10 ≤ 12 := hW.1.2.2.1
  have hK : 0 ≤ D 12 0 ∧ D 12 0 ≤ 40 := hW.1.2.2.2
  have r0 : σ.1 262 0 = D 1 0 := hR.1.1
  have r1 : σ.1 262 1 = D 1 7 := hR.1.2.1
  have r2 : σ.1 262 2 = D 1 10 := hR.1.2.2.1
  have r3 : σ.1 262 3 = D 12 0 := hR.1.2.2.2
  refine zx_aloadN dX10_cityOf_0 rfl rfl ?_
  refine zx_aloadN dX10_cityOf_1 rfl rfl ?_
  refine zx_iloadN dX10_cityOf_2 rfl rfl ?_
  refine zy_cv [zi x] (sX10_isPrinter (D := D) hfl hz (by first | assumption | omega) (by first | assumption | (refine Rel_put (by decide) ?_; assumption) | (refine Rel_put (by decide) (Rel_put (by decide) ?_); assumption) | (refine Rel_put (by decide) (Rel_put (by decide) (Rel_put (by decide) ?_)); assumption)) (by first | exact hz _ _ | assumption | exact zr_b _ | exact zcmp_r _ _ | (unfold zr at *; omega))) dX10_cityOf_3 (by decide) rfl cw_RX10_400 okX10_isPrinter rfl (Nat.le_of_ble_eq_true rfl) ⟨Nat.le_of_ble_eq_true rfl, Nat.le_of_ble_eq_true rfl, Nat.le_of_ble_eq_true rfl, Nat.le_of_ble_eq_true rfl⟩ ?_
  refine zy_cv [zi (zb (0 ≤ x ∧ x < D 1 0))] (sX10_passes (A := (0 ≤ x ∧ x < D 1 0)) hfl hz ) dX10_cityOf_6 (by decide) rfl cw_RX10_220 okX10_passes rfl (Nat.le_of_ble_eq_true rfl) ⟨Nat.le_of_ble_eq_true rfl, Nat.le_of_ble_eq_true rfl, Nat.le_of_ble_eq_true rfl, Nat.le_of_ble_eq_true rfl⟩ ?_
  refine zx_if_eq (tgt := 22) (by first | exact hz _ _ | assumption | exact zr_b _ | exact zcmp_r _ _ | (unfold zr at *; omega)) dX10_cityOf_9 (by decide) (fun h9 => ?_) (fun h9 => ?_)
  · have h9 := zb_0.mp h9
    refine zx_iconst dX10_cityOf_22 ?_
    refine zx_iret rfl rfl dX10_cityOf_23 ?_
    rw [hQ]
    refine ⟨congrArg (fun z : Int => (Sum.inl (some (zi z)) : Option zV ⊕ String)) ?_, ?_⟩
    · rfl
    exact ⟨(zOK_put hz (zr_b _)), QP_th hR, (zput_s _ _ _ _).trans (zb_t hw0)⟩
  · have h9 := zb_n.mp h9
    first | exact absurd (by assumption) hw0 | (exfalso; omega)
set_option maxRecDepth 20000 in
set_option maxHeartbeats 2000000 in
theorem sX10_cityOf {l : Launch} {w : zW} (hfl : l.stackTraces = false) {σ : zS} {D : zBk} {x : Int} (hz : zOK σ) (hW : WF D) (hR : Rel D (σ.1 262)) (hx : zr x) (hw0 : 0 ≤ x ∧ x < D 1 0) : Sp l w mX10_cityOf 2 0 [zf 10 261, zi x] σ (zqv (some (zi (D 3 x.toNat))) (fun τ => zOK τ ∧ QP D σ τ ∧ τ.1 261 6 = 0)) := by
  obtain ⟨Q, hQ⟩ : ∃ Q : zQ, Q = (zqv (some (zi (D 3 x.toNat))) (fun τ => zOK τ ∧ QP D σ τ ∧ τ.1 261 6 = 0)) := ⟨_, rfl⟩
  rw [← hQ]
  refine zx_enter hfl (by decide) rfl 0 rfl ?_
  show zX l w mX10_cityOf (zMQ w 2 0 Q) 0 [zf 10 261, zi x] [] 0 σ
  have hP : 0 ≤ D 1 0 ∧ D 1 0 ≤ 8 := hW.1.1
  have hM : 0 ≤ D 1 7 ∧ D 1 7 ≤ 8 := hW.1.2.1
  have hE : 0 ≤ D 1 10 ∧ D 1 10 ≤ 12 := hW.1.2.2.1
  have hK : 0 ≤ D 12 0 ∧ D 12 0 ≤ 40 := hW.1.2.2.2
  have r0 : σ.1 262 0 = D 1 0 := hR.1.1
  have r1 : σ.1 262 1 = D 1 7 := hR.1.2.1
  have r2 : σ.1 262 2 = D 1 10 := hR.1.2.2.1
  have r3 : σ.1 262 3 = D 12 0 := hR.1.2.2.2
  have ex : x = ((x.toNat : Nat) : Int) := by omega
  refine zx_aloadN dX10_cityOf_0 rfl rfl ?_
  refine zx_aloadN dX10_cityOf_1 rfl rfl ?_
  refine zx_iloadN dX10_cityOf_2 rfl rfl ?_
  refine zy_cv [zi x] (sX10_isPrinter (D := D) hfl hz (by first | assumption | omega) (by first | assumption | (refine Rel_put (by decide) ?_; assumption) | (refine Rel_put (by decide) (Rel_put (by decide) ?_); assumption) | (refine Rel_put (by decide) (Rel_put (by decide) (Rel_put (by decide) ?_)); assumption)) (by first | exact hz _ _ | assumption | exact zr_b _ | exact zcmp_r _ _ | (unfold zr at *; omega))) dX10_cityOf_3 (by decide) rfl cw_RX10_400 okX10_isPrinter rfl (Nat.le_of_ble_eq_true rfl) ⟨Nat.le_of_ble_eq_true rfl, Nat.le_of_ble_eq_true rfl, Nat.le_of_ble_eq_true rfl, Nat.le_of_ble_eq_true rfl⟩ ?_
  refine zy_cv [zi (zb (0 ≤ x ∧ x < D 1 0))] (sX10_passes (A := (0 ≤ x ∧ x < D 1 0)) hfl hz ) dX10_cityOf_6 (by decide) rfl cw_RX10_220 okX10_passes rfl (Nat.le_of_ble_eq_true rfl) ⟨Nat.le_of_ble_eq_true rfl, Nat.le_of_ble_eq_true rfl, Nat.le_of_ble_eq_true rfl, Nat.le_of_ble_eq_true rfl⟩ ?_
  refine zx_if_eq (tgt := 22) (by first | exact hz _ _ | assumption | exact zr_b _ | exact zcmp_r _ _ | (unfold zr at *; omega)) dX10_cityOf_9 (by decide) (fun h9 => ?_) (fun h9 => ?_)
  · have h9 := zb_0.mp h9
    first | exact absurd hw0 (by assumption) | (exfalso; omega)
  · have h9 := zb_n.mp h9
    refine zx_aloadN dX10_cityOf_12 rfl rfl ?_
    refine zx_iloadN dX10_cityOf_13 rfl rfl ?_
    refine zy_top (b := ((x.toNat : Nat) : Int)) (ex) ?_
    refine zx_bipush dX10_cityOf_14 rfl ?_
    refine zy_cv [zi ((x.toNat : Nat) : Int), zi 7] (sX10_ofPrinter (D := D) (p := x.toNat) (o := 7) hfl (zOK_put hz (zr_b _)) (by first | assumption | omega) (by first | assumption | (refine Rel_put (by decide) ?_; assumption) | (refine Rel_put (by decide) (Rel_put (by decide) ?_); assumption) | (refine Rel_put (by decide) (Rel_put (by decide) (Rel_put (by decide) ?_)); assumption)) (by first | assumption | omega) (by first | assumption | omega)) dX10_cityOf_16 (by decide) rfl cw_RX10_82 okX10_ofPrinter rfl (Nat.le_of_ble_eq_true rfl) ⟨Nat.le_of_ble_eq_true rfl, Nat.le_of_ble_eq_true rfl, Nat.le_of_ble_eq_true rfl, Nat.le_of_ble_eq_true rfl⟩ ?_
    refine zy_top (b := D 3 x.toNat) rfl ?_
    refine zx_goto (tgt := 23) dX10_cityOf_19 (by decide) ?_
    refine zx_iret rfl rfl dX10_cityOf_23 ?_
    rw [hQ]
    refine ⟨congrArg (fun z : Int => (Sum.inl (some (zi z)) : Option zV ⊕ String)) ?_, ?_⟩
    · first | rfl | assumption | omega
    exact ⟨(zOK_put hz (zr_b _)), QP_th hR, (zput_s _ _ _ _).trans (zb_f (fun q => q hw0))⟩
set_option maxRecDepth 20000 in
set_option maxHeartbeats 2000000 in
theorem sX10_isActive_t1 {l : Launch} {w : zW} (hfl : l.stackTraces = false) {σ : zS} {D : zBk} {x y : Int} (hz : zOK σ) (hW : WF D) (hR : Rel D (σ.1 262)) (hx : zr x) (hy : zr y) (hw0 : ¬ (0 ≤ x ∧ x < D 1 0)) : Sp l w mX10_isActive 2 0 [zf 10 261, zi x, zi y] σ (zqv (some (zi 0)) (fun τ => zOK τ ∧ QP D σ τ ∧ τ.1 261 6 = 1)) := by
  obtain ⟨Q, hQ⟩ : ∃ Q : zQ, Q = (zqv (some (zi 0)) (fun τ => zOK τ ∧ QP D σ τ ∧ τ.1 261 6 = 1)) := ⟨_, rfl⟩
  rw [← hQ]
  refine zx_enter hfl (by decide) rfl 0 rfl ?_
  show zX l w mX10_isActive (zMQ w 2 0 Q) 0 [zf 10 261, zi x, zi y] [] 0 σ
  have hP : 0 ≤ D 1 0 ∧ D 1 0 ≤ 8 := hW.1.1
  have hM : 0 ≤ D 1 7 ∧ D 1 7 ≤ 8 := hW.1.2.1
  have hE : 0 ≤ D 1 10 ∧ D 1 10 ≤ 12 := hW.1.2.2.1
  have hK : 0 ≤ D 12 0 ∧ D 12 0 ≤ 40 := hW.1.2.2.2
  have r0 : σ.1 262 0 = D 1 0 := hR.1.1
  have r1 : σ.1 262 1 = D 1 7 := hR.1.2.1
  have r2 : σ.1 262 2 = D 1 10 := hR.1.2.2.1
  have r3 : σ.1 262 3 = D 12 0 := hR.1.2.2.2
  refine zx_aloadN dX10_isActive_0 rfl rfl ?_
  refine zx_aloadN dX10_isActive_1 rfl rfl ?_
  refine zx_iloadN dX10_isActive_2 rfl rfl ?_
  refine zy_cv [zi x] (sX10_isPrinter (D := D) hfl hz (by first | assumption | omega) (by first | assumption | (refine Rel_put (by decide) ?_; assumption) | (refine Rel_put (by decide) (Rel_put (by decide) ?_); assumption) | (refine Rel_put (by decide) (Rel_put (by decide) (Rel_put (by decide) ?_)); assumption)) (by first | exact hz _ _ | assumption | exact zr_b _ | exact zcmp_r _ _ | (unfold zr at *; omega))) dX10_isActive_3 (by decide) rfl cw_RX10_400 okX10_isPrinter rfl (Nat.le_of_ble_eq_true rfl) ⟨Nat.le_of_ble_eq_true rfl, Nat.le_of_ble_eq_true rfl, Nat.le_of_ble_eq_true rfl, Nat.le_of_ble_eq_true rfl⟩ ?_
  refine zx_iloadN dX10_isActive_6 rfl rfl ?_
  refine zy_cs [zi y] (sX10_isYear  hfl hz (by first | exact hz _ _ | assumption | exact zr_b _ | exact zcmp_r _ _ | (unfold zr at *; omega))) dX10_isActive_7 cw_RX10_403 okX10_isYear rfl (Nat.le_of_ble_eq_true rfl) ⟨Nat.le_of_ble_eq_true rfl, Nat.le_of_ble_eq_true rfl, Nat.le_of_ble_eq_true rfl, Nat.le_of_ble_eq_true rfl⟩ ?_
  refine zy_cv [zi (zb (0 ≤ x ∧ x < D 1 0)), zi (zb (1450 ≤ y ∧ y ≤ 1999))] (sX10_passesBoth (A := (0 ≤ x ∧ x < D 1 0)) (B := (1450 ≤ y ∧ y ≤ 1999)) hfl hz ) dX10_isActive_10 (by decide) rfl cw_RX10_406 okX10_passesBoth rfl (Nat.le_of_ble_eq_true rfl) ⟨Nat.le_of_ble_eq_true rfl, Nat.le_of_ble_eq_true rfl, Nat.le_of_ble_eq_true rfl, Nat.le_of_ble_eq_true rfl⟩ ?_
  refine zx_if_eq (tgt := 29) (by first | exact hz _ _ | assumption | exact zr_b _ | exact zcmp_r _ _ | (unfold zr at *; omega)) dX10_isActive_13 (by decide) (fun h13 => ?_) (fun h13 => ?_)
  · have h13 := zb_0.mp h13
    refine zx_iconst dX10_isActive_29 ?_
    refine zx_iret rfl rfl dX10_isActive_30 ?_
    rw [hQ]
    refine ⟨congrArg (fun z : Int => (Sum.inl (some (zi z)) : Option zV ⊕ String)) ?_, ?_⟩
    · rfl
    exact ⟨(zOK_put hz (th2_r _ _)), QP_th hR, (zput_s _ _ _ _).trans (th2_1 hw0)⟩
  · have h13 := zb_n.mp h13
    first | exact absurd (by assumption) (fun q : (0 ≤ x ∧ x < D 1 0) ∧ (1450 ≤ y ∧ y ≤ 1999) => hw0 q.1) | (exfalso; omega)
set_option maxRecDepth 20000 in
set_option maxHeartbeats 2000000 in
theorem sX10_isActive_t2 {l : Launch} {w : zW} (hfl : l.stackTraces = false) {σ : zS} {D : zBk} {x y : Int} (hz : zOK σ) (hW : WF D) (hR : Rel D (σ.1 262)) (hx : zr x) (hy : zr y) (hw0 : 0 ≤ x ∧ x < D 1 0) (hw1 : ¬ (1450 ≤ y ∧ y ≤ 1999)) : Sp l w mX10_isActive 2 0 [zf 10 261, zi x, zi y] σ (zqv (some (zi 0)) (fun τ => zOK τ ∧ QP D σ τ ∧ τ.1 261 6 = 2)) := by
  obtain ⟨Q, hQ⟩ : ∃ Q : zQ, Q = (zqv (some (zi 0)) (fun τ => zOK τ ∧ QP D σ τ ∧ τ.1 261 6 = 2)) := ⟨_, rfl⟩
  rw [← hQ]
  refine zx_enter hfl (by decide) rfl 0 rfl ?_
  show zX l w mX10_isActive (zMQ w 2 0 Q) 0 [zf 10 261, zi x, zi y] [] 0 σ
  have hP : 0 ≤ D 1 0 ∧ D 1 0 ≤ 8 := hW.1.1
  have hM : 0 ≤ D 1 7 ∧ D 1 7 ≤ 8 := hW.1.2.1
  have hE : 0 ≤ D 1 10 ∧ D 1 10 ≤ 12 := hW.1.2.2.1
  have hK : 0 ≤ D 12 0 ∧ D 12 0 ≤ 40 := hW.1.2.2.2
  have r0 : σ.1 262 0 = D 1 0 := hR.1.1
  have r1 : σ.1 262 1 = D 1 7 := hR.1.2.1
  have r2 : σ.1 262 2 = D 1 10 := hR.1.2.2.1
  have r3 : σ.1 262 3 = D 12 0 := hR.1.2.2.2
  refine zx_aloadN dX10_isActive_0 rfl rfl ?_
  refine zx_aloadN dX10_isActive_1 rfl rfl ?_
  refine zx_iloadN dX10_isActive_2 rfl rfl ?_
  refine zy_cv [zi x] (sX10_isPrinter (D := D) hfl hz (by first | assumption | omega) (by first | assumption | (refine Rel_put (by decide) ?_; assumption) | (refine Rel_put (by decide) (Rel_put (by decide) ?_); assumption) | (refine Rel_put (by decide) (Rel_put (by decide) (Rel_put (by decide) ?_)); assumption)) (by first | exact hz _ _ | assumption | exact zr_b _ | exact zcmp_r _ _ | (unfold zr at *; omega))) dX10_isActive_3 (by decide) rfl cw_RX10_400 okX10_isPrinter rfl (Nat.le_of_ble_eq_true rfl) ⟨Nat.le_of_ble_eq_true rfl, Nat.le_of_ble_eq_true rfl, Nat.le_of_ble_eq_true rfl, Nat.le_of_ble_eq_true rfl⟩ ?_
  refine zx_iloadN dX10_isActive_6 rfl rfl ?_
  refine zy_cs [zi y] (sX10_isYear  hfl hz (by first | exact hz _ _ | assumption | exact zr_b _ | exact zcmp_r _ _ | (unfold zr at *; omega))) dX10_isActive_7 cw_RX10_403 okX10_isYear rfl (Nat.le_of_ble_eq_true rfl) ⟨Nat.le_of_ble_eq_true rfl, Nat.le_of_ble_eq_true rfl, Nat.le_of_ble_eq_true rfl, Nat.le_of_ble_eq_true rfl⟩ ?_
  refine zy_cv [zi (zb (0 ≤ x ∧ x < D 1 0)), zi (zb (1450 ≤ y ∧ y ≤ 1999))] (sX10_passesBoth (A := (0 ≤ x ∧ x < D 1 0)) (B := (1450 ≤ y ∧ y ≤ 1999)) hfl hz ) dX10_isActive_10 (by decide) rfl cw_RX10_406 okX10_passesBoth rfl (Nat.le_of_ble_eq_true rfl) ⟨Nat.le_of_ble_eq_true rfl, Nat.le_of_ble_eq_true rfl, Nat.le_of_ble_eq_true rfl, Nat.le_of_ble_eq_true rfl⟩ ?_
  refine zx_if_eq (tgt := 29) (by first | exact hz _ _ | assumption | exact zr_b _ | exact zcmp_r _ _ | (unfold zr at *; omega)) dX10_isActive_13 (by decide) (fun h13 => ?_) (fun h13 => ?_)
  · have h13 := zb_0.mp h13
    refine zx_iconst dX10_isActive_29 ?_
    refine zx_iret rfl rfl dX10_isActive_30 ?_
    rw [hQ]
    refine ⟨congrArg (fun z : Int => (Sum.inl (some (zi z)) : Option zV ⊕ String)) ?_, ?_⟩
    · rfl
    exact ⟨(zOK_put hz (th2_r _ _)), QP_th hR, (zput_s _ _ _ _).trans (th2_2 hw0 hw1)⟩
  · have h13 := zb_n.mp h13
    first | exact absurd (by assumption) (fun q : (0 ≤ x ∧ x < D 1 0) ∧ (1450 ≤ y ∧ y ≤ 1999) => hw1 q.2) | (exfalso; omega)
set_option maxRecDepth 20000 in
set_option maxHeartbeats 2000000 in
theorem sX10_isActive {l : Launch} {w : zW} (hfl : l.stackTraces = false) {σ : zS} {D : zBk} {x y : Int} (hz : zOK σ) (hW : WF D) (hR : Rel D (σ.1 262)) (hx : zr x) (hy : zr y) (hw0 : 0 ≤ x ∧ x < D 1 0) (hw1 : 1450 ≤ y ∧ y ≤ 1999) : Sp l w mX10_isActive 2 0 [zf 10 261, zi x, zi y] σ (zqv (some (zi (zb (works D x.toNat y)))) (fun τ => zOK τ ∧ QP D σ τ ∧ τ.1 261 6 = 0)) := by
  obtain ⟨Q, hQ⟩ : ∃ Q : zQ, Q = (zqv (some (zi (zb (works D x.toNat y)))) (fun τ => zOK τ ∧ QP D σ τ ∧ τ.1 261 6 = 0)) := ⟨_, rfl⟩
  rw [← hQ]
  refine zx_enter hfl (by decide) rfl 0 rfl ?_
  show zX l w mX10_isActive (zMQ w 2 0 Q) 0 [zf 10 261, zi x, zi y] [] 0 σ
  have hP : 0 ≤ D 1 0 ∧ D 1 0 ≤ 8 := hW.1.1
  have hM : 0 ≤ D 1 7 ∧ D 1 7 ≤ 8 := hW.1.2.1
  have hE : 0 ≤ D 1 10 ∧ D 1 10 ≤ 12 := hW.1.2.2.1
  have hK : 0 ≤ D 12 0 ∧ D 12 0 ≤ 40 := hW.1.2.2.2
  have r0 : σ.1 262 0 = D 1 0 := hR.1.1
  have r1 : σ.1 262 1 = D 1 7 := hR.1.2.1
  have r2 : σ.1 262 2 = D 1 10 := hR.1.2.2.1
  have r3 : σ.1 262 3 = D 12 0 := hR.1.2.2.2
  have ex : x = ((x.toNat : Nat) : Int) := by omega
  refine zx_aloadN dX10_isActive_0 rfl rfl ?_
  refine zx_aloadN dX10_isActive_1 rfl rfl ?_
  refine zx_iloadN dX10_isActive_2 rfl rfl ?_
  refine zy_cv [zi x] (sX10_isPrinter (D := D) hfl hz (by first | assumption | omega) (by first | assumption | (refine Rel_put (by decide) ?_; assumption) | (refine Rel_put (by decide) (Rel_put (by decide) ?_); assumption) | (refine Rel_put (by decide) (Rel_put (by decide) (Rel_put (by decide) ?_)); assumption)) (by first | exact hz _ _ | assumption | exact zr_b _ | exact zcmp_r _ _ | (unfold zr at *; omega))) dX10_isActive_3 (by decide) rfl cw_RX10_400 okX10_isPrinter rfl (Nat.le_of_ble_eq_true rfl) ⟨Nat.le_of_ble_eq_true rfl, Nat.le_of_ble_eq_true rfl, Nat.le_of_ble_eq_true rfl, Nat.le_of_ble_eq_true rfl⟩ ?_
  refine zx_iloadN dX10_isActive_6 rfl rfl ?_
  refine zy_cs [zi y] (sX10_isYear  hfl hz (by first | exact hz _ _ | assumption | exact zr_b _ | exact zcmp_r _ _ | (unfold zr at *; omega))) dX10_isActive_7 cw_RX10_403 okX10_isYear rfl (Nat.le_of_ble_eq_true rfl) ⟨Nat.le_of_ble_eq_true rfl, Nat.le_of_ble_eq_true rfl, Nat.le_of_ble_eq_true rfl, Nat.le_of_ble_eq_true rfl⟩ ?_
  refine zy_cv [zi (zb (0 ≤ x ∧ x < D 1 0)), zi (zb (1450 ≤ y ∧ y ≤ 1999))] (sX10_passesBoth (A := (0 ≤ x ∧ x < D 1 0)) (B := (1450 ≤ y ∧ y ≤ 1999)) hfl hz ) dX10_isActive_10 (by decide) rfl cw_RX10_406 okX10_passesBoth rfl (Nat.le_of_ble_eq_true rfl) ⟨Nat.le_of_ble_eq_true rfl, Nat.le_of_ble_eq_true rfl, Nat.le_of_ble_eq_true rfl, Nat.le_of_ble_eq_true rfl⟩ ?_
  refine zx_if_eq (tgt := 29) (by first | exact hz _ _ | assumption | exact zr_b _ | exact zcmp_r _ _ | (unfold zr at *; omega)) dX10_isActive_13 (by decide) (fun h13 => ?_) (fun h13 => ?_)
  · have h13 := zb_0.mp h13
    refine zx_iconst dX10_isActive_29 ?_
    refine zx_iret rfl rfl dX10_isActive_30 ?_
    rw [hQ]
    refine ⟨congrArg (fun z : Int => (Sum.inl (some (zi z)) : Option zV ⊕ String)) ?_, ?_⟩
    · first | exact (zb_t (by assumption)).symm | exact (zb_f (by assumption)).symm | exact absurd (show (0 ≤ x ∧ x < D 1 0) ∧ (1450 ≤ y ∧ y ≤ 1999) from ⟨hw0, hw1⟩) (by assumption)
    exact ⟨(zOK_put hz (th2_r _ _)), QP_th hR, (zput_s _ _ _ _).trans (th2_0 hw0 hw1)⟩
  · have h13 := zb_n.mp h13
    refine zx_aloadN dX10_isActive_16 rfl rfl ?_
    refine zx_iloadN dX10_isActive_17 rfl rfl ?_
    refine zy_top (b := ((x.toNat : Nat) : Int)) (ex) ?_
    refine zx_iloadN dX10_isActive_18 rfl rfl ?_
    refine zy_cv [zi ((x.toNat : Nat) : Int), zi y] (sX10_isWorking (D := D) (p := x.toNat) hfl (zOK_put hz (th2_r _ _)) (by first | assumption | omega) (by first | assumption | (refine Rel_put (by decide) ?_; assumption) | (refine Rel_put (by decide) (Rel_put (by decide) ?_); assumption) | (refine Rel_put (by decide) (Rel_put (by decide) (Rel_put (by decide) ?_)); assumption)) (by first | assumption | omega) (by first | exact hz _ _ | assumption | exact zr_b _ | exact zcmp_r _ _ | (unfold zr at *; omega))) dX10_isActive_19 (by decide) rfl cw_RX10_108 okX10_isWorking rfl (Nat.le_of_ble_eq_true rfl) ⟨Nat.le_of_ble_eq_true rfl, Nat.le_of_ble_eq_true rfl, Nat.le_of_ble_eq_true rfl, Nat.le_of_ble_eq_true rfl⟩ ?_
    refine zx_if_eq (tgt := 29) (by first | exact hz _ _ | assumption | exact zr_b _ | exact zcmp_r _ _ | (unfold zr at *; omega)) dX10_isActive_22 (by decide) (fun h22 => ?_) (fun h22 => ?_)
    · have h22 := zb_0.mp h22
      refine zx_iconst dX10_isActive_29 ?_
      refine zx_iret rfl rfl dX10_isActive_30 ?_
      rw [hQ]
      refine ⟨congrArg (fun z : Int => (Sum.inl (some (zi z)) : Option zV ⊕ String)) ?_, ?_⟩
      · first | exact (zb_t (by assumption)).symm | exact (zb_f (by assumption)).symm | exact absurd (show (0 ≤ x ∧ x < D 1 0) ∧ (1450 ≤ y ∧ y ≤ 1999) from ⟨hw0, hw1⟩) (by assumption)
      exact ⟨(zOK_put hz (th2_r _ _)), QP_th hR, (zput_s _ _ _ _).trans (th2_0 hw0 hw1)⟩
    · have h22 := zb_n.mp h22
      refine zx_iconst dX10_isActive_25 ?_
      refine zx_goto (tgt := 30) dX10_isActive_26 (by decide) ?_
      refine zx_iret rfl rfl dX10_isActive_30 ?_
      rw [hQ]
      refine ⟨congrArg (fun z : Int => (Sum.inl (some (zi z)) : Option zV ⊕ String)) ?_, ?_⟩
      · first | exact (zb_t (by assumption)).symm | exact (zb_f (by assumption)).symm | exact absurd (show (0 ≤ x ∧ x < D 1 0) ∧ (1450 ≤ y ∧ y ≤ 1999) from ⟨hw0, hw1⟩) (by assumption)
      exact ⟨(zOK_put hz (th2_r _ _)), QP_th hR, (zput_s _ _ _ _).trans (th2_0 hw0 hw1)⟩
set_option maxRecDepth 20000 in
set_option maxHeartbeats 2000000 in
theorem sX10_hasDevice_t1 {l : Launch} {w : zW} (hfl : l.stackTraces = false) {σ : zS} {D : zBk} {x y : Int} (hz : zOK σ) (hW : WF D) (hR : Rel D (σ.1 262)) (hx : zr x) (hy : zr y) (hw0 : ¬ (0 ≤ x ∧ x < D 1 0)) : Sp l w mX10_hasDevice 3 0 [zf 10 261, zi x, zi y] σ (zqv (some (zi 0)) (fun τ => zOK τ ∧ QP D σ τ ∧ τ.1 261 6 = 1)) := by
  obtain ⟨Q, hQ⟩ : ∃ Q : zQ, Q = (zqv (some (zi 0)) (fun τ => zOK τ ∧ QP D σ τ ∧ τ.1 261 6 = 1)) := ⟨_, rfl⟩
  rw [← hQ]
  refine zx_enter hfl (by decide) rfl 0 rfl ?_
  show zX l w mX10_hasDevice (zMQ w 3 0 Q) 0 [zf 10 261, zi x, zi y] [] 0 σ
  have hP : 0 ≤ D 1 0 ∧ D 1 0 ≤ 8 := hW.1.1
  have hM : 0 ≤ D 1 7 ∧ D 1 7 ≤ 8 := hW.1.2.1
  have hE : 0 ≤ D 1 10 ∧ D 1 10 ≤ 12 := hW.1.2.2.1
  have hK : 0 ≤ D 12 0 ∧ D 12 0 ≤ 40 := hW.1.2.2.2
  have r0 : σ.1 262 0 = D 1 0 := hR.1.1
  have r1 : σ.1 262 1 = D 1 7 := hR.1.2.1
  have r2 : σ.1 262 2 = D 1 10 := hR.1.2.2.1
  have r3 : σ.1 262 3 = D 12 0 := hR.1.2.2.2
  refine zx_aloadN dX10_hasDevice_0 rfl rfl ?_
  refine zx_aloadN dX10_hasDevice_1 rfl rfl ?_
  refine zx_iloadN dX10_hasDevice_2 rfl rfl ?_
  refine zy_cv [zi x] (sX10_isPrinter (D := D) hfl hz (by first | assumption | omega) (by first | assumption | (refine Rel_put (by decide) ?_; assumption) | (refine Rel_put (by decide) (Rel_put (by decide) ?_); assumption) | (refine Rel_put (by decide) (Rel_put (by decide) (Rel_put (by decide) ?_)); assumption)) (by first | exact hz _ _ | assumption | exact zr_b _ | exact zcmp_r _ _ | (unfold zr at *; omega))) dX10_hasDevice_3 (by decide) rfl cw_RX10_400 okX10_isPrinter rfl (Nat.le_of_ble_eq_true rfl) ⟨Nat.le_of_ble_eq_true rfl, Nat.le_of_ble_eq_true rfl, Nat.le_of_ble_eq_true rfl, Nat.le_of_ble_eq_true rfl⟩ ?_
  refine zy_cv [zi (zb (0 ≤ x ∧ x < D 1 0))] (sX10_passes (A := (0 ≤ x ∧ x < D 1 0)) hfl hz ) dX10_hasDevice_6 (by decide) rfl cw_RX10_220 okX10_passes rfl (Nat.le_of_ble_eq_true rfl) ⟨Nat.le_of_ble_eq_true rfl, Nat.le_of_ble_eq_true rfl, Nat.le_of_ble_eq_true rfl, Nat.le_of_ble_eq_true rfl⟩ ?_
  refine zx_if_eq (tgt := 25) (by first | exact hz _ _ | assumption | exact zr_b _ | exact zcmp_r _ _ | (unfold zr at *; omega)) dX10_hasDevice_9 (by decide) (fun h9 => ?_) (fun h9 => ?_)
  · have h9 := zb_0.mp h9
    refine zx_iconst dX10_hasDevice_25 ?_
    refine zx_iret rfl rfl dX10_hasDevice_26 ?_
    rw [hQ]
    refine ⟨congrArg (fun z : Int => (Sum.inl (some (zi z)) : Option zV ⊕ String)) ?_, ?_⟩
    · rfl
    exact ⟨(zOK_put hz (zr_b _)), QP_th hR, (zput_s _ _ _ _).trans (zb_t hw0)⟩
  · have h9 := zb_n.mp h9
    first | exact absurd (by assumption) hw0 | (exfalso; omega)
set_option maxRecDepth 20000 in
set_option maxHeartbeats 2000000 in
theorem sX10_hasDevice {l : Launch} {w : zW} (hfl : l.stackTraces = false) {σ : zS} {D : zBk} {x y : Int} (hz : zOK σ) (hW : WF D) (hR : Rel D (σ.1 262)) (hx : zr x) (hy : zr y) (hw0 : 0 ≤ x ∧ x < D 1 0) : Sp l w mX10_hasDevice 3 0 [zf 10 261, zi x, zi y] σ (zqv (some (zi (zb (hasDev D x.toNat y)))) (fun τ => zOK τ ∧ QP D σ τ ∧ τ.1 261 6 = 0)) := by
  obtain ⟨Q, hQ⟩ : ∃ Q : zQ, Q = (zqv (some (zi (zb (hasDev D x.toNat y)))) (fun τ => zOK τ ∧ QP D σ τ ∧ τ.1 261 6 = 0)) := ⟨_, rfl⟩
  rw [← hQ]
  refine zx_enter hfl (by decide) rfl 0 rfl ?_
  show zX l w mX10_hasDevice (zMQ w 3 0 Q) 0 [zf 10 261, zi x, zi y] [] 0 σ
  have hP : 0 ≤ D 1 0 ∧ D 1 0 ≤ 8 := hW.1.1
  have hM : 0 ≤ D 1 7 ∧ D 1 7 ≤ 8 := hW.1.2.1
  have hE : 0 ≤ D 1 10 ∧ D 1 10 ≤ 12 := hW.1.2.2.1
  have hK : 0 ≤ D 12 0 ∧ D 12 0 ≤ 40 := hW.1.2.2.2
  have r0 : σ.1 262 0 = D 1 0 := hR.1.1
  have r1 : σ.1 262 1 = D 1 7 := hR.1.2.1
  have r2 : σ.1 262 2 = D 1 10 := hR.1.2.2.1
  have r3 : σ.1 262 3 = D 12 0 := hR.1.2.2.2
  have ex : x = ((x.toNat : Nat) : Int) := by omega
  refine zx_aloadN dX10_hasDevice_0 rfl rfl ?_
  refine zx_aloadN dX10_hasDevice_1 rfl rfl ?_
  refine zx_iloadN dX10_hasDevice_2 rfl rfl ?_
  refine zy_cv [zi x] (sX10_isPrinter (D := D) hfl hz (by first | assumption | omega) (by first | assumption | (refine Rel_put (by decide) ?_; assumption) | (refine Rel_put (by decide) (Rel_put (by decide) ?_); assumption) | (refine Rel_put (by decide) (Rel_put (by decide) (Rel_put (by decide) ?_)); assumption)) (by first | exact hz _ _ | assumption | exact zr_b _ | exact zcmp_r _ _ | (unfold zr at *; omega))) dX10_hasDevice_3 (by decide) rfl cw_RX10_400 okX10_isPrinter rfl (Nat.le_of_ble_eq_true rfl) ⟨Nat.le_of_ble_eq_true rfl, Nat.le_of_ble_eq_true rfl, Nat.le_of_ble_eq_true rfl, Nat.le_of_ble_eq_true rfl⟩ ?_
  refine zy_cv [zi (zb (0 ≤ x ∧ x < D 1 0))] (sX10_passes (A := (0 ≤ x ∧ x < D 1 0)) hfl hz ) dX10_hasDevice_6 (by decide) rfl cw_RX10_220 okX10_passes rfl (Nat.le_of_ble_eq_true rfl) ⟨Nat.le_of_ble_eq_true rfl, Nat.le_of_ble_eq_true rfl, Nat.le_of_ble_eq_true rfl, Nat.le_of_ble_eq_true rfl⟩ ?_
  refine zx_if_eq (tgt := 25) (by first | exact hz _ _ | assumption | exact zr_b _ | exact zcmp_r _ _ | (unfold zr at *; omega)) dX10_hasDevice_9 (by decide) (fun h9 => ?_) (fun h9 => ?_)
  · have h9 := zb_0.mp h9
    refine zx_iconst dX10_hasDevice_25 ?_
    refine zx_iret rfl rfl dX10_hasDevice_26 ?_
    rw [hQ]
    refine ⟨congrArg (fun z : Int => (Sum.inl (some (zi z)) : Option zV ⊕ String)) ?_, ?_⟩
    · first | exact absurd hw0 (by assumption) | exact (zb_t (by assumption)).symm | exact (zb_f (by assumption)).symm
    exact ⟨(zOK_put hz (zr_b _)), QP_th hR, (zput_s _ _ _ _).trans (zb_f (fun q => q hw0))⟩
  · have h9 := zb_n.mp h9
    refine zx_aloadN dX10_hasDevice_12 rfl rfl ?_
    refine zx_iloadN dX10_hasDevice_13 rfl rfl ?_
    refine zy_top (b := ((x.toNat : Nat) : Int)) (ex) ?_
    refine zx_iloadN dX10_hasDevice_14 rfl rfl ?_
    refine zy_cv [zi ((x.toNat : Nat) : Int), zi y] (sX10_ownsDevice (D := D) (p := x.toNat) hfl (zOK_put hz (zr_b _)) (by first | assumption | omega) (by first | assumption | (refine Rel_put (by decide) ?_; assumption) | (refine Rel_put (by decide) (Rel_put (by decide) ?_); assumption) | (refine Rel_put (by decide) (Rel_put (by decide) (Rel_put (by decide) ?_)); assumption)) (by first | assumption | omega) (by first | exact hz _ _ | assumption | exact zr_b _ | exact zcmp_r _ _ | (unfold zr at *; omega))) dX10_hasDevice_15 (by decide) rfl cw_RX10_90 okX10_ownsDevice rfl (Nat.le_of_ble_eq_true rfl) ⟨Nat.le_of_ble_eq_true rfl, Nat.le_of_ble_eq_true rfl, Nat.le_of_ble_eq_true rfl, Nat.le_of_ble_eq_true rfl⟩ ?_
    refine zx_if_eq (tgt := 25) (by first | exact hz _ _ | assumption | exact zr_b _ | exact zcmp_r _ _ | (unfold zr at *; omega)) dX10_hasDevice_18 (by decide) (fun h18 => ?_) (fun h18 => ?_)
    · have h18 := zb_0.mp h18
      refine zx_iconst dX10_hasDevice_25 ?_
      refine zx_iret rfl rfl dX10_hasDevice_26 ?_
      rw [hQ]
      refine ⟨congrArg (fun z : Int => (Sum.inl (some (zi z)) : Option zV ⊕ String)) ?_, ?_⟩
      · first | exact absurd hw0 (by assumption) | exact (zb_t (by assumption)).symm | exact (zb_f (by assumption)).symm
      exact ⟨(zOK_put hz (zr_b _)), QP_th hR, (zput_s _ _ _ _).trans (zb_f (fun q => q hw0))⟩
    · have h18 := zb_n.mp h18
      refine zx_iconst dX10_hasDevice_21 ?_
      refine zx_goto (tgt := 26) dX10_hasDevice_22 (by decide) ?_
      refine zx_iret rfl rfl dX10_hasDevice_26 ?_
      rw [hQ]
      refine ⟨congrArg (fun z : Int => (Sum.inl (some (zi z)) : Option zV ⊕ String)) ?_, ?_⟩
      · first | exact absurd hw0 (by assumption) | exact (zb_t (by assumption)).symm | exact (zb_f (by assumption)).symm
      exact ⟨(zOK_put hz (zr_b _)), QP_th hR, (zput_s _ _ _ _).trans (zb_f (fun q => q hw0))⟩
set_option maxRecDepth 20000 in
set_option maxHeartbeats 2000000 in
theorem sX10_hasTypeface_t1 {l : Launch} {w : zW} (hfl : l.stackTraces = false) {σ : zS} {D : zBk} {x y : Int} (hz : zOK σ) (hW : WF D) (hR : Rel D (σ.1 262)) (hx : zr x) (hy : zr y) (hw0 : ¬ (0 ≤ x ∧ x < D 1 0)) : Sp l w mX10_hasTypeface 3 0 [zf 10 261, zi x, zi y] σ (zqv (some (zi 0)) (fun τ => zOK τ ∧ QP D σ τ ∧ τ.1 261 6 = 1)) := by
  obtain ⟨Q, hQ⟩ : ∃ Q : zQ, Q = (zqv (some (zi 0)) (fun τ => zOK τ ∧ QP D σ τ ∧ τ.1 261 6 = 1)) := ⟨_, rfl⟩
  rw [← hQ]
  refine zx_enter hfl (by decide) rfl 0 rfl ?_
  show zX l w mX10_hasTypeface (zMQ w 3 0 Q) 0 [zf 10 261, zi x, zi y] [] 0 σ
  have hP : 0 ≤ D 1 0 ∧ D 1 0 ≤ 8 := hW.1.1
  have hM : 0 ≤ D 1 7 ∧ D 1 7 ≤ 8 := hW.1.2.1
  have hE : 0 ≤ D 1 10 ∧ D 1 10 ≤ 12 := hW.1.2.2.1
  have hK : 0 ≤ D 12 0 ∧ D 12 0 ≤ 40 := hW.1.2.2.2
  have r0 : σ.1 262 0 = D 1 0 := hR.1.1
  have r1 : σ.1 262 1 = D 1 7 := hR.1.2.1
  have r2 : σ.1 262 2 = D 1 10 := hR.1.2.2.1
  have r3 : σ.1 262 3 = D 12 0 := hR.1.2.2.2
  refine zx_aloadN dX10_hasTypeface_0 rfl rfl ?_
  refine zx_aloadN dX10_hasTypeface_1 rfl rfl ?_
  refine zx_iloadN dX10_hasTypeface_2 rfl rfl ?_
  refine zy_cv [zi x] (sX10_isPrinter (D := D) hfl hz (by first | assumption | omega) (by first | assumption | (refine Rel_put (by decide) ?_; assumption) | (refine Rel_put (by decide) (Rel_put (by decide) ?_); assumption) | (refine Rel_put (by decide) (Rel_put (by decide) (Rel_put (by decide) ?_)); assumption)) (by first | exact hz _ _ | assumption | exact zr_b _ | exact zcmp_r _ _ | (unfold zr at *; omega))) dX10_hasTypeface_3 (by decide) rfl cw_RX10_400 okX10_isPrinter rfl (Nat.le_of_ble_eq_true rfl) ⟨Nat.le_of_ble_eq_true rfl, Nat.le_of_ble_eq_true rfl, Nat.le_of_ble_eq_true rfl, Nat.le_of_ble_eq_true rfl⟩ ?_
  refine zy_cv [zi (zb (0 ≤ x ∧ x < D 1 0))] (sX10_passes (A := (0 ≤ x ∧ x < D 1 0)) hfl hz ) dX10_hasTypeface_6 (by decide) rfl cw_RX10_220 okX10_passes rfl (Nat.le_of_ble_eq_true rfl) ⟨Nat.le_of_ble_eq_true rfl, Nat.le_of_ble_eq_true rfl, Nat.le_of_ble_eq_true rfl, Nat.le_of_ble_eq_true rfl⟩ ?_
  refine zx_if_eq (tgt := 25) (by first | exact hz _ _ | assumption | exact zr_b _ | exact zcmp_r _ _ | (unfold zr at *; omega)) dX10_hasTypeface_9 (by decide) (fun h9 => ?_) (fun h9 => ?_)
  · have h9 := zb_0.mp h9
    refine zx_iconst dX10_hasTypeface_25 ?_
    refine zx_iret rfl rfl dX10_hasTypeface_26 ?_
    rw [hQ]
    refine ⟨congrArg (fun z : Int => (Sum.inl (some (zi z)) : Option zV ⊕ String)) ?_, ?_⟩
    · rfl
    exact ⟨(zOK_put hz (zr_b _)), QP_th hR, (zput_s _ _ _ _).trans (zb_t hw0)⟩
  · have h9 := zb_n.mp h9
    first | exact absurd (by assumption) hw0 | (exfalso; omega)
set_option maxRecDepth 20000 in
set_option maxHeartbeats 2000000 in
theorem sX10_hasTypeface {l : Launch} {w : zW} (hfl : l.stackTraces = false) {σ : zS} {D : zBk} {x y : Int} (hz : zOK σ) (hW : WF D) (hR : Rel D (σ.1 262)) (hx : zr x) (hy : zr y) (hw0 : 0 ≤ x ∧ x < D 1 0) : Sp l w mX10_hasTypeface 3 0 [zf 10 261, zi x, zi y] σ (zqv (some (zi (zb (hasTyp D x.toNat y)))) (fun τ => zOK τ ∧ QP D σ τ ∧ τ.1 261 6 = 0)) := by
  obtain ⟨Q, hQ⟩ : ∃ Q : zQ, Q = (zqv (some (zi (zb (hasTyp D x.toNat y)))) (fun τ => zOK τ ∧ QP D σ τ ∧ τ.1 261 6 = 0)) := ⟨_, rfl⟩
  rw [← hQ]
  refine zx_enter hfl (by decide) rfl 0 rfl ?_
  show zX l w mX10_hasTypeface (zMQ w 3 0 Q) 0 [zf 10 261, zi x, zi y] [] 0 σ
  have hP : 0 ≤ D 1 0 ∧ D 1 0 ≤ 8 := hW.1.1
  have hM : 0 ≤ D 1 7 ∧ D 1 7 ≤ 8 := hW.1.2.1
  have hE : 0 ≤ D 1 10 ∧ D 1 10 ≤ 12 := hW.1.2.2.1
  have hK : 0 ≤ D 12 0 ∧ D 12 0 ≤ 40 := hW.1.2.2.2
  have r0 : σ.1 262 0 = D 1 0 := hR.1.1
  have r1 : σ.1 262 1 = D 1 7 := hR.1.2.1
  have r2 : σ.1 262 2 = D 1 10 := hR.1.2.2.1
  have r3 : σ.1 262 3 = D 12 0 := hR.1.2.2.2
  have ex : x = ((x.toNat : Nat) : Int) := by omega
  refine zx_aloadN dX10_hasTypeface_0 rfl rfl ?_
  refine zx_aloadN dX10_hasTypeface_1 rfl rfl ?_
  refine zx_iloadN dX10_hasTypeface_2 rfl rfl ?_
  refine zy_cv [zi x] (sX10_isPrinter (D := D) hfl hz (by first | assumption | omega) (by first | assumption | (refine Rel_put (by decide) ?_; assumption) | (refine Rel_put (by decide) (Rel_put (by decide) ?_); assumption) | (refine Rel_put (by decide) (Rel_put (by decide) (Rel_put (by decide) ?_)); assumption)) (by first | exact hz _ _ | assumption | exact zr_b _ | exact zcmp_r _ _ | (unfold zr at *; omega))) dX10_hasTypeface_3 (by decide) rfl cw_RX10_400 okX10_isPrinter rfl (Nat.le_of_ble_eq_true rfl) ⟨Nat.le_of_ble_eq_true rfl, Nat.le_of_ble_eq_true rfl, Nat.le_of_ble_eq_true rfl, Nat.le_of_ble_eq_true rfl⟩ ?_
  refine zy_cv [zi (zb (0 ≤ x ∧ x < D 1 0))] (sX10_passes (A := (0 ≤ x ∧ x < D 1 0)) hfl hz ) dX10_hasTypeface_6 (by decide) rfl cw_RX10_220 okX10_passes rfl (Nat.le_of_ble_eq_true rfl) ⟨Nat.le_of_ble_eq_true rfl, Nat.le_of_ble_eq_true rfl, Nat.le_of_ble_eq_true rfl, Nat.le_of_ble_eq_true rfl⟩ ?_
  refine zx_if_eq (tgt := 25) (by first | exact hz _ _ | assumption | exact zr_b _ | exact zcmp_r _ _ | (unfold zr at *; omega)) dX10_hasTypeface_9 (by decide) (fun h9 => ?_) (fun h9 => ?_)
  · have h9 := zb_0.mp h9
    refine zx_iconst dX10_hasTypeface_25 ?_
    refine zx_iret rfl rfl dX10_hasTypeface_26 ?_
    rw [hQ]
    refine ⟨congrArg (fun z : Int => (Sum.inl (some (zi z)) : Option zV ⊕ String)) ?_, ?_⟩
    · first | exact absurd hw0 (by assumption) | exact (zb_t (by assumption)).symm | exact (zb_f (by assumption)).symm
    exact ⟨(zOK_put hz (zr_b _)), QP_th hR, (zput_s _ _ _ _).trans (zb_f (fun q => q hw0))⟩
  · have h9 := zb_n.mp h9
    refine zx_aloadN dX10_hasTypeface_12 rfl rfl ?_
    refine zx_iloadN dX10_hasTypeface_13 rfl rfl ?_
    refine zy_top (b := ((x.toNat : Nat) : Int)) (ex) ?_
    refine zx_iloadN dX10_hasTypeface_14 rfl rfl ?_
    refine zy_cv [zi ((x.toNat : Nat) : Int), zi y] (sX10_ownsType (D := D) (p := x.toNat) hfl (zOK_put hz (zr_b _)) (by first | assumption | omega) (by first | assumption | (refine Rel_put (by decide) ?_; assumption) | (refine Rel_put (by decide) (Rel_put (by decide) ?_); assumption) | (refine Rel_put (by decide) (Rel_put (by decide) (Rel_put (by decide) ?_)); assumption)) (by first | assumption | omega) (by first | exact hz _ _ | assumption | exact zr_b _ | exact zcmp_r _ _ | (unfold zr at *; omega))) dX10_hasTypeface_15 (by decide) rfl cw_RX10_105 okX10_ownsType rfl (Nat.le_of_ble_eq_true rfl) ⟨Nat.le_of_ble_eq_true rfl, Nat.le_of_ble_eq_true rfl, Nat.le_of_ble_eq_true rfl, Nat.le_of_ble_eq_true rfl⟩ ?_
    refine zx_if_eq (tgt := 25) (by first | exact hz _ _ | assumption | exact zr_b _ | exact zcmp_r _ _ | (unfold zr at *; omega)) dX10_hasTypeface_18 (by decide) (fun h18 => ?_) (fun h18 => ?_)
    · have h18 := zb_0.mp h18
      refine zx_iconst dX10_hasTypeface_25 ?_
      refine zx_iret rfl rfl dX10_hasTypeface_26 ?_
      rw [hQ]
      refine ⟨congrArg (fun z : Int => (Sum.inl (some (zi z)) : Option zV ⊕ String)) ?_, ?_⟩
      · first | exact absurd hw0 (by assumption) | exact (zb_t (by assumption)).symm | exact (zb_f (by assumption)).symm
      exact ⟨(zOK_put hz (zr_b _)), QP_th hR, (zput_s _ _ _ _).trans (zb_f (fun q => q hw0))⟩
    · have h18 := zb_n.mp h18
      refine zx_iconst dX10_hasTypeface_21 ?_
      refine zx_goto (tgt := 26) dX10_hasTypeface_22 (by decide) ?_
      refine zx_iret rfl rfl dX10_hasTypeface_26 ?_
      rw [hQ]
      refine ⟨congrArg (fun z : Int => (Sum.inl (some (zi z)) : Option zV ⊕ String)) ?_, ?_⟩
      · first | exact absurd hw0 (by assumption) | exact (zb_t (by assumption)).symm | exact (zb_f (by assumption)).symm
      exact ⟨(zOK_put hz (zr_b _)), QP_th hR, (zput_s _ _ _ _).trans (zb_f (fun q => q hw0))⟩
set_option maxRecDepth 20000 in
set_option maxHeartbeats 2000000 in
theorem sX10_deviceOwners {l : Launch} {w : zW} (hfl : l.stackTraces = false) {σ : zS} {D : zBk} {y : Int} (hz : zOK σ) (hW : WF D) (hR : Rel D (σ.1 262)) (hy : zr y) : Sp l w mX10_deviceOwners 4 0 [zf 10 261, zi y] σ (zqv (some (zi (zs (fun p => zb (hasDev D p y)) (D 1 0).toNat))) (fun τ => zOK τ ∧ QP D σ τ ∧ τ.1 261 6 = 0)) := by
  obtain ⟨Q, hQ⟩ : ∃ Q : zQ, Q = (zqv (some (zi (zs (fun p => zb (hasDev D p y)) (D 1 0).toNat))) (fun τ => zOK τ ∧ QP D σ τ ∧ τ.1 261 6 = 0)) := ⟨_, rfl⟩
  rw [← hQ]
  refine zx_enter hfl (by decide) rfl 0 rfl ?_
  show zX l w mX10_deviceOwners (zMQ w 4 0 Q) 0 [zf 10 261, zi y] [] 0 σ
  have hP : 0 ≤ D 1 0 ∧ D 1 0 ≤ 8 := hW.1.1
  have hM : 0 ≤ D 1 7 ∧ D 1 7 ≤ 8 := hW.1.2.1
  have hE : 0 ≤ D 1 10 ∧ D 1 10 ≤ 12 := hW.1.2.2.1
  have hK : 0 ≤ D 12 0 ∧ D 12 0 ≤ 40 := hW.1.2.2.2
  have r0 : σ.1 262 0 = D 1 0 := hR.1.1
  have r1 : σ.1 262 1 = D 1 7 := hR.1.2.1
  have r2 : σ.1 262 2 = D 1 10 := hR.1.2.2.1
  have r3 : σ.1 262 3 = D 12 0 := hR.1.2.2.2
  refine zx_aloadN dX10_deviceOwners_0 rfl rfl ?_
  refine zx_aloadN dX10_deviceOwners_1 rfl rfl ?_
  refine zx_iloadN dX10_deviceOwners_2 rfl rfl ?_
  refine zy_cv [zi y] (sX10_owners (D := D) hfl hz (by first | assumption | omega) (by first | assumption | (refine Rel_put (by decide) ?_; assumption) | (refine Rel_put (by decide) (Rel_put (by decide) ?_); assumption) | (refine Rel_put (by decide) (Rel_put (by decide) (Rel_put (by decide) ?_)); assumption)) (by first | exact hz _ _ | assumption | exact zr_b _ | exact zcmp_r _ _ | (unfold zr at *; omega))) dX10_deviceOwners_3 (by decide) rfl cw_RX10_214 okX10_owners rfl (Nat.le_of_ble_eq_true rfl) ⟨Nat.le_of_ble_eq_true rfl, Nat.le_of_ble_eq_true rfl, Nat.le_of_ble_eq_true rfl, Nat.le_of_ble_eq_true rfl⟩ ?_
  have hob := zsb_le (fun p => hasDev D p y) (D 1 0).toNat
  refine zy_cv [zi (zs (fun p => zb (hasDev D p y)) (D 1 0).toNat)] (sX10_tells  hfl hz (by first | exact hz _ _ | assumption | exact zr_b _ | exact zcmp_r _ _ | (unfold zr at *; omega))) dX10_deviceOwners_6 (by decide) rfl cw_RX10_397 okX10_tells rfl (Nat.le_of_ble_eq_true rfl) ⟨Nat.le_of_ble_eq_true rfl, Nat.le_of_ble_eq_true rfl, Nat.le_of_ble_eq_true rfl, Nat.le_of_ble_eq_true rfl⟩ ?_
  refine zx_iret rfl rfl dX10_deviceOwners_9 ?_
  rw [hQ]
  refine ⟨congrArg (fun z : Int => (Sum.inl (some (zi z)) : Option zV ⊕ String)) ?_, ?_⟩
  · rfl
  exact ⟨(zOK_put hz (by unfold zr; omega)), QP_th hR, zput_s _ _ _ _⟩
set_option maxRecDepth 20000 in
set_option maxHeartbeats 2000000 in
theorem sX10_watermarksOf_t1 {l : Launch} {w : zW} (hfl : l.stackTraces = false) {σ : zS} {D : zBk} {y : Int} (hz : zOK σ) (hW : WF D) (hR : Rel D (σ.1 262)) (hy : zr y) (hw0 : ¬ (1450 ≤ y ∧ y ≤ 1999)) : Sp l w mX10_watermarksOf 2 0 [zf 10 261, zi y] σ (zqv (some (zi 0)) (fun τ => zOK τ ∧ QP D σ τ ∧ τ.1 261 6 = 1)) := by
  obtain ⟨Q, hQ⟩ : ∃ Q : zQ, Q = (zqv (some (zi 0)) (fun τ => zOK τ ∧ QP D σ τ ∧ τ.1 261 6 = 1)) := ⟨_, rfl⟩
  rw [← hQ]
  refine zx_enter hfl (by decide) rfl 2 rfl ?_
  show zX l w mX10_watermarksOf (zMQ w 2 0 Q) 0 [zf 10 261, zi y, zu, zu] [] 0 σ
  have hP : 0 ≤ D 1 0 ∧ D 1 0 ≤ 8 := hW.1.1
  have hM : 0 ≤ D 1 7 ∧ D 1 7 ≤ 8 := hW.1.2.1
  have hE : 0 ≤ D 1 10 ∧ D 1 10 ≤ 12 := hW.1.2.2.1
  have hK : 0 ≤ D 12 0 ∧ D 12 0 ≤ 40 := hW.1.2.2.2
  have r0 : σ.1 262 0 = D 1 0 := hR.1.1
  have r1 : σ.1 262 1 = D 1 7 := hR.1.2.1
  have r2 : σ.1 262 2 = D 1 10 := hR.1.2.2.1
  have r3 : σ.1 262 3 = D 12 0 := hR.1.2.2.2
  refine zx_aloadN dX10_watermarksOf_0 rfl rfl ?_
  refine zx_iloadN dX10_watermarksOf_1 rfl rfl ?_
  refine zy_cs [zi y] (sX10_isYear  hfl hz (by first | exact hz _ _ | assumption | exact zr_b _ | exact zcmp_r _ _ | (unfold zr at *; omega))) dX10_watermarksOf_2 cw_RX10_403 okX10_isYear rfl (Nat.le_of_ble_eq_true rfl) ⟨Nat.le_of_ble_eq_true rfl, Nat.le_of_ble_eq_true rfl, Nat.le_of_ble_eq_true rfl, Nat.le_of_ble_eq_true rfl⟩ ?_
  refine zy_cv [zi (zb (1450 ≤ y ∧ y ≤ 1999))] (sX10_passes (A := (1450 ≤ y ∧ y ≤ 1999)) hfl hz ) dX10_watermarksOf_5 (by decide) rfl cw_RX10_220 okX10_passes rfl (Nat.le_of_ble_eq_true rfl) ⟨Nat.le_of_ble_eq_true rfl, Nat.le_of_ble_eq_true rfl, Nat.le_of_ble_eq_true rfl, Nat.le_of_ble_eq_true rfl⟩ ?_
  refine zx_if_ne (tgt := 13) (by first | exact hz _ _ | assumption | exact zr_b _ | exact zcmp_r _ _ | (unfold zr at *; omega)) dX10_watermarksOf_8 (by decide) (fun h8 => ?_) (fun h8 => ?_)
  · have h8 := zb_n.mp h8
    first | exact absurd (by assumption) hw0 | (exfalso; omega)
  · have h8 := zb_0.mp h8
    refine zx_iconst dX10_watermarksOf_11 ?_
    refine zx_iret rfl rfl dX10_watermarksOf_12 ?_
    rw [hQ]
    refine ⟨congrArg (fun z : Int => (Sum.inl (some (zi z)) : Option zV ⊕ String)) ?_, ?_⟩
    · rfl
    exact ⟨(zOK_put hz (zr_b _)), QP_th hR, (zput_s _ _ _ _).trans (zb_t hw0)⟩
set_option maxRecDepth 20000 in
set_option maxHeartbeats 2000000 in
theorem sX10_watermarksOf {l : Launch} {w : zW} (hfl : l.stackTraces = false) {σ : zS} {D : zBk} {y : Int} (hz : zOK σ) (hW : WF D) (hR : Rel D (σ.1 262)) (hy : zr y) (hw0 : 1450 ≤ y ∧ y ≤ 1999) : Sp l w mX10_watermarksOf 2 0 [zf 10 261, zi y] σ (zqv (some (zi (zs (fun q => zb (D 8 q ≤ y ∧ y ≤ D 9 q + 3)) (D 1 7).toNat))) (fun τ => zOK τ ∧ QP D σ τ ∧ τ.1 261 6 = 0)) := by
  obtain ⟨Q, hQ⟩ : ∃ Q : zQ, Q = (zqv (some (zi (zs (fun q => zb (D 8 q ≤ y ∧ y ≤ D 9 q + 3)) (D 1 7).toNat))) (fun τ => zOK τ ∧ QP D σ τ ∧ τ.1 261 6 = 0)) := ⟨_, rfl⟩
  rw [← hQ]
  refine zx_enter hfl (by decide) rfl 2 rfl ?_
  show zX l w mX10_watermarksOf (zMQ w 2 0 Q) 0 [zf 10 261, zi y, zu, zu] [] 0 σ
  have hP : 0 ≤ D 1 0 ∧ D 1 0 ≤ 8 := hW.1.1
  have hM : 0 ≤ D 1 7 ∧ D 1 7 ≤ 8 := hW.1.2.1
  have hE : 0 ≤ D 1 10 ∧ D 1 10 ≤ 12 := hW.1.2.2.1
  have hK : 0 ≤ D 12 0 ∧ D 12 0 ≤ 40 := hW.1.2.2.2
  have r0 : σ.1 262 0 = D 1 0 := hR.1.1
  have r1 : σ.1 262 1 = D 1 7 := hR.1.2.1
  have r2 : σ.1 262 2 = D 1 10 := hR.1.2.2.1
  have r3 : σ.1 262 3 = D 12 0 := hR.1.2.2.2
  refine zx_aloadN dX10_watermarksOf_0 rfl rfl ?_
  refine zx_iloadN dX10_watermarksOf_1 rfl rfl ?_
  refine zy_cs [zi y] (sX10_isYear  hfl hz (by first | exact hz _ _ | assumption | exact zr_b _ | exact zcmp_r _ _ | (unfold zr at *; omega))) dX10_watermarksOf_2 cw_RX10_403 okX10_isYear rfl (Nat.le_of_ble_eq_true rfl) ⟨Nat.le_of_ble_eq_true rfl, Nat.le_of_ble_eq_true rfl, Nat.le_of_ble_eq_true rfl, Nat.le_of_ble_eq_true rfl⟩ ?_
  refine zy_cv [zi (zb (1450 ≤ y ∧ y ≤ 1999))] (sX10_passes (A := (1450 ≤ y ∧ y ≤ 1999)) hfl hz ) dX10_watermarksOf_5 (by decide) rfl cw_RX10_220 okX10_passes rfl (Nat.le_of_ble_eq_true rfl) ⟨Nat.le_of_ble_eq_true rfl, Nat.le_of_ble_eq_true rfl, Nat.le_of_ble_eq_true rfl, Nat.le_of_ble_eq_true rfl⟩ ?_
  refine zx_if_ne (tgt := 13) (by first | exact hz _ _ | assumption | exact zr_b _ | exact zcmp_r _ _ | (unfold zr at *; omega)) dX10_watermarksOf_8 (by decide) (fun h8 => ?_) (fun h8 => ?_)
  · have h8 := zb_n.mp h8
    refine zx_iconst dX10_watermarksOf_13 ?_
    refine zy_istoreN [zf 10 261, zi y, zi 0, zu] dX10_watermarksOf_14 rfl (Nat.le_of_ble_eq_true rfl) (Nat.le_of_ble_eq_true rfl) rfl rfl ?_
    refine zx_iconst dX10_watermarksOf_15 ?_
    refine zy_istoreN [zf 10 261, zi y, zi 0, zi 0] dX10_watermarksOf_16 rfl (Nat.le_of_ble_eq_true rfl) (Nat.le_of_ble_eq_true rfl) rfl rfl ?_
    have L17 : ∀ (N : Nat) (q : Nat) (acc : Int), ((q : Int) ≤ D 1 7) → (acc = zs (fun q => zb (D 8 q ≤ y ∧ y ≤ D 9 q + 3)) q) → (9 - q) < N → zX l w mX10_watermarksOf (zMQ w 2 0 Q) 17 [zf 10 261, zi y, zi acc, zi ((q : Nat) : Int)] [] 0 (zput σ 261 6 (zb (¬ (1450 ≤ y ∧ y ≤ 1999)))) := by
      intro N
      induction N with
      | zero => intro q acc _ _ _; exact absurd (by assumption) (Nat.not_lt_zero _)
      | succ N ih17 =>
        intro q acc hq_ hacc hN
        have c1 : (zput σ 261 6 (zb (¬ (1450 ≤ y ∧ y ≤ 1999)))).1 262 1 = σ.1 262 1 := zput_k _ _ _ _ _ (by omega)
        refine zx_iloadN dX10_watermarksOf_17 rfl rfl ?_
        refine zx_aloadN dX10_watermarksOf_18 rfl rfl ?_
        refine zy_getR (q' := 262) fl_RX10_7 rfl dX10_watermarksOf_19 rfl ?_
        refine zx_iconst dX10_watermarksOf_22 ?_
        refine zy_iald (v := σ.1 262 1) rfl (by decide) (by decide) dX10_watermarksOf_23 (by omega) (by omega) (zput_k _ _ _ _ _ (by omega)) ?_
        refine zx_icmp_ge (tgt := 72) (by first | exact hz _ _ | assumption | exact zr_b _ | exact zcmp_r _ _ | (unfold zr at *; omega)) (by first | exact hz _ _ | assumption | exact zr_b _ | exact zcmp_r _ _ | (unfold zr at *; omega)) dX10_watermarksOf_24 (by decide) (fun h24 => ?_) (fun h24 => ?_)
        · refine zx_iloadN dX10_watermarksOf_72 rfl rfl ?_
          refine zx_iret rfl rfl dX10_watermarksOf_73 ?_
          rw [hQ]
          refine ⟨congrArg (fun z : Int => (Sum.inl (some (zi z)) : Option zV ⊕ String)) ?_, ?_⟩
          · rw [hacc]; congr 1; omega
          exact ⟨(zOK_put hz (zr_b _)), QP_th hR, (zput_s _ _ _ _).trans (zb_f (fun q => q hw0))⟩
        · have hq : (q : Int) < D 1 7 := by omega
          have hm1 := hR.2.2.1 q hq
          have hm2 := hW.2.2.1 q hq
          refine zx_iloadN dX10_watermarksOf_27 rfl rfl ?_
          refine zx_iloadN dX10_watermarksOf_28 rfl rfl ?_
          refine zx_i2l (by first | exact hz _ _ | assumption | exact zr_b _ | exact zcmp_r _ _ | (unfold zr at *; omega)) dX10_watermarksOf_29 ?_
          refine zx_aloadN dX10_watermarksOf_30 rfl rfl ?_
          refine zy_getR (q' := 262) fl_RX10_7 rfl dX10_watermarksOf_31 rfl ?_
          refine zx_bipush dX10_watermarksOf_34 rfl ?_
          refine zx_iconst dX10_watermarksOf_36 ?_
          refine zx_iloadN dX10_watermarksOf_37 rfl rfl ?_
          refine zx_imul dX10_watermarksOf_38 ?_
          refine zx_iadd dX10_watermarksOf_39 ?_
          refine zy_top (b := ((100 + 2 * q : Nat) : Int)) (by omega) ?_
          refine zy_iald (v := σ.1 262 (100 + 2 * q)) rfl (by decide) (by decide) dX10_watermarksOf_40 (by omega) (by omega) (zput_k _ _ _ _ _ (by omega)) ?_
          refine zx_i2l (by first | exact hz _ _ | assumption | exact zr_b _ | exact zcmp_r _ _ | (unfold zr at *; omega)) dX10_watermarksOf_41 ?_
          refine zx_aloadN dX10_watermarksOf_42 rfl rfl ?_
          refine zy_getR (q' := 262) fl_RX10_7 rfl dX10_watermarksOf_43 rfl ?_
          refine zx_bipush dX10_watermarksOf_46 rfl ?_
          refine zx_iconst dX10_watermarksOf_48 ?_
          refine zx_iloadN dX10_watermarksOf_49 rfl rfl ?_
          refine zx_imul dX10_watermarksOf_50 ?_
          refine zx_iadd dX10_watermarksOf_51 ?_
          refine zx_iconst dX10_watermarksOf_52 ?_
          refine zx_iadd dX10_watermarksOf_53 ?_
          refine zy_top (b := ((100 + 2 * q + 1 : Nat) : Int)) (by omega) ?_
          refine zy_iald (v := σ.1 262 (100 + 2 * q + 1)) rfl (by decide) (by decide) dX10_watermarksOf_54 (by omega) (by omega) (zput_k _ _ _ _ _ (by omega)) ?_
          refine zx_iconst dX10_watermarksOf_55 ?_
          refine zx_iadd dX10_watermarksOf_56 ?_
          refine zx_i2l (by first | exact hz _ _ | assumption | exact zr_b _ | exact zcmp_r _ _ | (unfold zr at *; omega)) dX10_watermarksOf_57 ?_
          refine zy_cs [zl y, zl (σ.1 262 (100 + 2 * q)), zl ((σ.1 262 (100 + 2 * q + 1)) + 3)] (sX10_in  hfl (zOK_put hz (zr_b _)) (by first | exact hz _ _ | assumption | exact zr_b _ | exact zcmp_r _ _ | (unfold zr at *; omega)) (by first | exact hz _ _ | assumption | exact zr_b _ | exact zcmp_r _ _ | (unfold zr at *; omega)) (by first | exact hz _ _ | assumption | exact zr_b _ | exact zcmp_r _ _ | (unfold zr at *; omega))) dX10_watermarksOf_58 cw_RX10_74 okX10_in rfl (Nat.le_of_ble_eq_true rfl) ⟨Nat.le_of_ble_eq_true rfl, Nat.le_of_ble_eq_true rfl, Nat.le_of_ble_eq_true rfl, Nat.le_of_ble_eq_true rfl⟩ ?_
          refine zy_cs [zi (zb ((σ.1 262 (100 + 2 * q)) ≤ y ∧ y ≤ ((σ.1 262 (100 + 2 * q + 1)) + 3)))] (sX10_truth (A := ((σ.1 262 (100 + 2 * q)) ≤ y ∧ y ≤ ((σ.1 262 (100 + 2 * q + 1)) + 3))) hfl (zOK_put hz (zr_b _)) ) dX10_watermarksOf_61 cw_RX10_94 okX10_truth rfl (Nat.le_of_ble_eq_true rfl) ⟨Nat.le_of_ble_eq_true rfl, Nat.le_of_ble_eq_true rfl, Nat.le_of_ble_eq_true rfl, Nat.le_of_ble_eq_true rfl⟩ ?_
          refine zx_iadd dX10_watermarksOf_64 ?_
          refine zy_istoreN [zf 10 261, zi y, zi (acc + (zb ((σ.1 262 (100 + 2 * q)) ≤ y ∧ y ≤ ((σ.1 262 (100 + 2 * q + 1)) + 3)))), zi ((q : Nat) : Int)] dX10_watermarksOf_65 rfl (Nat.le_of_ble_eq_true rfl) (Nat.le_of_ble_eq_true rfl) rfl rfl ?_
          refine zy_iinc (b := ((q + 1 : Nat) : Int)) [zf 10 261, zi y, zi (acc + (zb ((σ.1 262 (100 + 2 * q)) ≤ y ∧ y ≤ ((σ.1 262 (100 + 2 * q + 1)) + 3)))), zi ((q + 1 : Nat) : Int)] dX10_watermarksOf_66 rfl (by omega) (Nat.le_of_ble_eq_true rfl) rfl rfl ?_
          refine zx_goto (tgt := 17) dX10_watermarksOf_69 (by decide) ?_
          exact ih17 (q + 1) (acc + (zb ((σ.1 262 (100 + 2 * q)) ≤ y ∧ y ≤ ((σ.1 262 (100 + 2 * q + 1)) + 3)))) (by first | assumption | omega) (by subst hacc; rw [zs_s, ← hm1.1, ← hm1.2]) (by omega)
    exact L17 _ 0 0 (by first | assumption | omega) rfl (Nat.lt_succ_self _)
  · have h8 := zb_0.mp h8
    first | exact absurd hw0 (by assumption) | (exfalso; omega)
set_option maxRecDepth 20000 in
set_option maxHeartbeats 2000000 in
theorem sX10_tellsClue_t1 {l : Launch} {w : zW} (hfl : l.stackTraces = false) {σ : zS} {D : zBk} {x : Int} {o : Nat} (hz : zOK σ) (hW : WF D) (hR : Rel D (σ.1 262)) (hx : zr x) (ho : o < 6) (hw0 : ¬ (0 ≤ x ∧ x < D 12 0)) : Sp l w mX10_tellsClue 2 0 [zf 10 261, zi x, zi ((o : Nat) : Int)] σ (zqv (some (zi 0)) (fun τ => zOK τ ∧ QP D σ τ ∧ τ.1 261 6 = 1)) := by
  obtain ⟨Q, hQ⟩ : ∃ Q : zQ, Q = (zqv (some (zi 0)) (fun τ => zOK τ ∧ QP D σ τ ∧ τ.1 261 6 = 1)) := ⟨_, rfl⟩
  rw [← hQ]
  refine zx_enter hfl (by decide) rfl 0 rfl ?_
  show zX l w mX10_tellsClue (zMQ w 2 0 Q) 0 [zf 10 261, zi x, zi ((o : Nat) : Int)] [] 0 σ
  have hP : 0 ≤ D 1 0 ∧ D 1 0 ≤ 8 := hW.1.1
  have hM : 0 ≤ D 1 7 ∧ D 1 7 ≤ 8 := hW.1.2.1
  have hE : 0 ≤ D 1 10 ∧ D 1 10 ≤ 12 := hW.1.2.2.1
  have hK : 0 ≤ D 12 0 ∧ D 12 0 ≤ 40 := hW.1.2.2.2
  have r0 : σ.1 262 0 = D 1 0 := hR.1.1
  have r1 : σ.1 262 1 = D 1 7 := hR.1.2.1
  have r2 : σ.1 262 2 = D 1 10 := hR.1.2.2.1
  have r3 : σ.1 262 3 = D 12 0 := hR.1.2.2.2
  refine zx_aloadN dX10_tellsClue_0 rfl rfl ?_
  refine zx_aloadN dX10_tellsClue_1 rfl rfl ?_
  refine zx_iloadN dX10_tellsClue_2 rfl rfl ?_
  refine zy_cv [zi x] (sX10_isClue (D := D) hfl hz (by first | assumption | omega) (by first | assumption | (refine Rel_put (by decide) ?_; assumption) | (refine Rel_put (by decide) (Rel_put (by decide) ?_); assumption) | (refine Rel_put (by decide) (Rel_put (by decide) (Rel_put (by decide) ?_)); assumption)) (by first | exact hz _ _ | assumption | exact zr_b _ | exact zcmp_r _ _ | (unfold zr at *; omega))) dX10_tellsClue_3 (by decide) rfl cw_RX10_205 okX10_isClue rfl (Nat.le_of_ble_eq_true rfl) ⟨Nat.le_of_ble_eq_true rfl, Nat.le_of_ble_eq_true rfl, Nat.le_of_ble_eq_true rfl, Nat.le_of_ble_eq_true rfl⟩ ?_
  refine zy_cv [zi (zb (0 ≤ x ∧ x < D 12 0))] (sX10_passes (A := (0 ≤ x ∧ x < D 12 0)) hfl hz ) dX10_tellsClue_6 (by decide) rfl cw_RX10_220 okX10_passes rfl (Nat.le_of_ble_eq_true rfl) ⟨Nat.le_of_ble_eq_true rfl, Nat.le_of_ble_eq_true rfl, Nat.le_of_ble_eq_true rfl, Nat.le_of_ble_eq_true rfl⟩ ?_
  refine zx_if_eq (tgt := 21) (by first | exact hz _ _ | assumption | exact zr_b _ | exact zcmp_r _ _ | (unfold zr at *; omega)) dX10_tellsClue_9 (by decide) (fun h9 => ?_) (fun h9 => ?_)
  · have h9 := zb_0.mp h9
    refine zx_iconst dX10_tellsClue_21 ?_
    refine zx_iret rfl rfl dX10_tellsClue_22 ?_
    rw [hQ]
    refine ⟨congrArg (fun z : Int => (Sum.inl (some (zi z)) : Option zV ⊕ String)) ?_, ?_⟩
    · rfl
    exact ⟨(zOK_put hz (zr_b _)), QP_th hR, (zput_s _ _ _ _).trans (zb_t hw0)⟩
  · have h9 := zb_n.mp h9
    exact absurd (by assumption) hw0
set_option maxRecDepth 20000 in
set_option maxHeartbeats 2000000 in
theorem sX10_tellsClue {l : Launch} {w : zW} (hfl : l.stackTraces = false) {σ : zS} {D : zBk} {x : Int} {o : Nat} (hz : zOK σ) (hW : WF D) (hR : Rel D (σ.1 262)) (hx : zr x) (ho : o < 6) (hw0 : 0 ≤ x ∧ x < D 12 0) : Sp l w mX10_tellsClue 2 0 [zf 10 261, zi x, zi ((o : Nat) : Int)] σ (zqv (some (zi (D (13 + o) x.toNat))) (fun τ => zOK τ ∧ QP D σ τ ∧ τ.1 261 6 = 0)) := by
  obtain ⟨Q, hQ⟩ : ∃ Q : zQ, Q = (zqv (some (zi (D (13 + o) x.toNat))) (fun τ => zOK τ ∧ QP D σ τ ∧ τ.1 261 6 = 0)) := ⟨_, rfl⟩
  rw [← hQ]
  refine zx_enter hfl (by decide) rfl 0 rfl ?_
  show zX l w mX10_tellsClue (zMQ w 2 0 Q) 0 [zf 10 261, zi x, zi ((o : Nat) : Int)] [] 0 σ
  have hP : 0 ≤ D 1 0 ∧ D 1 0 ≤ 8 := hW.1.1
  have hM : 0 ≤ D 1 7 ∧ D 1 7 ≤ 8 := hW.1.2.1
  have hE : 0 ≤ D 1 10 ∧ D 1 10 ≤ 12 := hW.1.2.2.1
  have hK : 0 ≤ D 12 0 ∧ D 12 0 ≤ 40 := hW.1.2.2.2
  have r0 : σ.1 262 0 = D 1 0 := hR.1.1
  have r1 : σ.1 262 1 = D 1 7 := hR.1.2.1
  have r2 : σ.1 262 2 = D 1 10 := hR.1.2.2.1
  have r3 : σ.1 262 3 = D 12 0 := hR.1.2.2.2
  have ex : x = ((x.toNat : Nat) : Int) := by omega
  refine zx_aloadN dX10_tellsClue_0 rfl rfl ?_
  refine zx_aloadN dX10_tellsClue_1 rfl rfl ?_
  refine zx_iloadN dX10_tellsClue_2 rfl rfl ?_
  refine zy_cv [zi x] (sX10_isClue (D := D) hfl hz (by first | assumption | omega) (by first | assumption | (refine Rel_put (by decide) ?_; assumption) | (refine Rel_put (by decide) (Rel_put (by decide) ?_); assumption) | (refine Rel_put (by decide) (Rel_put (by decide) (Rel_put (by decide) ?_)); assumption)) (by first | exact hz _ _ | assumption | exact zr_b _ | exact zcmp_r _ _ | (unfold zr at *; omega))) dX10_tellsClue_3 (by decide) rfl cw_RX10_205 okX10_isClue rfl (Nat.le_of_ble_eq_true rfl) ⟨Nat.le_of_ble_eq_true rfl, Nat.le_of_ble_eq_true rfl, Nat.le_of_ble_eq_true rfl, Nat.le_of_ble_eq_true rfl⟩ ?_
  refine zy_cv [zi (zb (0 ≤ x ∧ x < D 12 0))] (sX10_passes (A := (0 ≤ x ∧ x < D 12 0)) hfl hz ) dX10_tellsClue_6 (by decide) rfl cw_RX10_220 okX10_passes rfl (Nat.le_of_ble_eq_true rfl) ⟨Nat.le_of_ble_eq_true rfl, Nat.le_of_ble_eq_true rfl, Nat.le_of_ble_eq_true rfl, Nat.le_of_ble_eq_true rfl⟩ ?_
  refine zx_if_eq (tgt := 21) (by first | exact hz _ _ | assumption | exact zr_b _ | exact zcmp_r _ _ | (unfold zr at *; omega)) dX10_tellsClue_9 (by decide) (fun h9 => ?_) (fun h9 => ?_)
  · have h9 := zb_0.mp h9
    exact absurd hw0 (by assumption)
  · have h9 := zb_n.mp h9
    refine zx_aloadN dX10_tellsClue_12 rfl rfl ?_
    refine zx_iloadN dX10_tellsClue_13 rfl rfl ?_
    refine zy_top (b := ((x.toNat : Nat) : Int)) (ex) ?_
    refine zx_iloadN dX10_tellsClue_14 rfl rfl ?_
    refine zy_top (b := ((o : Nat) : Int)) (rfl) ?_
    refine zy_cv [zi ((x.toNat : Nat) : Int), zi ((o : Nat) : Int)] (sX10_of (D := D) (c := x.toNat) (o := o) hfl (zOK_put hz (zr_b _)) (by first | assumption | omega) (by first | assumption | (refine Rel_put (by decide) ?_; assumption) | (refine Rel_put (by decide) (Rel_put (by decide) ?_); assumption) | (refine Rel_put (by decide) (Rel_put (by decide) (Rel_put (by decide) ?_)); assumption)) (by first | assumption | omega) (by first | assumption | omega)) dX10_tellsClue_15 (by decide) rfl cw_RX10_102 okX10_of rfl (Nat.le_of_ble_eq_true rfl) ⟨Nat.le_of_ble_eq_true rfl, Nat.le_of_ble_eq_true rfl, Nat.le_of_ble_eq_true rfl, Nat.le_of_ble_eq_true rfl⟩ ?_
    refine zx_goto (tgt := 22) dX10_tellsClue_18 (by decide) ?_
    refine zx_iret rfl rfl dX10_tellsClue_22 ?_
    rw [hQ]
    refine ⟨congrArg (fun z : Int => (Sum.inl (some (zi z)) : Option zV ⊕ String)) ?_, ?_⟩
    · rfl
    exact ⟨(zOK_put hz (zr_b _)), QP_th hR, (zput_s _ _ _ _).trans (zb_f (fun q => q hw0))⟩
set_option maxRecDepth 20000 in
set_option maxHeartbeats 2000000 in
theorem sX10_kindOf_t1 {l : Launch} {w : zW} (hfl : l.stackTraces = false) {σ : zS} {D : zBk} {x : Int} (hz : zOK σ) (hW : WF D) (hR : Rel D (σ.1 262)) (hx : zr x) (hw0 : ¬ (0 ≤ x ∧ x < D 12 0)) : Sp l w mX10_kindOf 3 0 [zf 10 261, zi x] σ (zqv (some (zi 0)) (fun τ => zOK τ ∧ QP D σ τ ∧ τ.1 261 6 = 1)) := by
  obtain ⟨Q, hQ⟩ : ∃ Q : zQ, Q = (zqv (some (zi 0)) (fun τ => zOK τ ∧ QP D σ τ ∧ τ.1 261 6 = 1)) := ⟨_, rfl⟩
  rw [← hQ]
  refine zx_enter hfl (by decide) rfl 0 rfl ?_
  show zX l w mX10_kindOf (zMQ w 3 0 Q) 0 [zf 10 261, zi x] [] 0 σ
  have hP : 0 ≤ D 1 0 ∧ D 1 0 ≤ 8 := hW.1.1
  have hM : 0 ≤ D 1 7 ∧ D 1 7 ≤ 8 := hW.1.2.1
  have hE : 0 ≤ D 1 10 ∧ D 1 10 ≤ 12 := hW.1.2.2.1
  have hK : 0 ≤ D 12 0 ∧ D 12 0 ≤ 40 := hW.1.2.2.2
  have r0 : σ.1 262 0 = D 1 0 := hR.1.1
  have r1 : σ.1 262 1 = D 1 7 := hR.1.2.1
  have r2 : σ.1 262 2 = D 1 10 := hR.1.2.2.1
  have r3 : σ.1 262 3 = D 12 0 := hR.1.2.2.2
  refine zx_aloadN dX10_kindOf_0 rfl rfl ?_
  refine zx_iloadN dX10_kindOf_1 rfl rfl ?_
  refine zx_iconst dX10_kindOf_2 ?_
  refine zy_cvR [zi x, zi 1] (sX10_tellsClue_t1 (D := D) (o := 1) hfl hz (by first | assumption | omega) (by first | assumption | (refine Rel_put (by decide) ?_; assumption) | (refine Rel_put (by decide) (Rel_put (by decide) ?_); assumption) | (refine Rel_put (by decide) (Rel_put (by decide) (Rel_put (by decide) ?_)); assumption)) (by first | exact hz _ _ | assumption | exact zr_b _ | exact zcmp_r _ _ | (unfold zr at *; omega)) (by first | assumption | omega) (by first | assumption | omega)) dX10_kindOf_3 (by decide) rfl cw_RX10_410 okX10_tellsClue rfl (Nat.le_of_ble_eq_true rfl) ⟨Nat.le_of_ble_eq_true rfl, Nat.le_of_ble_eq_true rfl, Nat.le_of_ble_eq_true rfl, Nat.le_of_ble_eq_true rfl⟩ (fun τ3 hr3 => ?_)
  have hz3 : zOK τ3 := hr3.1
  refine zx_iret rfl rfl dX10_kindOf_6 ?_
  rw [hQ]
  refine ⟨congrArg (fun z : Int => (Sum.inl (some (zi z)) : Option zV ⊕ String)) ?_, ?_⟩
  · rfl
  exact hr3
set_option maxRecDepth 20000 in
set_option maxHeartbeats 2000000 in
theorem sX10_kindOf {l : Launch} {w : zW} (hfl : l.stackTraces = false) {σ : zS} {D : zBk} {x : Int} (hz : zOK σ) (hW : WF D) (hR : Rel D (σ.1 262)) (hx : zr x) (hw0 : 0 ≤ x ∧ x < D 12 0) : Sp l w mX10_kindOf 3 0 [zf 10 261, zi x] σ (zqv (some (zi (D 14 x.toNat))) (fun τ => zOK τ ∧ QP D σ τ ∧ τ.1 261 6 = 0)) := by
  obtain ⟨Q, hQ⟩ : ∃ Q : zQ, Q = (zqv (some (zi (D 14 x.toNat))) (fun τ => zOK τ ∧ QP D σ τ ∧ τ.1 261 6 = 0)) := ⟨_, rfl⟩
  rw [← hQ]
  refine zx_enter hfl (by decide) rfl 0 rfl ?_
  show zX l w mX10_kindOf (zMQ w 3 0 Q) 0 [zf 10 261, zi x] [] 0 σ
  have hP : 0 ≤ D 1 0 ∧ D 1 0 ≤ 8 := hW.1.1
  have hM : 0 ≤ D 1 7 ∧ D 1 7 ≤ 8 := hW.1.2.1
  have hE : 0 ≤ D 1 10 ∧ D 1 10 ≤ 12 := hW.1.2.2.1
  have hK : 0 ≤ D 12 0 ∧ D 12 0 ≤ 40 := hW.1.2.2.2
  have r0 : σ.1 262 0 = D 1 0 := hR.1.1
  have r1 : σ.1 262 1 = D 1 7 := hR.1.2.1
  have r2 : σ.1 262 2 = D 1 10 := hR.1.2.2.1
  have r3 : σ.1 262 3 = D 12 0 := hR.1.2.2.2
  refine zx_aloadN dX10_kindOf_0 rfl rfl ?_
  refine zx_iloadN dX10_kindOf_1 rfl rfl ?_
  refine zx_iconst dX10_kindOf_2 ?_
  refine zy_cvR [zi x, zi 1] (sX10_tellsClue (D := D) (o := 1) hfl hz (by first | assumption | omega) (by first | assumption | (refine Rel_put (by decide) ?_; assumption) | (refine Rel_put (by decide) (Rel_put (by decide) ?_); assumption) | (refine Rel_put (by decide) (Rel_put (by decide) (Rel_put (by decide) ?_)); assumption)) (by first | exact hz _ _ | assumption | exact zr_b _ | exact zcmp_r _ _ | (unfold zr at *; omega)) (by first | assumption | omega) (by first | assumption | omega)) dX10_kindOf_3 (by decide) rfl cw_RX10_410 okX10_tellsClue rfl (Nat.le_of_ble_eq_true rfl) ⟨Nat.le_of_ble_eq_true rfl, Nat.le_of_ble_eq_true rfl, Nat.le_of_ble_eq_true rfl, Nat.le_of_ble_eq_true rfl⟩ (fun τ3 hr3 => ?_)
  refine zy_top (b := D 14 x.toNat) rfl ?_
  have hz3 : zOK τ3 := hr3.1
  refine zx_iret rfl rfl dX10_kindOf_6 ?_
  rw [hQ]
  refine ⟨congrArg (fun z : Int => (Sum.inl (some (zi z)) : Option zV ⊕ String)) ?_, ?_⟩
  · rfl
  exact hr3
set_option maxRecDepth 20000 in
set_option maxHeartbeats 2000000 in
theorem sX10_valueOf_t1 {l : Launch} {w : zW} (hfl : l.stackTraces = false) {σ : zS} {D : zBk} {x : Int} (hz : zOK σ) (hW : WF D) (hR : Rel D (σ.1 262)) (hx : zr x) (hw0 : ¬ (0 ≤ x ∧ x < D 12 0)) : Sp l w mX10_valueOf 3 0 [zf 10 261, zi x] σ (zqv (some (zi 0)) (fun τ => zOK τ ∧ QP D σ τ ∧ τ.1 261 6 = 1)) := by
  obtain ⟨Q, hQ⟩ : ∃ Q : zQ, Q = (zqv (some (zi 0)) (fun τ => zOK τ ∧ QP D σ τ ∧ τ.1 261 6 = 1)) := ⟨_, rfl⟩
  rw [← hQ]
  refine zx_enter hfl (by decide) rfl 0 rfl ?_
  show zX l w mX10_valueOf (zMQ w 3 0 Q) 0 [zf 10 261, zi x] [] 0 σ
  have hP : 0 ≤ D 1 0 ∧ D 1 0 ≤ 8 := hW.1.1
  have hM : 0 ≤ D 1 7 ∧ D 1 7 ≤ 8 := hW.1.2.1
  have hE : 0 ≤ D 1 10 ∧ D 1 10 ≤ 12 := hW.1.2.2.1
  have hK : 0 ≤ D 12 0 ∧ D 12 0 ≤ 40 := hW.1.2.2.2
  have r0 : σ.1 262 0 = D 1 0 := hR.1.1
  have r1 : σ.1 262 1 = D 1 7 := hR.1.2.1
  have r2 : σ.1 262 2 = D 1 10 := hR.1.2.2.1
  have r3 : σ.1 262 3 = D 12 0 := hR.1.2.2.2
  refine zx_aloadN dX10_valueOf_0 rfl rfl ?_
  refine zx_iloadN dX10_valueOf_1 rfl rfl ?_
  refine zx_iconst dX10_valueOf_2 ?_
  refine zy_cvR [zi x, zi 2] (sX10_tellsClue_t1 (D := D) (o := 2) hfl hz (by first | assumption | omega) (by first | assumption | (refine Rel_put (by decide) ?_; assumption) | (refine Rel_put (by decide) (Rel_put (by decide) ?_); assumption) | (refine Rel_put (by decide) (Rel_put (by decide) (Rel_put (by decide) ?_)); assumption)) (by first | exact hz _ _ | assumption | exact zr_b _ | exact zcmp_r _ _ | (unfold zr at *; omega)) (by first | assumption | omega) (by first | assumption | omega)) dX10_valueOf_3 (by decide) rfl cw_RX10_410 okX10_tellsClue rfl (Nat.le_of_ble_eq_true rfl) ⟨Nat.le_of_ble_eq_true rfl, Nat.le_of_ble_eq_true rfl, Nat.le_of_ble_eq_true rfl, Nat.le_of_ble_eq_true rfl⟩ (fun τ3 hr3 => ?_)
  have hz3 : zOK τ3 := hr3.1
  refine zx_iret rfl rfl dX10_valueOf_6 ?_
  rw [hQ]
  refine ⟨congrArg (fun z : Int => (Sum.inl (some (zi z)) : Option zV ⊕ String)) ?_, ?_⟩
  · rfl
  exact hr3
set_option maxRecDepth 20000 in
set_option maxHeartbeats 2000000 in
theorem sX10_valueOf {l : Launch} {w : zW} (hfl : l.stackTraces = false) {σ : zS} {D : zBk} {x : Int} (hz : zOK σ) (hW : WF D) (hR : Rel D (σ.1 262)) (hx : zr x) (hw0 : 0 ≤ x ∧ x < D 12 0) : Sp l w mX10_valueOf 3 0 [zf 10 261, zi x] σ (zqv (some (zi (D 15 x.toNat))) (fun τ => zOK τ ∧ QP D σ τ ∧ τ.1 261 6 = 0)) := by
  obtain ⟨Q, hQ⟩ : ∃ Q : zQ, Q = (zqv (some (zi (D 15 x.toNat))) (fun τ => zOK τ ∧ QP D σ τ ∧ τ.1 261 6 = 0)) := ⟨_, rfl⟩
  rw [← hQ]
  refine zx_enter hfl (by decide) rfl 0 rfl ?_
  show zX l w mX10_valueOf (zMQ w 3 0 Q) 0 [zf 10 261, zi x] [] 0 σ
  have hP : 0 ≤ D 1 0 ∧ D 1 0 ≤ 8 := hW.1.1
  have hM : 0 ≤ D 1 7 ∧ D 1 7 ≤ 8 := hW.1.2.1
  have hE : 0 ≤ D 1 10 ∧ D 1 10 ≤ 12 := hW.1.2.2.1
  have hK : 0 ≤ D 12 0 ∧ D 12 0 ≤ 40 := hW.1.2.2.2
  have r0 : σ.1 262 0 = D 1 0 := hR.1.1
  have r1 : σ.1 262 1 = D 1 7 := hR.1.2.1
  have r2 : σ.1 262 2 = D 1 10 := hR.1.2.2.1
  have r3 : σ.1 262 3 = D 12 0 := hR.1.2.2.2
  refine zx_aloadN dX10_valueOf_0 rfl rfl ?_
  refine zx_iloadN dX10_valueOf_1 rfl rfl ?_
  refine zx_iconst dX10_valueOf_2 ?_
  refine zy_cvR [zi x, zi 2] (sX10_tellsClue (D := D) (o := 2) hfl hz (by first | assumption | omega) (by first | assumption | (refine Rel_put (by decide) ?_; assumption) | (refine Rel_put (by decide) (Rel_put (by decide) ?_); assumption) | (refine Rel_put (by decide) (Rel_put (by decide) (Rel_put (by decide) ?_)); assumption)) (by first | exact hz _ _ | assumption | exact zr_b _ | exact zcmp_r _ _ | (unfold zr at *; omega)) (by first | assumption | omega) (by first | assumption | omega)) dX10_valueOf_3 (by decide) rfl cw_RX10_410 okX10_tellsClue rfl (Nat.le_of_ble_eq_true rfl) ⟨Nat.le_of_ble_eq_true rfl, Nat.le_of_ble_eq_true rfl, Nat.le_of_ble_eq_true rfl, Nat.le_of_ble_eq_true rfl⟩ (fun τ3 hr3 => ?_)
  refine zy_top (b := D 15 x.toNat) rfl ?_
  have hz3 : zOK τ3 := hr3.1
  refine zx_iret rfl rfl dX10_valueOf_6 ?_
  rw [hQ]
  refine ⟨congrArg (fun z : Int => (Sum.inl (some (zi z)) : Option zV ⊕ String)) ?_, ?_⟩
  · rfl
  exact hr3
set_option maxRecDepth 20000 in
set_option maxHeartbeats 2000000 in
theorem sX10_pageOf_t1 {l : Launch} {w : zW} (hfl : l.stackTraces = false) {σ : zS} {D : zBk} {x : Int} (hz : zOK σ) (hW : WF D) (hR : Rel D (σ.1 262)) (hx : zr x) (hw0 : ¬ (0 ≤ x ∧ x < D 12 0)) : Sp l w mX10_pageOf 3 0 [zf 10 261, zi x] σ (zqv (some (zi 0)) (fun τ => zOK τ ∧ QP D σ τ ∧ τ.1 261 6 = 1)) := by
  obtain ⟨Q, hQ⟩ : ∃ Q : zQ, Q = (zqv (some (zi 0)) (fun τ => zOK τ ∧ QP D σ τ ∧ τ.1 261 6 = 1)) := ⟨_, rfl⟩
  rw [← hQ]
  refine zx_enter hfl (by decide) rfl 0 rfl ?_
  show zX l w mX10_pageOf (zMQ w 3 0 Q) 0 [zf 10 261, zi x] [] 0 σ
  have hP : 0 ≤ D 1 0 ∧ D 1 0 ≤ 8 := hW.1.1
  have hM : 0 ≤ D 1 7 ∧ D 1 7 ≤ 8 := hW.1.2.1
  have hE : 0 ≤ D 1 10 ∧ D 1 10 ≤ 12 := hW.1.2.2.1
  have hK : 0 ≤ D 12 0 ∧ D 12 0 ≤ 40 := hW.1.2.2.2
  have r0 : σ.1 262 0 = D 1 0 := hR.1.1
  have r1 : σ.1 262 1 = D 1 7 := hR.1.2.1
  have r2 : σ.1 262 2 = D 1 10 := hR.1.2.2.1
  have r3 : σ.1 262 3 = D 12 0 := hR.1.2.2.2
  refine zx_aloadN dX10_pageOf_0 rfl rfl ?_
  refine zx_iloadN dX10_pageOf_1 rfl rfl ?_
  refine zx_iconst dX10_pageOf_2 ?_
  refine zy_cvR [zi x, zi 0] (sX10_tellsClue_t1 (D := D) (o := 0) hfl hz (by first | assumption | omega) (by first | assumption | (refine Rel_put (by decide) ?_; assumption) | (refine Rel_put (by decide) (Rel_put (by decide) ?_); assumption) | (refine Rel_put (by decide) (Rel_put (by decide) (Rel_put (by decide) ?_)); assumption)) (by first | exact hz _ _ | assumption | exact zr_b _ | exact zcmp_r _ _ | (unfold zr at *; omega)) (by first | assumption | omega) (by first | assumption | omega)) dX10_pageOf_3 (by decide) rfl cw_RX10_410 okX10_tellsClue rfl (Nat.le_of_ble_eq_true rfl) ⟨Nat.le_of_ble_eq_true rfl, Nat.le_of_ble_eq_true rfl, Nat.le_of_ble_eq_true rfl, Nat.le_of_ble_eq_true rfl⟩ (fun τ3 hr3 => ?_)
  have hz3 : zOK τ3 := hr3.1
  refine zx_iret rfl rfl dX10_pageOf_6 ?_
  rw [hQ]
  refine ⟨congrArg (fun z : Int => (Sum.inl (some (zi z)) : Option zV ⊕ String)) ?_, ?_⟩
  · rfl
  exact hr3
set_option maxRecDepth 20000 in
set_option maxHeartbeats 2000000 in
theorem sX10_pageOf {l : Launch} {w : zW} (hfl : l.stackTraces = false) {σ : zS} {D : zBk} {x : Int} (hz : zOK σ) (hW : WF D) (hR : Rel D (σ.1 262)) (hx : zr x) (hw0 : 0 ≤ x ∧ x < D 12 0) : Sp l w mX10_pageOf 3 0 [zf 10 261, zi x] σ (zqv (some (zi (D 13 x.toNat))) (fun τ => zOK τ ∧ QP D σ τ ∧ τ.1 261 6 = 0)) := by
  obtain ⟨Q, hQ⟩ : ∃ Q : zQ, Q = (zqv (some (zi (D 13 x.toNat))) (fun τ => zOK τ ∧ QP D σ τ ∧ τ.1 261 6 = 0)) := ⟨_, rfl⟩
  rw [← hQ]
  refine zx_enter hfl (by decide) rfl 0 rfl ?_
  show zX l w mX10_pageOf (zMQ w 3 0 Q) 0 [zf 10 261, zi x] [] 0 σ
  have hP : 0 ≤ D 1 0 ∧ D 1 0 ≤ 8 := hW.1.1
  have hM : 0 ≤ D 1 7 ∧ D 1 7 ≤ 8 := hW.1.2.1
  have hE : 0 ≤ D 1 10 ∧ D 1 10 ≤ 12 := hW.1.2.2.1
  have hK : 0 ≤ D 12 0 ∧ D 12 0 ≤ 40 := hW.1.2.2.2
  have r0 : σ.1 262 0 = D 1 0 := hR.1.1
  have r1 : σ.1 262 1 = D 1 7 := hR.1.2.1
  have r2 : σ.1 262 2 = D 1 10 := hR.1.2.2.1
  have r3 : σ.1 262 3 = D 12 0 := hR.1.2.2.2
  refine zx_aloadN dX10_pageOf_0 rfl rfl ?_
  refine zx_iloadN dX10_pageOf_1 rfl rfl ?_
  refine zx_iconst dX10_pageOf_2 ?_
  refine zy_cvR [zi x, zi 0] (sX10_tellsClue (D := D) (o := 0) hfl hz (by first | assumption | omega) (by first | assumption | (refine Rel_put (by decide) ?_; assumption) | (refine Rel_put (by decide) (Rel_put (by decide) ?_); assumption) | (refine Rel_put (by decide) (Rel_put (by decide) (Rel_put (by decide) ?_)); assumption)) (by first | exact hz _ _ | assumption | exact zr_b _ | exact zcmp_r _ _ | (unfold zr at *; omega)) (by first | assumption | omega) (by first | assumption | omega)) dX10_pageOf_3 (by decide) rfl cw_RX10_410 okX10_tellsClue rfl (Nat.le_of_ble_eq_true rfl) ⟨Nat.le_of_ble_eq_true rfl, Nat.le_of_ble_eq_true rfl, Nat.le_of_ble_eq_true rfl, Nat.le_of_ble_eq_true rfl⟩ (fun τ3 hr3 => ?_)
  refine zy_top (b := D 13 x.toNat) rfl ?_
  have hz3 : zOK τ3 := hr3.1
  refine zx_iret rfl rfl dX10_pageOf_6 ?_
  rw [hQ]
  refine ⟨congrArg (fun z : Int => (Sum.inl (some (zi z)) : Option zV ⊕ String)) ?_, ?_⟩
  · rfl
  exact hr3
set_option maxRecDepth 20000 in
set_option maxHeartbeats 2000000 in
theorem sX10_weightOf_t1 {l : Launch} {w : zW} (hfl : l.stackTraces = false) {σ : zS} {D : zBk} {x : Int} (hz : zOK σ) (hW : WF D) (hR : Rel D (σ.1 262)) (hx : zr x) (hw0 : ¬ (0 ≤ x ∧ x < D 12 0)) : Sp l w mX10_weightOf 3 0 [zf 10 261, zi x] σ (zqv (some (zi 0)) (fun τ => zOK τ ∧ QP D σ τ ∧ τ.1 261 6 = 1)) := by
  obtain ⟨Q, hQ⟩ : ∃ Q : zQ, Q = (zqv (some (zi 0)) (fun τ => zOK τ ∧ QP D σ τ ∧ τ.1 261 6 = 1)) := ⟨_, rfl⟩
  rw [← hQ]
  refine zx_enter hfl (by decide) rfl 0 rfl ?_
  show zX l w mX10_weightOf (zMQ w 3 0 Q) 0 [zf 10 261, zi x] [] 0 σ
  have hP : 0 ≤ D 1 0 ∧ D 1 0 ≤ 8 := hW.1.1
  have hM : 0 ≤ D 1 7 ∧ D 1 7 ≤ 8 := hW.1.2.1
  have hE : 0 ≤ D 1 10 ∧ D 1 10 ≤ 12 := hW.1.2.2.1
  have hK : 0 ≤ D 12 0 ∧ D 12 0 ≤ 40 := hW.1.2.2.2
  have r0 : σ.1 262 0 = D 1 0 := hR.1.1
  have r1 : σ.1 262 1 = D 1 7 := hR.1.2.1
  have r2 : σ.1 262 2 = D 1 10 := hR.1.2.2.1
  have r3 : σ.1 262 3 = D 12 0 := hR.1.2.2.2
  refine zx_aloadN dX10_weightOf_0 rfl rfl ?_
  refine zx_iloadN dX10_weightOf_1 rfl rfl ?_
  refine zx_iconst dX10_weightOf_2 ?_
  refine zy_cvR [zi x, zi 3] (sX10_tellsClue_t1 (D := D) (o := 3) hfl hz (by first | assumption | omega) (by first | assumption | (refine Rel_put (by decide) ?_; assumption) | (refine Rel_put (by decide) (Rel_put (by decide) ?_); assumption) | (refine Rel_put (by decide) (Rel_put (by decide) (Rel_put (by decide) ?_)); assumption)) (by first | exact hz _ _ | assumption | exact zr_b _ | exact zcmp_r _ _ | (unfold zr at *; omega)) (by first | assumption | omega) (by first | assumption | omega)) dX10_weightOf_3 (by decide) rfl cw_RX10_410 okX10_tellsClue rfl (Nat.le_of_ble_eq_true rfl) ⟨Nat.le_of_ble_eq_true rfl, Nat.le_of_ble_eq_true rfl, Nat.le_of_ble_eq_true rfl, Nat.le_of_ble_eq_true rfl⟩ (fun τ3 hr3 => ?_)
  have hz3 : zOK τ3 := hr3.1
  refine zx_iret rfl rfl dX10_weightOf_6 ?_
  rw [hQ]
  refine ⟨congrArg (fun z : Int => (Sum.inl (some (zi z)) : Option zV ⊕ String)) ?_, ?_⟩
  · rfl
  exact hr3
set_option maxRecDepth 20000 in
set_option maxHeartbeats 2000000 in
theorem sX10_weightOf {l : Launch} {w : zW} (hfl : l.stackTraces = false) {σ : zS} {D : zBk} {x : Int} (hz : zOK σ) (hW : WF D) (hR : Rel D (σ.1 262)) (hx : zr x) (hw0 : 0 ≤ x ∧ x < D 12 0) : Sp l w mX10_weightOf 3 0 [zf 10 261, zi x] σ (zqv (some (zi (D 16 x.toNat))) (fun τ => zOK τ ∧ QP D σ τ ∧ τ.1 261 6 = 0)) := by
  obtain ⟨Q, hQ⟩ : ∃ Q : zQ, Q = (zqv (some (zi (D 16 x.toNat))) (fun τ => zOK τ ∧ QP D σ τ ∧ τ.1 261 6 = 0)) := ⟨_, rfl⟩
  rw [← hQ]
  refine zx_enter hfl (by decide) rfl 0 rfl ?_
  show zX l w mX10_weightOf (zMQ w 3 0 Q) 0 [zf 10 261, zi x] [] 0 σ
  have hP : 0 ≤ D 1 0 ∧ D 1 0 ≤ 8 := hW.1.1
  have hM : 0 ≤ D 1 7 ∧ D 1 7 ≤ 8 := hW.1.2.1
  have hE : 0 ≤ D 1 10 ∧ D 1 10 ≤ 12 := hW.1.2.2.1
  have hK : 0 ≤ D 12 0 ∧ D 12 0 ≤ 40 := hW.1.2.2.2
  have r0 : σ.1 262 0 = D 1 0 := hR.1.1
  have r1 : σ.1 262 1 = D 1 7 := hR.1.2.1
  have r2 : σ.1 262 2 = D 1 10 := hR.1.2.2.1
  have r3 : σ.1 262 3 = D 12 0 := hR.1.2.2.2
  refine zx_aloadN dX10_weightOf_0 rfl rfl ?_
  refine zx_iloadN dX10_weightOf_1 rfl rfl ?_
  refine zx_iconst dX10_weightOf_2 ?_
  refine zy_cvR [zi x, zi 3] (sX10_tellsClue (D := D) (o := 3) hfl hz (by first | assumption | omega) (by first | assumption | (refine Rel_put (by decide) ?_; assumption) | (refine Rel_put (by decide) (Rel_put (by decide) ?_); assumption) | (refine Rel_put (by decide) (Rel_put (by decide) (Rel_put (by decide) ?_)); assumption)) (by first | exact hz _ _ | assumption | exact zr_b _ | exact zcmp_r _ _ | (unfold zr at *; omega)) (by first | assumption | omega) (by first | assumption | omega)) dX10_weightOf_3 (by decide) rfl cw_RX10_410 okX10_tellsClue rfl (Nat.le_of_ble_eq_true rfl) ⟨Nat.le_of_ble_eq_true rfl, Nat.le_of_ble_eq_true rfl, Nat.le_of_ble_eq_true rfl, Nat.le_of_ble_eq_true rfl⟩ (fun τ3 hr3 => ?_)
  refine zy_top (b := D 16 x.toNat) rfl ?_
  have hz3 : zOK τ3 := hr3.1
  refine zx_iret rfl rfl dX10_weightOf_6 ?_
  rw [hQ]
  refine ⟨congrArg (fun z : Int => (Sum.inl (some (zi z)) : Option zV ⊕ String)) ?_, ?_⟩
  · rfl
  exact hr3
set_option maxRecDepth 20000 in
set_option maxHeartbeats 2000000 in
theorem sX10_isRead_t1 {l : Launch} {w : zW} (hfl : l.stackTraces = false) {σ : zS} {D : zBk} {x : Int} (hz : zOK σ) (hW : WF D) (hR : Rel D (σ.1 262)) (hx : zr x) (hw0 : ¬ (0 ≤ x ∧ x < D 12 0)) : Sp l w mX10_isRead 3 0 [zf 10 261, zi x] σ (zqv (some (zi 0)) (fun τ => zOK τ ∧ QP D σ τ ∧ τ.1 261 6 = 1)) := by
  obtain ⟨Q, hQ⟩ : ∃ Q : zQ, Q = (zqv (some (zi 0)) (fun τ => zOK τ ∧ QP D σ τ ∧ τ.1 261 6 = 1)) := ⟨_, rfl⟩
  rw [← hQ]
  refine zx_enter hfl (by decide) rfl 0 rfl ?_
  show zX l w mX10_isRead (zMQ w 3 0 Q) 0 [zf 10 261, zi x] [] 0 σ
  have hP : 0 ≤ D 1 0 ∧ D 1 0 ≤ 8 := hW.1.1
  have hM : 0 ≤ D 1 7 ∧ D 1 7 ≤ 8 := hW.1.2.1
  have hE : 0 ≤ D 1 10 ∧ D 1 10 ≤ 12 := hW.1.2.2.1
  have hK : 0 ≤ D 12 0 ∧ D 12 0 ≤ 40 := hW.1.2.2.2
  have r0 : σ.1 262 0 = D 1 0 := hR.1.1
  have r1 : σ.1 262 1 = D 1 7 := hR.1.2.1
  have r2 : σ.1 262 2 = D 1 10 := hR.1.2.2.1
  have r3 : σ.1 262 3 = D 12 0 := hR.1.2.2.2
  refine zx_aloadN dX10_isRead_0 rfl rfl ?_
  refine zx_iloadN dX10_isRead_1 rfl rfl ?_
  refine zx_iconst dX10_isRead_2 ?_
  refine zy_cvR [zi x, zi 4] (sX10_tellsClue_t1 (D := D) (o := 4) hfl hz (by first | assumption | omega) (by first | assumption | (refine Rel_put (by decide) ?_; assumption) | (refine Rel_put (by decide) (Rel_put (by decide) ?_); assumption) | (refine Rel_put (by decide) (Rel_put (by decide) (Rel_put (by decide) ?_)); assumption)) (by first | exact hz _ _ | assumption | exact zr_b _ | exact zcmp_r _ _ | (unfold zr at *; omega)) (by first | assumption | omega) (by first | assumption | omega)) dX10_isRead_3 (by decide) rfl cw_RX10_410 okX10_tellsClue rfl (Nat.le_of_ble_eq_true rfl) ⟨Nat.le_of_ble_eq_true rfl, Nat.le_of_ble_eq_true rfl, Nat.le_of_ble_eq_true rfl, Nat.le_of_ble_eq_true rfl⟩ (fun τ3 hr3 => ?_)
  have hz3 : zOK τ3 := hr3.1
  skip
  refine zx_iconst dX10_isRead_6 ?_
  refine zx_icmp_ne (tgt := 14) (by first | exact hz3 _ _ | assumption | exact zr_b _ | exact zcmp_r _ _ | (unfold zr at *; omega)) (by first | exact hz3 _ _ | assumption | exact zr_b _ | exact zcmp_r _ _ | (unfold zr at *; omega)) dX10_isRead_7 (by decide) (fun h7 => ?_) (fun h7 => ?_)
  · refine zx_iconst dX10_isRead_14 ?_
    refine zx_iret rfl rfl dX10_isRead_15 ?_
    rw [hQ]
    refine ⟨congrArg (fun z : Int => (Sum.inl (some (zi z)) : Option zV ⊕ String)) ?_, ?_⟩
    · first | rfl | omega
    exact hr3
  · exact absurd h7 (by decide)
set_option maxRecDepth 20000 in
set_option maxHeartbeats 2000000 in
theorem sX10_isRead {l : Launch} {w : zW} (hfl : l.stackTraces = false) {σ : zS} {D : zBk} {x : Int} (hz : zOK σ) (hW : WF D) (hR : Rel D (σ.1 262)) (hx : zr x) (hw0 : 0 ≤ x ∧ x < D 12 0) : Sp l w mX10_isRead 3 0 [zf 10 261, zi x] σ (zqv (some (zi (D 17 x.toNat))) (fun τ => zOK τ ∧ QP D σ τ ∧ τ.1 261 6 = 0)) := by
  obtain ⟨Q, hQ⟩ : ∃ Q : zQ, Q = (zqv (some (zi (D 17 x.toNat))) (fun τ => zOK τ ∧ QP D σ τ ∧ τ.1 261 6 = 0)) := ⟨_, rfl⟩
  rw [← hQ]
  refine zx_enter hfl (by decide) rfl 0 rfl ?_
  show zX l w mX10_isRead (zMQ w 3 0 Q) 0 [zf 10 261, zi x] [] 0 σ
  have hP : 0 ≤ D 1 0 ∧ D 1 0 ≤ 8 := hW.1.1
  have hM : 0 ≤ D 1 7 ∧ D 1 7 ≤ 8 := hW.1.2.1
  have hE : 0 ≤ D 1 10 ∧ D 1 10 ≤ 12 := hW.1.2.2.1
  have hK : 0 ≤ D 12 0 ∧ D 12 0 ≤ 40 := hW.1.2.2.2
  have r0 : σ.1 262 0 = D 1 0 := hR.1.1
  have r1 : σ.1 262 1 = D 1 7 := hR.1.2.1
  have r2 : σ.1 262 2 = D 1 10 := hR.1.2.2.1
  have r3 : σ.1 262 3 = D 12 0 := hR.1.2.2.2
  refine zx_aloadN dX10_isRead_0 rfl rfl ?_
  refine zx_iloadN dX10_isRead_1 rfl rfl ?_
  refine zx_iconst dX10_isRead_2 ?_
  refine zy_cvR [zi x, zi 4] (sX10_tellsClue (D := D) (o := 4) hfl hz (by first | assumption | omega) (by first | assumption | (refine Rel_put (by decide) ?_; assumption) | (refine Rel_put (by decide) (Rel_put (by decide) ?_); assumption) | (refine Rel_put (by decide) (Rel_put (by decide) (Rel_put (by decide) ?_)); assumption)) (by first | exact hz _ _ | assumption | exact zr_b _ | exact zcmp_r _ _ | (unfold zr at *; omega)) (by first | assumption | omega) (by first | assumption | omega)) dX10_isRead_3 (by decide) rfl cw_RX10_410 okX10_tellsClue rfl (Nat.le_of_ble_eq_true rfl) ⟨Nat.le_of_ble_eq_true rfl, Nat.le_of_ble_eq_true rfl, Nat.le_of_ble_eq_true rfl, Nat.le_of_ble_eq_true rfl⟩ (fun τ3 hr3 => ?_)
  refine zy_top (b := D 17 x.toNat) rfl ?_
  have hz3 : zOK τ3 := hr3.1
  have hb : zr (D 17 x.toNat) ∧ (D 17 x.toNat = 0 ∨ D 17 x.toNat = 1) := by have := (hW.2.2.2.2.1 x.toNat (by omega)).2.2.2; unfold zr; omega
  have hb1 := hb.1
  refine zx_iconst dX10_isRead_6 ?_
  refine zx_icmp_ne (tgt := 14) (by first | exact hz3 _ _ | assumption | exact zr_b _ | exact zcmp_r _ _ | (unfold zr at *; omega)) (by first | exact hz3 _ _ | assumption | exact zr_b _ | exact zcmp_r _ _ | (unfold zr at *; omega)) dX10_isRead_7 (by decide) (fun h7 => ?_) (fun h7 => ?_)
  · refine zx_iconst dX10_isRead_14 ?_
    refine zx_iret rfl rfl dX10_isRead_15 ?_
    rw [hQ]
    refine ⟨congrArg (fun z : Int => (Sum.inl (some (zi z)) : Option zV ⊕ String)) ?_, ?_⟩
    · first | rfl | omega
    exact hr3
  · refine zx_iconst dX10_isRead_10 ?_
    refine zx_goto (tgt := 15) dX10_isRead_11 (by decide) ?_
    refine zx_iret rfl rfl dX10_isRead_15 ?_
    rw [hQ]
    refine ⟨congrArg (fun z : Int => (Sum.inl (some (zi z)) : Option zV ⊕ String)) ?_, ?_⟩
    · first | rfl | omega
    exact hr3
set_option maxRecDepth 20000 in
set_option maxHeartbeats 2000000 in
theorem sX10_isAside_t1 {l : Launch} {w : zW} (hfl : l.stackTraces = false) {σ : zS} {D : zBk} {x : Int} (hz : zOK σ) (hW : WF D) (hR : Rel D (σ.1 262)) (hx : zr x) (hw0 : ¬ (0 ≤ x ∧ x < D 12 0)) : Sp l w mX10_isAside 3 0 [zf 10 261, zi x] σ (zqv (some (zi 0)) (fun τ => zOK τ ∧ QP D σ τ ∧ τ.1 261 6 = 1)) := by
  obtain ⟨Q, hQ⟩ : ∃ Q : zQ, Q = (zqv (some (zi 0)) (fun τ => zOK τ ∧ QP D σ τ ∧ τ.1 261 6 = 1)) := ⟨_, rfl⟩
  rw [← hQ]
  refine zx_enter hfl (by decide) rfl 0 rfl ?_
  show zX l w mX10_isAside (zMQ w 3 0 Q) 0 [zf 10 261, zi x] [] 0 σ
  have hP : 0 ≤ D 1 0 ∧ D 1 0 ≤ 8 := hW.1.1
  have hM : 0 ≤ D 1 7 ∧ D 1 7 ≤ 8 := hW.1.2.1
  have hE : 0 ≤ D 1 10 ∧ D 1 10 ≤ 12 := hW.1.2.2.1
  have hK : 0 ≤ D 12 0 ∧ D 12 0 ≤ 40 := hW.1.2.2.2
  have r0 : σ.1 262 0 = D 1 0 := hR.1.1
  have r1 : σ.1 262 1 = D 1 7 := hR.1.2.1
  have r2 : σ.1 262 2 = D 1 10 := hR.1.2.2.1
  have r3 : σ.1 262 3 = D 12 0 := hR.1.2.2.2
  refine zx_aloadN dX10_isAside_0 rfl rfl ?_
  refine zx_iloadN dX10_isAside_1 rfl rfl ?_
  refine zx_iconst dX10_isAside_2 ?_
  refine zy_cvR [zi x, zi 5] (sX10_tellsClue_t1 (D := D) (o := 5) hfl hz (by first | assumption | omega) (by first | assumption | (refine Rel_put (by decide) ?_; assumption) | (refine Rel_put (by decide) (Rel_put (by decide) ?_); assumption) | (refine Rel_put (by decide) (Rel_put (by decide) (Rel_put (by decide) ?_)); assumption)) (by first | exact hz _ _ | assumption | exact zr_b _ | exact zcmp_r _ _ | (unfold zr at *; omega)) (by first | assumption | omega) (by first | assumption | omega)) dX10_isAside_3 (by decide) rfl cw_RX10_410 okX10_tellsClue rfl (Nat.le_of_ble_eq_true rfl) ⟨Nat.le_of_ble_eq_true rfl, Nat.le_of_ble_eq_true rfl, Nat.le_of_ble_eq_true rfl, Nat.le_of_ble_eq_true rfl⟩ (fun τ3 hr3 => ?_)
  have hz3 : zOK τ3 := hr3.1
  skip
  refine zx_iconst dX10_isAside_6 ?_
  refine zx_icmp_ne (tgt := 14) (by first | exact hz3 _ _ | assumption | exact zr_b _ | exact zcmp_r _ _ | (unfold zr at *; omega)) (by first | exact hz3 _ _ | assumption | exact zr_b _ | exact zcmp_r _ _ | (unfold zr at *; omega)) dX10_isAside_7 (by decide) (fun h7 => ?_) (fun h7 => ?_)
  · refine zx_iconst dX10_isAside_14 ?_
    refine zx_iret rfl rfl dX10_isAside_15 ?_
    rw [hQ]
    refine ⟨congrArg (fun z : Int => (Sum.inl (some (zi z)) : Option zV ⊕ String)) ?_, ?_⟩
    · first | rfl | omega
    exact hr3
  · exact absurd h7 (by decide)
set_option maxRecDepth 20000 in
set_option maxHeartbeats 2000000 in
theorem sX10_isAside {l : Launch} {w : zW} (hfl : l.stackTraces = false) {σ : zS} {D : zBk} {x : Int} (hz : zOK σ) (hW : WF D) (hR : Rel D (σ.1 262)) (hx : zr x) (hw0 : 0 ≤ x ∧ x < D 12 0) : Sp l w mX10_isAside 3 0 [zf 10 261, zi x] σ (zqv (some (zi (D 18 x.toNat))) (fun τ => zOK τ ∧ QP D σ τ ∧ τ.1 261 6 = 0)) := by
  obtain ⟨Q, hQ⟩ : ∃ Q : zQ, Q = (zqv (some (zi (D 18 x.toNat))) (fun τ => zOK τ ∧ QP D σ τ ∧ τ.1 261 6 = 0)) := ⟨_, rfl⟩
  rw [← hQ]
  refine zx_enter hfl (by decide) rfl 0 rfl ?_
  show zX l w mX10_isAside (zMQ w 3 0 Q) 0 [zf 10 261, zi x] [] 0 σ
  have hP : 0 ≤ D 1 0 ∧ D 1 0 ≤ 8 := hW.1.1
  have hM : 0 ≤ D 1 7 ∧ D 1 7 ≤ 8 := hW.1.2.1
  have hE : 0 ≤ D 1 10 ∧ D 1 10 ≤ 12 := hW.1.2.2.1
  have hK : 0 ≤ D 12 0 ∧ D 12 0 ≤ 40 := hW.1.2.2.2
  have r0 : σ.1 262 0 = D 1 0 := hR.1.1
  have r1 : σ.1 262 1 = D 1 7 := hR.1.2.1
  have r2 : σ.1 262 2 = D 1 10 := hR.1.2.2.1
  have r3 : σ.1 262 3 = D 12 0 := hR.1.2.2.2
  refine zx_aloadN dX10_isAside_0 rfl rfl ?_
  refine zx_iloadN dX10_isAside_1 rfl rfl ?_
  refine zx_iconst dX10_isAside_2 ?_
  refine zy_cvR [zi x, zi 5] (sX10_tellsClue (D := D) (o := 5) hfl hz (by first | assumption | omega) (by first | assumption | (refine Rel_put (by decide) ?_; assumption) | (refine Rel_put (by decide) (Rel_put (by decide) ?_); assumption) | (refine Rel_put (by decide) (Rel_put (by decide) (Rel_put (by decide) ?_)); assumption)) (by first | exact hz _ _ | assumption | exact zr_b _ | exact zcmp_r _ _ | (unfold zr at *; omega)) (by first | assumption | omega) (by first | assumption | omega)) dX10_isAside_3 (by decide) rfl cw_RX10_410 okX10_tellsClue rfl (Nat.le_of_ble_eq_true rfl) ⟨Nat.le_of_ble_eq_true rfl, Nat.le_of_ble_eq_true rfl, Nat.le_of_ble_eq_true rfl, Nat.le_of_ble_eq_true rfl⟩ (fun τ3 hr3 => ?_)
  refine zy_top (b := D 18 x.toNat) rfl ?_
  have hz3 : zOK τ3 := hr3.1
  have hb : zr (D 18 x.toNat) ∧ (D 18 x.toNat = 0 ∨ D 18 x.toNat = 1) := by have := (hW.2.2.2.2.1 x.toNat (by omega)).2.2.2; unfold zr; omega
  have hb1 := hb.1
  refine zx_iconst dX10_isAside_6 ?_
  refine zx_icmp_ne (tgt := 14) (by first | exact hz3 _ _ | assumption | exact zr_b _ | exact zcmp_r _ _ | (unfold zr at *; omega)) (by first | exact hz3 _ _ | assumption | exact zr_b _ | exact zcmp_r _ _ | (unfold zr at *; omega)) dX10_isAside_7 (by decide) (fun h7 => ?_) (fun h7 => ?_)
  · refine zx_iconst dX10_isAside_14 ?_
    refine zx_iret rfl rfl dX10_isAside_15 ?_
    rw [hQ]
    refine ⟨congrArg (fun z : Int => (Sum.inl (some (zi z)) : Option zV ⊕ String)) ?_, ?_⟩
    · first | rfl | omega
    exact hr3
  · refine zx_iconst dX10_isAside_10 ?_
    refine zx_goto (tgt := 15) dX10_isAside_11 (by decide) ?_
    refine zx_iret rfl rfl dX10_isAside_15 ?_
    rw [hQ]
    refine ⟨congrArg (fun z : Int => (Sum.inl (some (zi z)) : Option zV ⊕ String)) ?_, ?_⟩
    · first | rfl | omega
    exact hr3
set_option maxRecDepth 20000 in
set_option maxHeartbeats 2000000 in
theorem sX10_clueInOrder {l : Launch} {w : zW} (hfl : l.stackTraces = false) {σ : zS} {D : zBk} {x : Int} (hz : zOK σ) (hW : WF D) (hR : Rel D (σ.1 262)) (hx : zr x) : Sp l w mX10_clueInOrder 3 0 [zf 10 261, zi x] σ (zqv (some (zi (if 0 ≤ x ∧ x < D 12 0 then D 19 x.toNat else -1))) (fun τ => zOK τ ∧ QP D σ τ ∧ τ.1 261 6 = 0)) := by
  obtain ⟨Q, hQ⟩ : ∃ Q : zQ, Q = (zqv (some (zi (if 0 ≤ x ∧ x < D 12 0 then D 19 x.toNat else -1))) (fun τ => zOK τ ∧ QP D σ τ ∧ τ.1 261 6 = 0)) := ⟨_, rfl⟩
  rw [← hQ]
  refine zx_enter hfl (by decide) rfl 0 rfl ?_
  show zX l w mX10_clueInOrder (zMQ w 3 0 Q) 0 [zf 10 261, zi x] [] 0 σ
  have hP : 0 ≤ D 1 0 ∧ D 1 0 ≤ 8 := hW.1.1
  have hM : 0 ≤ D 1 7 ∧ D 1 7 ≤ 8 := hW.1.2.1
  have hE : 0 ≤ D 1 10 ∧ D 1 10 ≤ 12 := hW.1.2.2.1
  have hK : 0 ≤ D 12 0 ∧ D 12 0 ≤ 40 := hW.1.2.2.2
  have r0 : σ.1 262 0 = D 1 0 := hR.1.1
  have r1 : σ.1 262 1 = D 1 7 := hR.1.2.1
  have r2 : σ.1 262 2 = D 1 10 := hR.1.2.2.1
  have r3 : σ.1 262 3 = D 12 0 := hR.1.2.2.2
  have ho : 0 ≤ x ∧ x < D 12 0 → 0 ≤ D 19 x.toNat ∧ D 19 x.toNat < D 12 0 := fun h => hW.2.2.2.2.2.1 x.toNat (by omega)
  have hzo : zr (if 0 ≤ x ∧ x < D 12 0 then D 19 x.toNat else -1) := by split <;> (unfold zr; omega)
  refine zx_aloadN dX10_clueInOrder_0 rfl rfl ?_
  refine zx_aloadN dX10_clueInOrder_1 rfl rfl ?_
  refine zx_iloadN dX10_clueInOrder_2 rfl rfl ?_
  refine zy_cv [zi x] (sX10_inOrder (D := D) hfl hz (by first | assumption | omega) (by first | assumption | (refine Rel_put (by decide) ?_; assumption) | (refine Rel_put (by decide) (Rel_put (by decide) ?_); assumption) | (refine Rel_put (by decide) (Rel_put (by decide) (Rel_put (by decide) ?_)); assumption)) (by first | exact hz _ _ | assumption | exact zr_b _ | exact zcmp_r _ _ | (unfold zr at *; omega))) dX10_clueInOrder_3 (by decide) rfl cw_RX10_413 okX10_inOrder rfl (Nat.le_of_ble_eq_true rfl) ⟨Nat.le_of_ble_eq_true rfl, Nat.le_of_ble_eq_true rfl, Nat.le_of_ble_eq_true rfl, Nat.le_of_ble_eq_true rfl⟩ ?_
  refine zy_cv [zi (if 0 ≤ x ∧ x < D 12 0 then D 19 x.toNat else -1)] (sX10_tells  hfl hz (by first | exact hz _ _ | assumption | exact zr_b _ | exact zcmp_r _ _ | (unfold zr at *; omega))) dX10_clueInOrder_6 (by decide) rfl cw_RX10_397 okX10_tells rfl (Nat.le_of_ble_eq_true rfl) ⟨Nat.le_of_ble_eq_true rfl, Nat.le_of_ble_eq_true rfl, Nat.le_of_ble_eq_true rfl, Nat.le_of_ble_eq_true rfl⟩ ?_
  refine zx_iret rfl rfl dX10_clueInOrder_9 ?_
  rw [hQ]
  refine ⟨congrArg (fun z : Int => (Sum.inl (some (zi z)) : Option zV ⊕ String)) ?_, ?_⟩
  · rfl
  exact ⟨(zOK_put hz (by unfold zr; omega)), QP_th hR, zput_s _ _ _ _⟩
set_option maxRecDepth 20000 in
set_option maxHeartbeats 2000000 in
theorem sX10_nextClue {l : Launch} {w : zW} (hfl : l.stackTraces = false) {σ : zS} {D : zBk}  (hz : zOK σ) (hW : WF D) (hR : Rel D (σ.1 262)) : Sp l w mX10_nextClue 3 0 [zf 10 261] σ (zqv (some (zi (nxU D))) (fun τ => zOK τ ∧ QP D σ τ ∧ τ.1 261 6 = 0)) := by
  obtain ⟨Q, hQ⟩ : ∃ Q : zQ, Q = (zqv (some (zi (nxU D))) (fun τ => zOK τ ∧ QP D σ τ ∧ τ.1 261 6 = 0)) := ⟨_, rfl⟩
  rw [← hQ]
  refine zx_enter hfl (by decide) rfl 0 rfl ?_
  show zX l w mX10_nextClue (zMQ w 3 0 Q) 0 [zf 10 261] [] 0 σ
  have hP : 0 ≤ D 1 0 ∧ D 1 0 ≤ 8 := hW.1.1
  have hM : 0 ≤ D 1 7 ∧ D 1 7 ≤ 8 := hW.1.2.1
  have hE : 0 ≤ D 1 10 ∧ D 1 10 ≤ 12 := hW.1.2.2.1
  have hK : 0 ≤ D 12 0 ∧ D 12 0 ≤ 40 := hW.1.2.2.2
  have r0 : σ.1 262 0 = D 1 0 := hR.1.1
  have r1 : σ.1 262 1 = D 1 7 := hR.1.2.1
  have r2 : σ.1 262 2 = D 1 10 := hR.1.2.2.1
  have r3 : σ.1 262 3 = D 12 0 := hR.1.2.2.2
  have hzn : zr (nxU D) := by
    rcases nxU_cases hW with ⟨h1, _⟩ | ⟨p, hp, h1, h2, _⟩ <;> rw [h1] <;> (unfold zr; omega)
  refine zx_aloadN dX10_nextClue_0 rfl rfl ?_
  refine zx_aloadN dX10_nextClue_1 rfl rfl ?_
  refine zy_cv [] (sX10_nextUnread (D := D) hfl hz (by first | assumption | omega) (by first | assumption | (refine Rel_put (by decide) ?_; assumption) | (refine Rel_put (by decide) (Rel_put (by decide) ?_); assumption) | (refine Rel_put (by decide) (Rel_put (by decide) (Rel_put (by decide) ?_)); assumption))) dX10_nextClue_2 (by decide) rfl cw_RX10_172 okX10_nextUnread rfl (Nat.le_of_ble_eq_true rfl) ⟨Nat.le_of_ble_eq_true rfl, Nat.le_of_ble_eq_true rfl, Nat.le_of_ble_eq_true rfl, Nat.le_of_ble_eq_true rfl⟩ ?_
  refine zy_cv [zi (nxU D)] (sX10_tells  hfl hz (by first | exact hz _ _ | assumption | exact zr_b _ | exact zcmp_r _ _ | (unfold zr at *; omega))) dX10_nextClue_5 (by decide) rfl cw_RX10_397 okX10_tells rfl (Nat.le_of_ble_eq_true rfl) ⟨Nat.le_of_ble_eq_true rfl, Nat.le_of_ble_eq_true rfl, Nat.le_of_ble_eq_true rfl, Nat.le_of_ble_eq_true rfl⟩ ?_
  refine zx_iret rfl rfl dX10_nextClue_8 ?_
  rw [hQ]
  refine ⟨congrArg (fun z : Int => (Sum.inl (some (zi z)) : Option zV ⊕ String)) ?_, ?_⟩
  · rfl
  exact ⟨(zOK_put hz (by unfold zr; omega)), QP_th hR, zput_s _ _ _ _⟩
set_option maxRecDepth 20000 in
set_option maxHeartbeats 2000000 in
theorem sX10_countingWeight {l : Launch} {w : zW} (hfl : l.stackTraces = false) {σ : zS} {D : zBk}  (hz : zOK σ) (hW : WF D) (hR : Rel D (σ.1 262)) : Sp l w mX10_countingWeight 3 0 [zf 10 261] σ (zqv (some (zi (cW D))) (fun τ => zOK τ ∧ QP D σ τ ∧ τ.1 261 6 = 0)) := by
  obtain ⟨Q, hQ⟩ : ∃ Q : zQ, Q = (zqv (some (zi (cW D))) (fun τ => zOK τ ∧ QP D σ τ ∧ τ.1 261 6 = 0)) := ⟨_, rfl⟩
  rw [← hQ]
  refine zx_enter hfl (by decide) rfl 0 rfl ?_
  show zX l w mX10_countingWeight (zMQ w 3 0 Q) 0 [zf 10 261] [] 0 σ
  have hP : 0 ≤ D 1 0 ∧ D 1 0 ≤ 8 := hW.1.1
  have hM : 0 ≤ D 1 7 ∧ D 1 7 ≤ 8 := hW.1.2.1
  have hE : 0 ≤ D 1 10 ∧ D 1 10 ≤ 12 := hW.1.2.2.1
  have hK : 0 ≤ D 12 0 ∧ D 12 0 ≤ 40 := hW.1.2.2.2
  have r0 : σ.1 262 0 = D 1 0 := hR.1.1
  have r1 : σ.1 262 1 = D 1 7 := hR.1.2.1
  have r2 : σ.1 262 2 = D 1 10 := hR.1.2.2.1
  have r3 : σ.1 262 3 = D 12 0 := hR.1.2.2.2
  have hcb := cW_b hW
  refine zx_aloadN dX10_countingWeight_0 rfl rfl ?_
  refine zx_aloadN dX10_countingWeight_1 rfl rfl ?_
  refine zy_cv [] (sX10_counted (D := D) hfl hz (by first | assumption | omega) (by first | assumption | (refine Rel_put (by decide) ?_; assumption) | (refine Rel_put (by decide) (Rel_put (by decide) ?_); assumption) | (refine Rel_put (by decide) (Rel_put (by decide) (Rel_put (by decide) ?_)); assumption))) dX10_countingWeight_2 (by decide) rfl cw_RX10_416 okX10_counted rfl (Nat.le_of_ble_eq_true rfl) ⟨Nat.le_of_ble_eq_true rfl, Nat.le_of_ble_eq_true rfl, Nat.le_of_ble_eq_true rfl, Nat.le_of_ble_eq_true rfl⟩ ?_
  refine zy_cv [zi (cW D)] (sX10_tells  hfl hz (by first | exact hz _ _ | assumption | exact zr_b _ | exact zcmp_r _ _ | (unfold zr at *; omega))) dX10_countingWeight_5 (by decide) rfl cw_RX10_397 okX10_tells rfl (Nat.le_of_ble_eq_true rfl) ⟨Nat.le_of_ble_eq_true rfl, Nat.le_of_ble_eq_true rfl, Nat.le_of_ble_eq_true rfl, Nat.le_of_ble_eq_true rfl⟩ ?_
  refine zx_iret rfl rfl dX10_countingWeight_8 ?_
  rw [hQ]
  refine ⟨congrArg (fun z : Int => (Sum.inl (some (zi z)) : Option zV ⊕ String)) ?_, ?_⟩
  · rfl
  exact ⟨(zOK_put hz (by unfold zr; omega)), QP_th hR, zput_s _ _ _ _⟩
set_option maxRecDepth 20000 in
set_option maxHeartbeats 2000000 in
theorem sX10_explains_t1 {l : Launch} {w : zW} (hfl : l.stackTraces = false) {σ : zS} {D : zBk} {x y u : Int} (hz : zOK σ) (hW : WF D) (hR : Rel D (σ.1 262)) (hx : zr x) (hy : zr y) (hu : zr u) (hw0 : ¬ ((0 ≤ x ∧ x < D 1 0) ∧ 0 ≤ u ∧ u < D 12 0)) : Sp l w mX10_explains 5 0 [zf 10 261, zi x, zi y, zi u] σ (zqv (some (zi 0)) (fun τ => zOK τ ∧ QP D σ τ ∧ τ.1 261 6 = 1)) := by
  obtain ⟨Q, hQ⟩ : ∃ Q : zQ, Q = (zqv (some (zi 0)) (fun τ => zOK τ ∧ QP D σ τ ∧ τ.1 261 6 = 1)) := ⟨_, rfl⟩
  rw [← hQ]
  refine zx_enter hfl (by decide) rfl 0 rfl ?_
  show zX l w mX10_explains (zMQ w 5 0 Q) 0 [zf 10 261, zi x, zi y, zi u] [] 0 σ
  have hP : 0 ≤ D 1 0 ∧ D 1 0 ≤ 8 := hW.1.1
  have hM : 0 ≤ D 1 7 ∧ D 1 7 ≤ 8 := hW.1.2.1
  have hE : 0 ≤ D 1 10 ∧ D 1 10 ≤ 12 := hW.1.2.2.1
  have hK : 0 ≤ D 12 0 ∧ D 12 0 ≤ 40 := hW.1.2.2.2
  have r0 : σ.1 262 0 = D 1 0 := hR.1.1
  have r1 : σ.1 262 1 = D 1 7 := hR.1.2.1
  have r2 : σ.1 262 2 = D 1 10 := hR.1.2.2.1
  have r3 : σ.1 262 3 = D 12 0 := hR.1.2.2.2
  refine zx_aloadN dX10_explains_0 rfl rfl ?_
  refine zx_aloadN dX10_explains_1 rfl rfl ?_
  refine zx_iloadN dX10_explains_2 rfl rfl ?_
  refine zy_cv [zi x] (sX10_isPrinter (D := D) hfl hz (by first | assumption | omega) (by first | assumption | (refine Rel_put (by decide) ?_; assumption) | (refine Rel_put (by decide) (Rel_put (by decide) ?_); assumption) | (refine Rel_put (by decide) (Rel_put (by decide) (Rel_put (by decide) ?_)); assumption)) (by first | exact hz _ _ | assumption | exact zr_b _ | exact zcmp_r _ _ | (unfold zr at *; omega))) dX10_explains_3 (by decide) rfl cw_RX10_400 okX10_isPrinter rfl (Nat.le_of_ble_eq_true rfl) ⟨Nat.le_of_ble_eq_true rfl, Nat.le_of_ble_eq_true rfl, Nat.le_of_ble_eq_true rfl, Nat.le_of_ble_eq_true rfl⟩ ?_
  refine zx_if_eq (tgt := 21) (by first | exact hz _ _ | assumption | exact zr_b _ | exact zcmp_r _ _ | (unfold zr at *; omega)) dX10_explains_6 (by decide) (fun h6 => ?_) (fun h6 => ?_)
  · have h6 := zb_0.mp h6
    refine zx_iconst dX10_explains_21 ?_
    refine zy_top (b := zb ((0 ≤ x ∧ x < D 1 0) ∧ 0 ≤ u ∧ u < D 12 0)) (by first | exact (zb_t (by exact ⟨by assumption, by assumption⟩)).symm | exact (zb_f (fun q => absurd q.1 (by assumption))).symm | exact (zb_f (fun q => absurd q.2 (by assumption))).symm) ?_
    refine zx_iloadN dX10_explains_22 rfl rfl ?_
    refine zy_cs [zi y] (sX10_isYear  hfl hz (by first | exact hz _ _ | assumption | exact zr_b _ | exact zcmp_r _ _ | (unfold zr at *; omega))) dX10_explains_23 cw_RX10_403 okX10_isYear rfl (Nat.le_of_ble_eq_true rfl) ⟨Nat.le_of_ble_eq_true rfl, Nat.le_of_ble_eq_true rfl, Nat.le_of_ble_eq_true rfl, Nat.le_of_ble_eq_true rfl⟩ ?_
    refine zy_cv [zi (zb ((0 ≤ x ∧ x < D 1 0) ∧ 0 ≤ u ∧ u < D 12 0)), zi (zb (1450 ≤ y ∧ y ≤ 1999))] (sX10_passesBoth (A := ((0 ≤ x ∧ x < D 1 0) ∧ 0 ≤ u ∧ u < D 12 0)) (B := (1450 ≤ y ∧ y ≤ 1999)) hfl hz ) dX10_explains_26 (by decide) rfl cw_RX10_406 okX10_passesBoth rfl (Nat.le_of_ble_eq_true rfl) ⟨Nat.le_of_ble_eq_true rfl, Nat.le_of_ble_eq_true rfl, Nat.le_of_ble_eq_true rfl, Nat.le_of_ble_eq_true rfl⟩ ?_
    refine zx_if_eq (tgt := 46) (by first | exact hz _ _ | assumption | exact zr_b _ | exact zcmp_r _ _ | (unfold zr at *; omega)) dX10_explains_29 (by decide) (fun h29 => ?_) (fun h29 => ?_)
    · have h29 := zb_0.mp h29
      refine zx_iconst dX10_explains_46 ?_
      refine zx_iret rfl rfl dX10_explains_47 ?_
      rw [hQ]
      refine ⟨congrArg (fun z : Int => (Sum.inl (some (zi z)) : Option zV ⊕ String)) ?_, ?_⟩
      · rfl
      exact ⟨(zOK_put hz (th2_r _ _)), QP_th hR, (zput_s _ _ _ _).trans (th2_1 hw0)⟩
    · have h29 := zb_n.mp h29
      first | exact absurd (by assumption) (fun q : ((0 ≤ x ∧ x < D 1 0) ∧ 0 ≤ u ∧ u < D 12 0) ∧ (1450 ≤ y ∧ y ≤ 1999) => hw0 q.1) | (exfalso; omega)
  · have h6 := zb_n.mp h6
    refine zx_aloadN dX10_explains_9 rfl rfl ?_
    refine zx_iloadN dX10_explains_10 rfl rfl ?_
    refine zy_cv [zi u] (sX10_isClue (D := D) hfl hz (by first | assumption | omega) (by first | assumption | (refine Rel_put (by decide) ?_; assumption) | (refine Rel_put (by decide) (Rel_put (by decide) ?_); assumption) | (refine Rel_put (by decide) (Rel_put (by decide) (Rel_put (by decide) ?_)); assumption)) (by first | exact hz _ _ | assumption | exact zr_b _ | exact zcmp_r _ _ | (unfold zr at *; omega))) dX10_explains_11 (by decide) rfl cw_RX10_205 okX10_isClue rfl (Nat.le_of_ble_eq_true rfl) ⟨Nat.le_of_ble_eq_true rfl, Nat.le_of_ble_eq_true rfl, Nat.le_of_ble_eq_true rfl, Nat.le_of_ble_eq_true rfl⟩ ?_
    refine zx_if_eq (tgt := 21) (by first | exact hz _ _ | assumption | exact zr_b _ | exact zcmp_r _ _ | (unfold zr at *; omega)) dX10_explains_14 (by decide) (fun h14 => ?_) (fun h14 => ?_)
    · have h14 := zb_0.mp h14
      refine zx_iconst dX10_explains_21 ?_
      refine zy_top (b := zb ((0 ≤ x ∧ x < D 1 0) ∧ 0 ≤ u ∧ u < D 12 0)) (by first | exact (zb_t (by exact ⟨by assumption, by assumption⟩)).symm | exact (zb_f (fun q => absurd q.1 (by assumption))).symm | exact (zb_f (fun q => absurd q.2 (by assumption))).symm) ?_
      refine zx_iloadN dX10_explains_22 rfl rfl ?_
      refine zy_cs [zi y] (sX10_isYear  hfl hz (by first | exact hz _ _ | assumption | exact zr_b _ | exact zcmp_r _ _ | (unfold zr at *; omega))) dX10_explains_23 cw_RX10_403 okX10_isYear rfl (Nat.le_of_ble_eq_true rfl) ⟨Nat.le_of_ble_eq_true rfl, Nat.le_of_ble_eq_true rfl, Nat.le_of_ble_eq_true rfl, Nat.le_of_ble_eq_true rfl⟩ ?_
      refine zy_cv [zi (zb ((0 ≤ x ∧ x < D 1 0) ∧ 0 ≤ u ∧ u < D 12 0)), zi (zb (1450 ≤ y ∧ y ≤ 1999))] (sX10_passesBoth (A := ((0 ≤ x ∧ x < D 1 0) ∧ 0 ≤ u ∧ u < D 12 0)) (B := (1450 ≤ y ∧ y ≤ 1999)) hfl hz ) dX10_explains_26 (by decide) rfl cw_RX10_406 okX10_passesBoth rfl (Nat.le_of_ble_eq_true rfl) ⟨Nat.le_of_ble_eq_true rfl, Nat.le_of_ble_eq_true rfl, Nat.le_of_ble_eq_true rfl, Nat.le_of_ble_eq_true rfl⟩ ?_
      refine zx_if_eq (tgt := 46) (by first | exact hz _ _ | assumption | exact zr_b _ | exact zcmp_r _ _ | (unfold zr at *; omega)) dX10_explains_29 (by decide) (fun h29 => ?_) (fun h29 => ?_)
      · have h29 := zb_0.mp h29
        refine zx_iconst dX10_explains_46 ?_
        refine zx_iret rfl rfl dX10_explains_47 ?_
        rw [hQ]
        refine ⟨congrArg (fun z : Int => (Sum.inl (some (zi z)) : Option zV ⊕ String)) ?_, ?_⟩
        · rfl
        exact ⟨(zOK_put hz (th2_r _ _)), QP_th hR, (zput_s _ _ _ _).trans (th2_1 hw0)⟩
      · have h29 := zb_n.mp h29
        first | exact absurd (by assumption) (fun q : ((0 ≤ x ∧ x < D 1 0) ∧ 0 ≤ u ∧ u < D 12 0) ∧ (1450 ≤ y ∧ y ≤ 1999) => hw0 q.1) | (exfalso; omega)
    · have h14 := zb_n.mp h14
      refine zx_iconst dX10_explains_17 ?_
      refine zx_goto (tgt := 22) dX10_explains_18 (by decide) ?_
      refine zy_top (b := zb ((0 ≤ x ∧ x < D 1 0) ∧ 0 ≤ u ∧ u < D 12 0)) (by first | exact (zb_t (by exact ⟨by assumption, by assumption⟩)).symm | exact (zb_f (fun q => absurd q.1 (by assumption))).symm | exact (zb_f (fun q => absurd q.2 (by assumption))).symm) ?_
      refine zx_iloadN dX10_explains_22 rfl rfl ?_
      refine zy_cs [zi y] (sX10_isYear  hfl hz (by first | exact hz _ _ | assumption | exact zr_b _ | exact zcmp_r _ _ | (unfold zr at *; omega))) dX10_explains_23 cw_RX10_403 okX10_isYear rfl (Nat.le_of_ble_eq_true rfl) ⟨Nat.le_of_ble_eq_true rfl, Nat.le_of_ble_eq_true rfl, Nat.le_of_ble_eq_true rfl, Nat.le_of_ble_eq_true rfl⟩ ?_
      refine zy_cv [zi (zb ((0 ≤ x ∧ x < D 1 0) ∧ 0 ≤ u ∧ u < D 12 0)), zi (zb (1450 ≤ y ∧ y ≤ 1999))] (sX10_passesBoth (A := ((0 ≤ x ∧ x < D 1 0) ∧ 0 ≤ u ∧ u < D 12 0)) (B := (1450 ≤ y ∧ y ≤ 1999)) hfl hz ) dX10_explains_26 (by decide) rfl cw_RX10_406 okX10_passesBoth rfl (Nat.le_of_ble_eq_true rfl) ⟨Nat.le_of_ble_eq_true rfl, Nat.le_of_ble_eq_true rfl, Nat.le_of_ble_eq_true rfl, Nat.le_of_ble_eq_true rfl⟩ ?_
      refine zx_if_eq (tgt := 46) (by first | exact hz _ _ | assumption | exact zr_b _ | exact zcmp_r _ _ | (unfold zr at *; omega)) dX10_explains_29 (by decide) (fun h29 => ?_) (fun h29 => ?_)
      · have h29 := zb_0.mp h29
        refine zx_iconst dX10_explains_46 ?_
        refine zx_iret rfl rfl dX10_explains_47 ?_
        rw [hQ]
        refine ⟨congrArg (fun z : Int => (Sum.inl (some (zi z)) : Option zV ⊕ String)) ?_, ?_⟩
        · rfl
        exact ⟨(zOK_put hz (th2_r _ _)), QP_th hR, (zput_s _ _ _ _).trans (th2_1 hw0)⟩
      · have h29 := zb_n.mp h29
        first | exact absurd (by assumption) (fun q : ((0 ≤ x ∧ x < D 1 0) ∧ 0 ≤ u ∧ u < D 12 0) ∧ (1450 ≤ y ∧ y ≤ 1999) => hw0 q.1) | (exfalso; omega)
set_option maxRecDepth 20000 in
set_option maxHeartbeats 2000000 in
theorem sX10_explains_t2 {l : Launch} {w : zW} (hfl : l.stackTraces = false) {σ : zS} {D : zBk} {x y u : Int} (hz : zOK σ) (hW : WF D) (hR : Rel D (σ.1 262)) (hx : zr x) (hy : zr y) (hu : zr u) (hw0 : (0 ≤ x ∧ x < D 1 0) ∧ 0 ≤ u ∧ u < D 12 0) (hw1 : ¬ (1450 ≤ y ∧ y ≤ 1999)) : Sp l w mX10_explains 5 0 [zf 10 261, zi x, zi y, zi u] σ (zqv (some (zi 0)) (fun τ => zOK τ ∧ QP D σ τ ∧ τ.1 261 6 = 2)) := by
  obtain ⟨Q, hQ⟩ : ∃ Q : zQ, Q = (zqv (some (zi 0)) (fun τ => zOK τ ∧ QP D σ τ ∧ τ.1 261 6 = 2)) := ⟨_, rfl⟩
  rw [← hQ]
  refine zx_enter hfl (by decide) rfl 0 rfl ?_
  show zX l w mX10_explains (zMQ w 5 0 Q) 0 [zf 10 261, zi x, zi y, zi u] [] 0 σ
  have hP : 0 ≤ D 1 0 ∧ D 1 0 ≤ 8 := hW.1.1
  have hM : 0 ≤ D 1 7 ∧ D 1 7 ≤ 8 := hW.1.2.1
  have hE : 0 ≤ D 1 10 ∧ D 1 10 ≤ 12 := hW.1.2.2.1
  have hK : 0 ≤ D 12 0 ∧ D 12 0 ≤ 40 := hW.1.2.2.2
  have r0 : σ.1 262 0 = D 1 0 := hR.1.1
  have r1 : σ.1 262 1 = D 1 7 := hR.1.2.1
  have r2 : σ.1 262 2 = D 1 10 := hR.1.2.2.1
  have r3 : σ.1 262 3 = D 12 0 := hR.1.2.2.2
  refine zx_aloadN dX10_explains_0 rfl rfl ?_
  refine zx_aloadN dX10_explains_1 rfl rfl ?_
  refine zx_iloadN dX10_explains_2 rfl rfl ?_
  refine zy_cv [zi x] (sX10_isPrinter (D := D) hfl hz (by first | assumption | omega) (by first | assumption | (refine Rel_put (by decide) ?_; assumption) | (refine Rel_put (by decide) (Rel_put (by decide) ?_); assumption) | (refine Rel_put (by decide) (Rel_put (by decide) (Rel_put (by decide) ?_)); assumption)) (by first | exact hz _ _ | assumption | exact zr_b _ | exact zcmp_r _ _ | (unfold zr at *; omega))) dX10_explains_3 (by decide) rfl cw_RX10_400 okX10_isPrinter rfl (Nat.le_of_ble_eq_true rfl) ⟨Nat.le_of_ble_eq_true rfl, Nat.le_of_ble_eq_true rfl, Nat.le_of_ble_eq_true rfl, Nat.le_of_ble_eq_true rfl⟩ ?_
  refine zx_if_eq (tgt := 21) (by first | exact hz _ _ | assumption | exact zr_b _ | exact zcmp_r _ _ | (unfold zr at *; omega)) dX10_explains_6 (by decide) (fun h6 => ?_) (fun h6 => ?_)
  · have h6 := zb_0.mp h6
    refine zx_iconst dX10_explains_21 ?_
    refine zy_top (b := zb ((0 ≤ x ∧ x < D 1 0) ∧ 0 ≤ u ∧ u < D 12 0)) (by first | exact (zb_t (by exact ⟨by assumption, by assumption⟩)).symm | exact (zb_f (fun q => absurd q.1 (by assumption))).symm | exact (zb_f (fun q => absurd q.2 (by assumption))).symm) ?_
    refine zx_iloadN dX10_explains_22 rfl rfl ?_
    refine zy_cs [zi y] (sX10_isYear  hfl hz (by first | exact hz _ _ | assumption | exact zr_b _ | exact zcmp_r _ _ | (unfold zr at *; omega))) dX10_explains_23 cw_RX10_403 okX10_isYear rfl (Nat.le_of_ble_eq_true rfl) ⟨Nat.le_of_ble_eq_true rfl, Nat.le_of_ble_eq_true rfl, Nat.le_of_ble_eq_true rfl, Nat.le_of_ble_eq_true rfl⟩ ?_
    refine zy_cv [zi (zb ((0 ≤ x ∧ x < D 1 0) ∧ 0 ≤ u ∧ u < D 12 0)), zi (zb (1450 ≤ y ∧ y ≤ 1999))] (sX10_passesBoth (A := ((0 ≤ x ∧ x < D 1 0) ∧ 0 ≤ u ∧ u < D 12 0)) (B := (1450 ≤ y ∧ y ≤ 1999)) hfl hz ) dX10_explains_26 (by decide) rfl cw_RX10_406 okX10_passesBoth rfl (Nat.le_of_ble_eq_true rfl) ⟨Nat.le_of_ble_eq_true rfl, Nat.le_of_ble_eq_true rfl, Nat.le_of_ble_eq_true rfl, Nat.le_of_ble_eq_true rfl⟩ ?_
    refine zx_if_eq (tgt := 46) (by first | exact hz _ _ | assumption | exact zr_b _ | exact zcmp_r _ _ | (unfold zr at *; omega)) dX10_explains_29 (by decide) (fun h29 => ?_) (fun h29 => ?_)
    · have h29 := zb_0.mp h29
      refine zx_iconst dX10_explains_46 ?_
      refine zx_iret rfl rfl dX10_explains_47 ?_
      rw [hQ]
      refine ⟨congrArg (fun z : Int => (Sum.inl (some (zi z)) : Option zV ⊕ String)) ?_, ?_⟩
      · rfl
      exact ⟨(zOK_put hz (th2_r _ _)), QP_th hR, (zput_s _ _ _ _).trans (th2_2 hw0 hw1)⟩
    · have h29 := zb_n.mp h29
      first | exact absurd (by assumption) (fun q : ((0 ≤ x ∧ x < D 1 0) ∧ 0 ≤ u ∧ u < D 12 0) ∧ (1450 ≤ y ∧ y ≤ 1999) => hw1 q.2) | (exfalso; omega)
  · have h6 := zb_n.mp h6
    refine zx_aloadN dX10_explains_9 rfl rfl ?_
    refine zx_iloadN dX10_explains_10 rfl rfl ?_
    refine zy_cv [zi u] (sX10_isClue (D := D) hfl hz (by first | assumption | omega) (by first | assumption | (refine Rel_put (by decide) ?_; assumption) | (refine Rel_put (by decide) (Rel_put (by decide) ?_); assumption) | (refine Rel_put (by decide) (Rel_put (by decide) (Rel_put (by decide) ?_)); assumption)) (by first | exact hz _ _ | assumption | exact zr_b _ | exact zcmp_r _ _ | (unfold zr at *; omega))) dX10_explains_11 (by decide) rfl cw_RX10_205 okX10_isClue rfl (Nat.le_of_ble_eq_true rfl) ⟨Nat.le_of_ble_eq_true rfl, Nat.le_of_ble_eq_true rfl, Nat.le_of_ble_eq_true rfl, Nat.le_of_ble_eq_true rfl⟩ ?_
    refine zx_if_eq (tgt := 21) (by first | exact hz _ _ | assumption | exact zr_b _ | exact zcmp_r _ _ | (unfold zr at *; omega)) dX10_explains_14 (by decide) (fun h14 => ?_) (fun h14 => ?_)
    · have h14 := zb_0.mp h14
      refine zx_iconst dX10_explains_21 ?_
      refine zy_top (b := zb ((0 ≤ x ∧ x < D 1 0) ∧ 0 ≤ u ∧ u < D 12 0)) (by first | exact (zb_t (by exact ⟨by assumption, by assumption⟩)).symm | exact (zb_f (fun q => absurd q.1 (by assumption))).symm | exact (zb_f (fun q => absurd q.2 (by assumption))).symm) ?_
      refine zx_iloadN dX10_explains_22 rfl rfl ?_
      refine zy_cs [zi y] (sX10_isYear  hfl hz (by first | exact hz _ _ | assumption | exact zr_b _ | exact zcmp_r _ _ | (unfold zr at *; omega))) dX10_explains_23 cw_RX10_403 okX10_isYear rfl (Nat.le_of_ble_eq_true rfl) ⟨Nat.le_of_ble_eq_true rfl, Nat.le_of_ble_eq_true rfl, Nat.le_of_ble_eq_true rfl, Nat.le_of_ble_eq_true rfl⟩ ?_
      refine zy_cv [zi (zb ((0 ≤ x ∧ x < D 1 0) ∧ 0 ≤ u ∧ u < D 12 0)), zi (zb (1450 ≤ y ∧ y ≤ 1999))] (sX10_passesBoth (A := ((0 ≤ x ∧ x < D 1 0) ∧ 0 ≤ u ∧ u < D 12 0)) (B := (1450 ≤ y ∧ y ≤ 1999)) hfl hz ) dX10_explains_26 (by decide) rfl cw_RX10_406 okX10_passesBoth rfl (Nat.le_of_ble_eq_true rfl) ⟨Nat.le_of_ble_eq_true rfl, Nat.le_of_ble_eq_true rfl, Nat.le_of_ble_eq_true rfl, Nat.le_of_ble_eq_true rfl⟩ ?_
      refine zx_if_eq (tgt := 46) (by first | exact hz _ _ | assumption | exact zr_b _ | exact zcmp_r _ _ | (unfold zr at *; omega)) dX10_explains_29 (by decide) (fun h29 => ?_) (fun h29 => ?_)
      · have h29 := zb_0.mp h29
        refine zx_iconst dX10_explains_46 ?_
        refine zx_iret rfl rfl dX10_explains_47 ?_
        rw [hQ]
        refine ⟨congrArg (fun z : Int => (Sum.inl (some (zi z)) : Option zV ⊕ String)) ?_, ?_⟩
        · rfl
        exact ⟨(zOK_put hz (th2_r _ _)), QP_th hR, (zput_s _ _ _ _).trans (th2_2 hw0 hw1)⟩
      · have h29 := zb_n.mp h29
        first | exact absurd (by assumption) (fun q : ((0 ≤ x ∧ x < D 1 0) ∧ 0 ≤ u ∧ u < D 12 0) ∧ (1450 ≤ y ∧ y ≤ 1999) => hw1 q.2) | (exfalso; omega)
    · have h14 := zb_n.mp h14
      refine zx_iconst dX10_explains_17 ?_
      refine zx_goto (tgt := 22) dX10_explains_18 (by decide) ?_
      refine zy_top (b := zb ((0 ≤ x ∧ x < D 1 0) ∧ 0 ≤ u ∧ u < D 12 0)) (by first | exact (zb_t (by exact ⟨by assumption, by assumption⟩)).symm | exact (zb_f (fun q => absurd q.1 (by assumption))).symm | exact (zb_f (fun q => absurd q.2 (by assumption))).symm) ?_
      refine zx_iloadN dX10_explains_22 rfl rfl ?_
      refine zy_cs [zi y] (sX10_isYear  hfl hz (by first | exact hz _ _ | assumption | exact zr_b _ | exact zcmp_r _ _ | (unfold zr at *; omega))) dX10_explains_23 cw_RX10_403 okX10_isYear rfl (Nat.le_of_ble_eq_true rfl) ⟨Nat.le_of_ble_eq_true rfl, Nat.le_of_ble_eq_true rfl, Nat.le_of_ble_eq_true rfl, Nat.le_of_ble_eq_true rfl⟩ ?_
      refine zy_cv [zi (zb ((0 ≤ x ∧ x < D 1 0) ∧ 0 ≤ u ∧ u < D 12 0)), zi (zb (1450 ≤ y ∧ y ≤ 1999))] (sX10_passesBoth (A := ((0 ≤ x ∧ x < D 1 0) ∧ 0 ≤ u ∧ u < D 12 0)) (B := (1450 ≤ y ∧ y ≤ 1999)) hfl hz ) dX10_explains_26 (by decide) rfl cw_RX10_406 okX10_passesBoth rfl (Nat.le_of_ble_eq_true rfl) ⟨Nat.le_of_ble_eq_true rfl, Nat.le_of_ble_eq_true rfl, Nat.le_of_ble_eq_true rfl, Nat.le_of_ble_eq_true rfl⟩ ?_
      refine zx_if_eq (tgt := 46) (by first | exact hz _ _ | assumption | exact zr_b _ | exact zcmp_r _ _ | (unfold zr at *; omega)) dX10_explains_29 (by decide) (fun h29 => ?_) (fun h29 => ?_)
      · have h29 := zb_0.mp h29
        refine zx_iconst dX10_explains_46 ?_
        refine zx_iret rfl rfl dX10_explains_47 ?_
        rw [hQ]
        refine ⟨congrArg (fun z : Int => (Sum.inl (some (zi z)) : Option zV ⊕ String)) ?_, ?_⟩
        · rfl
        exact ⟨(zOK_put hz (th2_r _ _)), QP_th hR, (zput_s _ _ _ _).trans (th2_2 hw0 hw1)⟩
      · have h29 := zb_n.mp h29
        first | exact absurd (by assumption) (fun q : ((0 ≤ x ∧ x < D 1 0) ∧ 0 ≤ u ∧ u < D 12 0) ∧ (1450 ≤ y ∧ y ≤ 1999) => hw1 q.2) | (exfalso; omega)
set_option maxRecDepth 20000 in
set_option maxHeartbeats 2000000 in
theorem sX10_explains {l : Launch} {w : zW} (hfl : l.stackTraces = false) {σ : zS} {D : zBk} {x y u : Int} (hz : zOK σ) (hW : WF D) (hR : Rel D (σ.1 262)) (hx : zr x) (hy : zr y) (hu : zr u) (hw0 : (0 ≤ x ∧ x < D 1 0) ∧ 0 ≤ u ∧ u < D 12 0) (hw1 : 1450 ≤ y ∧ y ≤ 1999) : Sp l w mX10_explains 5 0 [zf 10 261, zi x, zi y, zi u] σ (zqv (some (zi (zb (works D x.toNat y ∧ cFit D x.toNat y u.toNat)))) (fun τ => zOK τ ∧ QP D σ τ ∧ τ.1 261 6 = 0)) := by
  obtain ⟨Q, hQ⟩ : ∃ Q : zQ, Q = (zqv (some (zi (zb (works D x.toNat y ∧ cFit D x.toNat y u.toNat)))) (fun τ => zOK τ ∧ QP D σ τ ∧ τ.1 261 6 = 0)) := ⟨_, rfl⟩
  rw [← hQ]
  refine zx_enter hfl (by decide) rfl 0 rfl ?_
  show zX l w mX10_explains (zMQ w 5 0 Q) 0 [zf 10 261, zi x, zi y, zi u] [] 0 σ
  have hP : 0 ≤ D 1 0 ∧ D 1 0 ≤ 8 := hW.1.1
  have hM : 0 ≤ D 1 7 ∧ D 1 7 ≤ 8 := hW.1.2.1
  have hE : 0 ≤ D 1 10 ∧ D 1 10 ≤ 12 := hW.1.2.2.1
  have hK : 0 ≤ D 12 0 ∧ D 12 0 ≤ 40 := hW.1.2.2.2
  have r0 : σ.1 262 0 = D 1 0 := hR.1.1
  have r1 : σ.1 262 1 = D 1 7 := hR.1.2.1
  have r2 : σ.1 262 2 = D 1 10 := hR.1.2.2.1
  have r3 : σ.1 262 3 = D 12 0 := hR.1.2.2.2
  have ex : x = ((x.toNat : Nat) : Int) := by omega
  have eu : u = ((u.toNat : Nat) : Int) := by omega
  refine zx_aloadN dX10_explains_0 rfl rfl ?_
  refine zx_aloadN dX10_explains_1 rfl rfl ?_
  refine zx_iloadN dX10_explains_2 rfl rfl ?_
  refine zy_cv [zi x] (sX10_isPrinter (D := D) hfl hz (by first | assumption | omega) (by first | assumption | (refine Rel_put (by decide) ?_; assumption) | (refine Rel_put (by decide) (Rel_put (by decide) ?_); assumption) | (refine Rel_put (by decide) (Rel_put (by decide) (Rel_put (by decide) ?_)); assumption)) (by first | exact hz _ _ | assumption | exact zr_b _ | exact zcmp_r _ _ | (unfold zr at *; omega))) dX10_explains_3 (by decide) rfl cw_RX10_400 okX10_isPrinter rfl (Nat.le_of_ble_eq_true rfl) ⟨Nat.le_of_ble_eq_true rfl, Nat.le_of_ble_eq_true rfl, Nat.le_of_ble_eq_true rfl, Nat.le_of_ble_eq_true rfl⟩ ?_
  refine zx_if_eq (tgt := 21) (by first | exact hz _ _ | assumption | exact zr_b _ | exact zcmp_r _ _ | (unfold zr at *; omega)) dX10_explains_6 (by decide) (fun h6 => ?_) (fun h6 => ?_)
  · have h6 := zb_0.mp h6
    refine zx_iconst dX10_explains_21 ?_
    refine zy_top (b := zb ((0 ≤ x ∧ x < D 1 0) ∧ 0 ≤ u ∧ u < D 12 0)) (by first | exact (zb_t (by exact ⟨by assumption, by assumption⟩)).symm | exact (zb_f (fun q => absurd q.1 (by assumption))).symm | exact (zb_f (fun q => absurd q.2 (by assumption))).symm) ?_
    refine zx_iloadN dX10_explains_22 rfl rfl ?_
    refine zy_cs [zi y] (sX10_isYear  hfl hz (by first | exact hz _ _ | assumption | exact zr_b _ | exact zcmp_r _ _ | (unfold zr at *; omega))) dX10_explains_23 cw_RX10_403 okX10_isYear rfl (Nat.le_of_ble_eq_true rfl) ⟨Nat.le_of_ble_eq_true rfl, Nat.le_of_ble_eq_true rfl, Nat.le_of_ble_eq_true rfl, Nat.le_of_ble_eq_true rfl⟩ ?_
    refine zy_cv [zi (zb ((0 ≤ x ∧ x < D 1 0) ∧ 0 ≤ u ∧ u < D 12 0)), zi (zb (1450 ≤ y ∧ y ≤ 1999))] (sX10_passesBoth (A := ((0 ≤ x ∧ x < D 1 0) ∧ 0 ≤ u ∧ u < D 12 0)) (B := (1450 ≤ y ∧ y ≤ 1999)) hfl hz ) dX10_explains_26 (by decide) rfl cw_RX10_406 okX10_passesBoth rfl (Nat.le_of_ble_eq_true rfl) ⟨Nat.le_of_ble_eq_true rfl, Nat.le_of_ble_eq_true rfl, Nat.le_of_ble_eq_true rfl, Nat.le_of_ble_eq_true rfl⟩ ?_
    refine zx_if_eq (tgt := 46) (by first | exact hz _ _ | assumption | exact zr_b _ | exact zcmp_r _ _ | (unfold zr at *; omega)) dX10_explains_29 (by decide) (fun h29 => ?_) (fun h29 => ?_)
    · have h29 := zb_0.mp h29
      refine zx_iconst dX10_explains_46 ?_
      refine zx_iret rfl rfl dX10_explains_47 ?_
      rw [hQ]
      refine ⟨congrArg (fun z : Int => (Sum.inl (some (zi z)) : Option zV ⊕ String)) ?_, ?_⟩
      · first | exact absurd (show ((0 ≤ x ∧ x < D 1 0) ∧ 0 ≤ u ∧ u < D 12 0) ∧ (1450 ≤ y ∧ y ≤ 1999) from ⟨hw0, hw1⟩) (by assumption) | exact (zb_t (by assumption)).symm | exact (zb_f (by assumption)).symm
      exact ⟨(zOK_put hz (th2_r _ _)), QP_th hR, (zput_s _ _ _ _).trans (th2_0 hw0 hw1)⟩
    · have h29 := zb_n.mp h29
      refine zx_aloadN dX10_explains_32 rfl rfl ?_
      refine zx_iloadN dX10_explains_33 rfl rfl ?_
      refine zy_top (b := ((u.toNat : Nat) : Int)) (eu) ?_
      refine zx_iloadN dX10_explains_34 rfl rfl ?_
      refine zy_top (b := ((x.toNat : Nat) : Int)) (ex) ?_
      refine zx_iloadN dX10_explains_35 rfl rfl ?_
      refine zy_cv [zi ((u.toNat : Nat) : Int), zi ((x.toNat : Nat) : Int), zi y] (sX10_isExplained (D := D) (c := u.toNat) (p := x.toNat) hfl (zOK_put hz (th2_r _ _)) (by first | assumption | omega) (by first | assumption | (refine Rel_put (by decide) ?_; assumption) | (refine Rel_put (by decide) (Rel_put (by decide) ?_); assumption) | (refine Rel_put (by decide) (Rel_put (by decide) (Rel_put (by decide) ?_)); assumption)) (by first | assumption | omega) (by first | assumption | omega) (by first | exact hz _ _ | assumption | exact zr_b _ | exact zcmp_r _ _ | (unfold zr at *; omega))) dX10_explains_36 (by decide) rfl cw_RX10_125 okX10_isExplained rfl (Nat.le_of_ble_eq_true rfl) ⟨Nat.le_of_ble_eq_true rfl, Nat.le_of_ble_eq_true rfl, Nat.le_of_ble_eq_true rfl, Nat.le_of_ble_eq_true rfl⟩ ?_
      refine zx_if_eq (tgt := 46) (by first | exact hz _ _ | assumption | exact zr_b _ | exact zcmp_r _ _ | (unfold zr at *; omega)) dX10_explains_39 (by decide) (fun h39 => ?_) (fun h39 => ?_)
      · have h39 := zb_0.mp h39
        refine zx_iconst dX10_explains_46 ?_
        refine zx_iret rfl rfl dX10_explains_47 ?_
        rw [hQ]
        refine ⟨congrArg (fun z : Int => (Sum.inl (some (zi z)) : Option zV ⊕ String)) ?_, ?_⟩
        · first | exact absurd (show ((0 ≤ x ∧ x < D 1 0) ∧ 0 ≤ u ∧ u < D 12 0) ∧ (1450 ≤ y ∧ y ≤ 1999) from ⟨hw0, hw1⟩) (by assumption) | exact (zb_t (by assumption)).symm | exact (zb_f (by assumption)).symm
        exact ⟨(zOK_put hz (th2_r _ _)), QP_th hR, (zput_s _ _ _ _).trans (th2_0 hw0 hw1)⟩
      · have h39 := zb_n.mp h39
        refine zx_iconst dX10_explains_42 ?_
        refine zx_goto (tgt := 47) dX10_explains_43 (by decide) ?_
        refine zx_iret rfl rfl dX10_explains_47 ?_
        rw [hQ]
        refine ⟨congrArg (fun z : Int => (Sum.inl (some (zi z)) : Option zV ⊕ String)) ?_, ?_⟩
        · first | exact absurd (show ((0 ≤ x ∧ x < D 1 0) ∧ 0 ≤ u ∧ u < D 12 0) ∧ (1450 ≤ y ∧ y ≤ 1999) from ⟨hw0, hw1⟩) (by assumption) | exact (zb_t (by assumption)).symm | exact (zb_f (by assumption)).symm
        exact ⟨(zOK_put hz (th2_r _ _)), QP_th hR, (zput_s _ _ _ _).trans (th2_0 hw0 hw1)⟩
  · have h6 := zb_n.mp h6
    refine zx_aloadN dX10_explains_9 rfl rfl ?_
    refine zx_iloadN dX10_explains_10 rfl rfl ?_
    refine zy_cv [zi u] (sX10_isClue (D := D) hfl hz (by first | assumption | omega) (by first | assumption | (refine Rel_put (by decide) ?_; assumption) | (refine Rel_put (by decide) (Rel_put (by decide) ?_); assumption) | (refine Rel_put (by decide) (Rel_put (by decide) (Rel_put (by decide) ?_)); assumption)) (by first | exact hz _ _ | assumption | exact zr_b _ | exact zcmp_r _ _ | (unfold zr at *; omega))) dX10_explains_11 (by decide) rfl cw_RX10_205 okX10_isClue rfl (Nat.le_of_ble_eq_true rfl) ⟨Nat.le_of_ble_eq_true rfl, Nat.le_of_ble_eq_true rfl, Nat.le_of_ble_eq_true rfl, Nat.le_of_ble_eq_true rfl⟩ ?_
    refine zx_if_eq (tgt := 21) (by first | exact hz _ _ | assumption | exact zr_b _ | exact zcmp_r _ _ | (unfold zr at *; omega)) dX10_explains_14 (by decide) (fun h14 => ?_) (fun h14 => ?_)
    · have h14 := zb_0.mp h14
      refine zx_iconst dX10_explains_21 ?_
      refine zy_top (b := zb ((0 ≤ x ∧ x < D 1 0) ∧ 0 ≤ u ∧ u < D 12 0)) (by first | exact (zb_t (by exact ⟨by assumption, by assumption⟩)).symm | exact (zb_f (fun q => absurd q.1 (by assumption))).symm | exact (zb_f (fun q => absurd q.2 (by assumption))).symm) ?_
      refine zx_iloadN dX10_explains_22 rfl rfl ?_
      refine zy_cs [zi y] (sX10_isYear  hfl hz (by first | exact hz _ _ | assumption | exact zr_b _ | exact zcmp_r _ _ | (unfold zr at *; omega))) dX10_explains_23 cw_RX10_403 okX10_isYear rfl (Nat.le_of_ble_eq_true rfl) ⟨Nat.le_of_ble_eq_true rfl, Nat.le_of_ble_eq_true rfl, Nat.le_of_ble_eq_true rfl, Nat.le_of_ble_eq_true rfl⟩ ?_
      refine zy_cv [zi (zb ((0 ≤ x ∧ x < D 1 0) ∧ 0 ≤ u ∧ u < D 12 0)), zi (zb (1450 ≤ y ∧ y ≤ 1999))] (sX10_passesBoth (A := ((0 ≤ x ∧ x < D 1 0) ∧ 0 ≤ u ∧ u < D 12 0)) (B := (1450 ≤ y ∧ y ≤ 1999)) hfl hz ) dX10_explains_26 (by decide) rfl cw_RX10_406 okX10_passesBoth rfl (Nat.le_of_ble_eq_true rfl) ⟨Nat.le_of_ble_eq_true rfl, Nat.le_of_ble_eq_true rfl, Nat.le_of_ble_eq_true rfl, Nat.le_of_ble_eq_true rfl⟩ ?_
      refine zx_if_eq (tgt := 46) (by first | exact hz _ _ | assumption | exact zr_b _ | exact zcmp_r _ _ | (unfold zr at *; omega)) dX10_explains_29 (by decide) (fun h29 => ?_) (fun h29 => ?_)
      · have h29 := zb_0.mp h29
        refine zx_iconst dX10_explains_46 ?_
        refine zx_iret rfl rfl dX10_explains_47 ?_
        rw [hQ]
        refine ⟨congrArg (fun z : Int => (Sum.inl (some (zi z)) : Option zV ⊕ String)) ?_, ?_⟩
        · first | exact absurd (show ((0 ≤ x ∧ x < D 1 0) ∧ 0 ≤ u ∧ u < D 12 0) ∧ (1450 ≤ y ∧ y ≤ 1999) from ⟨hw0, hw1⟩) (by assumption) | exact (zb_t (by assumption)).symm | exact (zb_f (by assumption)).symm
        exact ⟨(zOK_put hz (th2_r _ _)), QP_th hR, (zput_s _ _ _ _).trans (th2_0 hw0 hw1)⟩
      · have h29 := zb_n.mp h29
        refine zx_aloadN dX10_explains_32 rfl rfl ?_
        refine zx_iloadN dX10_explains_33 rfl rfl ?_
        refine zy_top (b := ((u.toNat : Nat) : Int)) (eu) ?_
        refine zx_iloadN dX10_explains_34 rfl rfl ?_
        refine zy_top (b := ((x.toNat : Nat) : Int)) (ex) ?_
        refine zx_iloadN dX10_explains_35 rfl rfl ?_
        refine zy_cv [zi ((u.toNat : Nat) : Int), zi ((x.toNat : Nat) : Int), zi y] (sX10_isExplained (D := D) (c := u.toNat) (p := x.toNat) hfl (zOK_put hz (th2_r _ _)) (by first | assumption | omega) (by first | assumption | (refine Rel_put (by decide) ?_; assumption) | (refine Rel_put (by decide) (Rel_put (by decide) ?_); assumption) | (refine Rel_put (by decide) (Rel_put (by decide) (Rel_put (by decide) ?_)); assumption)) (by first | assumption | omega) (by first | assumption | omega) (by first | exact hz _ _ | assumption | exact zr_b _ | exact zcmp_r _ _ | (unfold zr at *; omega))) dX10_explains_36 (by decide) rfl cw_RX10_125 okX10_isExplained rfl (Nat.le_of_ble_eq_true rfl) ⟨Nat.le_of_ble_eq_true rfl, Nat.le_of_ble_eq_true rfl, Nat.le_of_ble_eq_true rfl, Nat.le_of_ble_eq_true rfl⟩ ?_
        refine zx_if_eq (tgt := 46) (by first | exact hz _ _ | assumption | exact zr_b _ | exact zcmp_r _ _ | (unfold zr at *; omega)) dX10_explains_39 (by decide) (fun h39 => ?_) (fun h39 => ?_)
        · have h39 := zb_0.mp h39
          refine zx_iconst dX10_explains_46 ?_
          refine zx_iret rfl rfl dX10_explains_47 ?_
          rw [hQ]
          refine ⟨congrArg (fun z : Int => (Sum.inl (some (zi z)) : Option zV ⊕ String)) ?_, ?_⟩
          · first | exact absurd (show ((0 ≤ x ∧ x < D 1 0) ∧ 0 ≤ u ∧ u < D 12 0) ∧ (1450 ≤ y ∧ y ≤ 1999) from ⟨hw0, hw1⟩) (by assumption) | exact (zb_t (by assumption)).symm | exact (zb_f (by assumption)).symm
          exact ⟨(zOK_put hz (th2_r _ _)), QP_th hR, (zput_s _ _ _ _).trans (th2_0 hw0 hw1)⟩
        · have h39 := zb_n.mp h39
          refine zx_iconst dX10_explains_42 ?_
          refine zx_goto (tgt := 47) dX10_explains_43 (by decide) ?_
          refine zx_iret rfl rfl dX10_explains_47 ?_
          rw [hQ]
          refine ⟨congrArg (fun z : Int => (Sum.inl (some (zi z)) : Option zV ⊕ String)) ?_, ?_⟩
          · first | exact absurd (show ((0 ≤ x ∧ x < D 1 0) ∧ 0 ≤ u ∧ u < D 12 0) ∧ (1450 ≤ y ∧ y ≤ 1999) from ⟨hw0, hw1⟩) (by assumption) | exact (zb_t (by assumption)).symm | exact (zb_f (by assumption)).symm
          exact ⟨(zOK_put hz (th2_r _ _)), QP_th hR, (zput_s _ _ _ _).trans (th2_0 hw0 hw1)⟩
    · have h14 := zb_n.mp h14
      refine zx_iconst dX10_explains_17 ?_
      refine zx_goto (tgt := 22) dX10_explains_18 (by decide) ?_
      refine zy_top (b := zb ((0 ≤ x ∧ x < D 1 0) ∧ 0 ≤ u ∧ u < D 12 0)) (by first | exact (zb_t (by exact ⟨by assumption, by assumption⟩)).symm | exact (zb_f (fun q => absurd q.1 (by assumption))).symm | exact (zb_f (fun q => absurd q.2 (by assumption))).symm) ?_
      refine zx_iloadN dX10_explains_22 rfl rfl ?_
      refine zy_cs [zi y] (sX10_isYear  hfl hz (by first | exact hz _ _ | assumption | exact zr_b _ | exact zcmp_r _ _ | (unfold zr at *; omega))) dX10_explains_23 cw_RX10_403 okX10_isYear rfl (Nat.le_of_ble_eq_true rfl) ⟨Nat.le_of_ble_eq_true rfl, Nat.le_of_ble_eq_true rfl, Nat.le_of_ble_eq_true rfl, Nat.le_of_ble_eq_true rfl⟩ ?_
      refine zy_cv [zi (zb ((0 ≤ x ∧ x < D 1 0) ∧ 0 ≤ u ∧ u < D 12 0)), zi (zb (1450 ≤ y ∧ y ≤ 1999))] (sX10_passesBoth (A := ((0 ≤ x ∧ x < D 1 0) ∧ 0 ≤ u ∧ u < D 12 0)) (B := (1450 ≤ y ∧ y ≤ 1999)) hfl hz ) dX10_explains_26 (by decide) rfl cw_RX10_406 okX10_passesBoth rfl (Nat.le_of_ble_eq_true rfl) ⟨Nat.le_of_ble_eq_true rfl, Nat.le_of_ble_eq_true rfl, Nat.le_of_ble_eq_true rfl, Nat.le_of_ble_eq_true rfl⟩ ?_
      refine zx_if_eq (tgt := 46) (by first | exact hz _ _ | assumption | exact zr_b _ | exact zcmp_r _ _ | (unfold zr at *; omega)) dX10_explains_29 (by decide) (fun h29 => ?_) (fun h29 => ?_)
      · have h29 := zb_0.mp h29
        refine zx_iconst dX10_explains_46 ?_
        refine zx_iret rfl rfl dX10_explains_47 ?_
        rw [hQ]
        refine ⟨congrArg (fun z : Int => (Sum.inl (some (zi z)) : Option zV ⊕ String)) ?_, ?_⟩
        · first | exact absurd (show ((0 ≤ x ∧ x < D 1 0) ∧ 0 ≤ u ∧ u < D 12 0) ∧ (1450 ≤ y ∧ y ≤ 1999) from ⟨hw0, hw1⟩) (by assumption) | exact (zb_t (by assumption)).symm | exact (zb_f (by assumption)).symm
        exact ⟨(zOK_put hz (th2_r _ _)), QP_th hR, (zput_s _ _ _ _).trans (th2_0 hw0 hw1)⟩
      · have h29 := zb_n.mp h29
        refine zx_aloadN dX10_explains_32 rfl rfl ?_
        refine zx_iloadN dX10_explains_33 rfl rfl ?_
        refine zy_top (b := ((u.toNat : Nat) : Int)) (eu) ?_
        refine zx_iloadN dX10_explains_34 rfl rfl ?_
        refine zy_top (b := ((x.toNat : Nat) : Int)) (ex) ?_
        refine zx_iloadN dX10_explains_35 rfl rfl ?_
        refine zy_cv [zi ((u.toNat : Nat) : Int), zi ((x.toNat : Nat) : Int), zi y] (sX10_isExplained (D := D) (c := u.toNat) (p := x.toNat) hfl (zOK_put hz (th2_r _ _)) (by first | assumption | omega) (by first | assumption | (refine Rel_put (by decide) ?_; assumption) | (refine Rel_put (by decide) (Rel_put (by decide) ?_); assumption) | (refine Rel_put (by decide) (Rel_put (by decide) (Rel_put (by decide) ?_)); assumption)) (by first | assumption | omega) (by first | assumption | omega) (by first | exact hz _ _ | assumption | exact zr_b _ | exact zcmp_r _ _ | (unfold zr at *; omega))) dX10_explains_36 (by decide) rfl cw_RX10_125 okX10_isExplained rfl (Nat.le_of_ble_eq_true rfl) ⟨Nat.le_of_ble_eq_true rfl, Nat.le_of_ble_eq_true rfl, Nat.le_of_ble_eq_true rfl, Nat.le_of_ble_eq_true rfl⟩ ?_
        refine zx_if_eq (tgt := 46) (by first | exact hz _ _ | assumption | exact zr_b _ | exact zcmp_r _ _ | (unfold zr at *; omega)) dX10_explains_39 (by decide) (fun h39 => ?_) (fun h39 => ?_)
        · have h39 := zb_0.mp h39
          refine zx_iconst dX10_explains_46 ?_
          refine zx_iret rfl rfl dX10_explains_47 ?_
          rw [hQ]
          refine ⟨congrArg (fun z : Int => (Sum.inl (some (zi z)) : Option zV ⊕ String)) ?_, ?_⟩
          · first | exact absurd (show ((0 ≤ x ∧ x < D 1 0) ∧ 0 ≤ u ∧ u < D 12 0) ∧ (1450 ≤ y ∧ y ≤ 1999) from ⟨hw0, hw1⟩) (by assumption) | exact (zb_t (by assumption)).symm | exact (zb_f (by assumption)).symm
          exact ⟨(zOK_put hz (th2_r _ _)), QP_th hR, (zput_s _ _ _ _).trans (th2_0 hw0 hw1)⟩
        · have h39 := zb_n.mp h39
          refine zx_iconst dX10_explains_42 ?_
          refine zx_goto (tgt := 47) dX10_explains_43 (by decide) ?_
          refine zx_iret rfl rfl dX10_explains_47 ?_
          rw [hQ]
          refine ⟨congrArg (fun z : Int => (Sum.inl (some (zi z)) : Option zV ⊕ String)) ?_, ?_⟩
          · first | exact absurd (show ((0 ≤ x ∧ x < D 1 0) ∧ 0 ≤ u ∧ u < D 12 0) ∧ (1450 ≤ y ∧ y ≤ 1999) from ⟨hw0, hw1⟩) (by assumption) | exact (zb_t (by assumption)).symm | exact (zb_f (by assumption)).symm
          exact ⟨(zOK_put hz (th2_r _ _)), QP_th hR, (zput_s _ _ _ _).trans (th2_0 hw0 hw1)⟩
set_option maxRecDepth 20000 in
set_option maxHeartbeats 2000000 in
theorem sX10_score_t1 {l : Launch} {w : zW} (hfl : l.stackTraces = false) {σ : zS} {D : zBk} {x y : Int} (hz : zOK σ) (hW : WF D) (hR : Rel D (σ.1 262)) (hx : zr x) (hy : zr y) (hw0 : ¬ (0 ≤ x ∧ x < D 1 0)) : Sp l w mX10_score 6 0 [zf 10 261, zi x, zi y] σ (zqv (some (zi 0)) (fun τ => zOK τ ∧ QP D σ τ ∧ τ.1 261 6 = 1)) := by
  obtain ⟨Q, hQ⟩ : ∃ Q : zQ, Q = (zqv (some (zi 0)) (fun τ => zOK τ ∧ QP D σ τ ∧ τ.1 261 6 = 1)) := ⟨_, rfl⟩
  rw [← hQ]
  refine zx_enter hfl (by decide) rfl 0 rfl ?_
  show zX l w mX10_score (zMQ w 6 0 Q) 0 [zf 10 261, zi x, zi y] [] 0 σ
  have hP : 0 ≤ D 1 0 ∧ D 1 0 ≤ 8 := hW.1.1
  have hM : 0 ≤ D 1 7 ∧ D 1 7 ≤ 8 := hW.1.2.1
  have hE : 0 ≤ D 1 10 ∧ D 1 10 ≤ 12 := hW.1.2.2.1
  have hK : 0 ≤ D 12 0 ∧ D 12 0 ≤ 40 := hW.1.2.2.2
  have r0 : σ.1 262 0 = D 1 0 := hR.1.1
  have r1 : σ.1 262 1 = D 1 7 := hR.1.2.1
  have r2 : σ.1 262 2 = D 1 10 := hR.1.2.2.1
  have r3 : σ.1 262 3 = D 12 0 := hR.1.2.2.2
  refine zx_aloadN dX10_score_0 rfl rfl ?_
  refine zx_aloadN dX10_score_1 rfl rfl ?_
  refine zx_iloadN dX10_score_2 rfl rfl ?_
  refine zy_cv [zi x] (sX10_isPrinter (D := D) hfl hz (by first | assumption | omega) (by first | assumption | (refine Rel_put (by decide) ?_; assumption) | (refine Rel_put (by decide) (Rel_put (by decide) ?_); assumption) | (refine Rel_put (by decide) (Rel_put (by decide) (Rel_put (by decide) ?_)); assumption)) (by first | exact hz _ _ | assumption | exact zr_b _ | exact zcmp_r _ _ | (unfold zr at *; omega))) dX10_score_3 (by decide) rfl cw_RX10_400 okX10_isPrinter rfl (Nat.le_of_ble_eq_true rfl) ⟨Nat.le_of_ble_eq_true rfl, Nat.le_of_ble_eq_true rfl, Nat.le_of_ble_eq_true rfl, Nat.le_of_ble_eq_true rfl⟩ ?_
  refine zx_iloadN dX10_score_6 rfl rfl ?_
  refine zy_cs [zi y] (sX10_isYear  hfl hz (by first | exact hz _ _ | assumption | exact zr_b _ | exact zcmp_r _ _ | (unfold zr at *; omega))) dX10_score_7 cw_RX10_403 okX10_isYear rfl (Nat.le_of_ble_eq_true rfl) ⟨Nat.le_of_ble_eq_true rfl, Nat.le_of_ble_eq_true rfl, Nat.le_of_ble_eq_true rfl, Nat.le_of_ble_eq_true rfl⟩ ?_
  refine zy_cv [zi (zb (0 ≤ x ∧ x < D 1 0)), zi (zb (1450 ≤ y ∧ y ≤ 1999))] (sX10_passesBoth (A := (0 ≤ x ∧ x < D 1 0)) (B := (1450 ≤ y ∧ y ≤ 1999)) hfl hz ) dX10_score_10 (by decide) rfl cw_RX10_406 okX10_passesBoth rfl (Nat.le_of_ble_eq_true rfl) ⟨Nat.le_of_ble_eq_true rfl, Nat.le_of_ble_eq_true rfl, Nat.le_of_ble_eq_true rfl, Nat.le_of_ble_eq_true rfl⟩ ?_
  refine zx_if_ne (tgt := 18) (by first | exact hz _ _ | assumption | exact zr_b _ | exact zcmp_r _ _ | (unfold zr at *; omega)) dX10_score_13 (by decide) (fun h13 => ?_) (fun h13 => ?_)
  · have h13 := zb_n.mp h13
    first | exact absurd (by assumption) (fun q : (0 ≤ x ∧ x < D 1 0) ∧ (1450 ≤ y ∧ y ≤ 1999) => hw0 q.1) | (exfalso; omega)
  · have h13 := zb_0.mp h13
    refine zx_iconst dX10_score_16 ?_
    refine zx_iret rfl rfl dX10_score_17 ?_
    rw [hQ]
    refine ⟨congrArg (fun z : Int => (Sum.inl (some (zi z)) : Option zV ⊕ String)) ?_, ?_⟩
    · rfl
    exact ⟨(zOK_put hz (th2_r _ _)), QP_th hR, (zput_s _ _ _ _).trans (th2_1 hw0)⟩
set_option maxRecDepth 20000 in
set_option maxHeartbeats 2000000 in
theorem sX10_score_t2 {l : Launch} {w : zW} (hfl : l.stackTraces = false) {σ : zS} {D : zBk} {x y : Int} (hz : zOK σ) (hW : WF D) (hR : Rel D (σ.1 262)) (hx : zr x) (hy : zr y) (hw0 : 0 ≤ x ∧ x < D 1 0) (hw1 : ¬ (1450 ≤ y ∧ y ≤ 1999)) : Sp l w mX10_score 6 0 [zf 10 261, zi x, zi y] σ (zqv (some (zi 0)) (fun τ => zOK τ ∧ QP D σ τ ∧ τ.1 261 6 = 2)) := by
  obtain ⟨Q, hQ⟩ : ∃ Q : zQ, Q = (zqv (some (zi 0)) (fun τ => zOK τ ∧ QP D σ τ ∧ τ.1 261 6 = 2)) := ⟨_, rfl⟩
  rw [← hQ]
  refine zx_enter hfl (by decide) rfl 0 rfl ?_
  show zX l w mX10_score (zMQ w 6 0 Q) 0 [zf 10 261, zi x, zi y] [] 0 σ
  have hP : 0 ≤ D 1 0 ∧ D 1 0 ≤ 8 := hW.1.1
  have hM : 0 ≤ D 1 7 ∧ D 1 7 ≤ 8 := hW.1.2.1
  have hE : 0 ≤ D 1 10 ∧ D 1 10 ≤ 12 := hW.1.2.2.1
  have hK : 0 ≤ D 12 0 ∧ D 12 0 ≤ 40 := hW.1.2.2.2
  have r0 : σ.1 262 0 = D 1 0 := hR.1.1
  have r1 : σ.1 262 1 = D 1 7 := hR.1.2.1
  have r2 : σ.1 262 2 = D 1 10 := hR.1.2.2.1
  have r3 : σ.1 262 3 = D 12 0 := hR.1.2.2.2
  refine zx_aloadN dX10_score_0 rfl rfl ?_
  refine zx_aloadN dX10_score_1 rfl rfl ?_
  refine zx_iloadN dX10_score_2 rfl rfl ?_
  refine zy_cv [zi x] (sX10_isPrinter (D := D) hfl hz (by first | assumption | omega) (by first | assumption | (refine Rel_put (by decide) ?_; assumption) | (refine Rel_put (by decide) (Rel_put (by decide) ?_); assumption) | (refine Rel_put (by decide) (Rel_put (by decide) (Rel_put (by decide) ?_)); assumption)) (by first | exact hz _ _ | assumption | exact zr_b _ | exact zcmp_r _ _ | (unfold zr at *; omega))) dX10_score_3 (by decide) rfl cw_RX10_400 okX10_isPrinter rfl (Nat.le_of_ble_eq_true rfl) ⟨Nat.le_of_ble_eq_true rfl, Nat.le_of_ble_eq_true rfl, Nat.le_of_ble_eq_true rfl, Nat.le_of_ble_eq_true rfl⟩ ?_
  refine zx_iloadN dX10_score_6 rfl rfl ?_
  refine zy_cs [zi y] (sX10_isYear  hfl hz (by first | exact hz _ _ | assumption | exact zr_b _ | exact zcmp_r _ _ | (unfold zr at *; omega))) dX10_score_7 cw_RX10_403 okX10_isYear rfl (Nat.le_of_ble_eq_true rfl) ⟨Nat.le_of_ble_eq_true rfl, Nat.le_of_ble_eq_true rfl, Nat.le_of_ble_eq_true rfl, Nat.le_of_ble_eq_true rfl⟩ ?_
  refine zy_cv [zi (zb (0 ≤ x ∧ x < D 1 0)), zi (zb (1450 ≤ y ∧ y ≤ 1999))] (sX10_passesBoth (A := (0 ≤ x ∧ x < D 1 0)) (B := (1450 ≤ y ∧ y ≤ 1999)) hfl hz ) dX10_score_10 (by decide) rfl cw_RX10_406 okX10_passesBoth rfl (Nat.le_of_ble_eq_true rfl) ⟨Nat.le_of_ble_eq_true rfl, Nat.le_of_ble_eq_true rfl, Nat.le_of_ble_eq_true rfl, Nat.le_of_ble_eq_true rfl⟩ ?_
  refine zx_if_ne (tgt := 18) (by first | exact hz _ _ | assumption | exact zr_b _ | exact zcmp_r _ _ | (unfold zr at *; omega)) dX10_score_13 (by decide) (fun h13 => ?_) (fun h13 => ?_)
  · have h13 := zb_n.mp h13
    first | exact absurd (by assumption) (fun q : (0 ≤ x ∧ x < D 1 0) ∧ (1450 ≤ y ∧ y ≤ 1999) => hw1 q.2) | (exfalso; omega)
  · have h13 := zb_0.mp h13
    refine zx_iconst dX10_score_16 ?_
    refine zx_iret rfl rfl dX10_score_17 ?_
    rw [hQ]
    refine ⟨congrArg (fun z : Int => (Sum.inl (some (zi z)) : Option zV ⊕ String)) ?_, ?_⟩
    · rfl
    exact ⟨(zOK_put hz (th2_r _ _)), QP_th hR, (zput_s _ _ _ _).trans (th2_2 hw0 hw1)⟩
set_option maxRecDepth 20000 in
set_option maxHeartbeats 2000000 in
theorem sX10_score {l : Launch} {w : zW} (hfl : l.stackTraces = false) {σ : zS} {D : zBk} {x y : Int} (hz : zOK σ) (hW : WF D) (hR : Rel D (σ.1 262)) (hx : zr x) (hy : zr y) (hw0 : 0 ≤ x ∧ x < D 1 0) (hw1 : 1450 ≤ y ∧ y ≤ 1999) : Sp l w mX10_score 6 0 [zf 10 261, zi x, zi y] σ (zqv (some (zi (scA D x.toNat y))) (fun τ => zOK τ ∧ QP D σ τ ∧ τ.1 261 6 = 0)) := by
  obtain ⟨Q, hQ⟩ : ∃ Q : zQ, Q = (zqv (some (zi (scA D x.toNat y))) (fun τ => zOK τ ∧ QP D σ τ ∧ τ.1 261 6 = 0)) := ⟨_, rfl⟩
  rw [← hQ]
  refine zx_enter hfl (by decide) rfl 0 rfl ?_
  show zX l w mX10_score (zMQ w 6 0 Q) 0 [zf 10 261, zi x, zi y] [] 0 σ
  have hP : 0 ≤ D 1 0 ∧ D 1 0 ≤ 8 := hW.1.1
  have hM : 0 ≤ D 1 7 ∧ D 1 7 ≤ 8 := hW.1.2.1
  have hE : 0 ≤ D 1 10 ∧ D 1 10 ≤ 12 := hW.1.2.2.1
  have hK : 0 ≤ D 12 0 ∧ D 12 0 ≤ 40 := hW.1.2.2.2
  have r0 : σ.1 262 0 = D 1 0 := hR.1.1
  have r1 : σ.1 262 1 = D 1 7 := hR.1.2.1
  have r2 : σ.1 262 2 = D 1 10 := hR.1.2.2.1
  have r3 : σ.1 262 3 = D 12 0 := hR.1.2.2.2
  have ex : x = ((x.toNat : Nat) : Int) := by omega
  refine zx_aloadN dX10_score_0 rfl rfl ?_
  refine zx_aloadN dX10_score_1 rfl rfl ?_
  refine zx_iloadN dX10_score_2 rfl rfl ?_
  refine zy_cv [zi x] (sX10_isPrinter (D := D) hfl hz (by first | assumption | omega) (by first | assumption | (refine Rel_put (by decide) ?_; assumption) | (refine Rel_put (by decide) (Rel_put (by decide) ?_); assumption) | (refine Rel_put (by decide) (Rel_put (by decide) (Rel_put (by decide) ?_)); assumption)) (by first | exact hz _ _ | assumption | exact zr_b _ | exact zcmp_r _ _ | (unfold zr at *; omega))) dX10_score_3 (by decide) rfl cw_RX10_400 okX10_isPrinter rfl (Nat.le_of_ble_eq_true rfl) ⟨Nat.le_of_ble_eq_true rfl, Nat.le_of_ble_eq_true rfl, Nat.le_of_ble_eq_true rfl, Nat.le_of_ble_eq_true rfl⟩ ?_
  refine zx_iloadN dX10_score_6 rfl rfl ?_
  refine zy_cs [zi y] (sX10_isYear  hfl hz (by first | exact hz _ _ | assumption | exact zr_b _ | exact zcmp_r _ _ | (unfold zr at *; omega))) dX10_score_7 cw_RX10_403 okX10_isYear rfl (Nat.le_of_ble_eq_true rfl) ⟨Nat.le_of_ble_eq_true rfl, Nat.le_of_ble_eq_true rfl, Nat.le_of_ble_eq_true rfl, Nat.le_of_ble_eq_true rfl⟩ ?_
  refine zy_cv [zi (zb (0 ≤ x ∧ x < D 1 0)), zi (zb (1450 ≤ y ∧ y ≤ 1999))] (sX10_passesBoth (A := (0 ≤ x ∧ x < D 1 0)) (B := (1450 ≤ y ∧ y ≤ 1999)) hfl hz ) dX10_score_10 (by decide) rfl cw_RX10_406 okX10_passesBoth rfl (Nat.le_of_ble_eq_true rfl) ⟨Nat.le_of_ble_eq_true rfl, Nat.le_of_ble_eq_true rfl, Nat.le_of_ble_eq_true rfl, Nat.le_of_ble_eq_true rfl⟩ ?_
  refine zx_if_ne (tgt := 18) (by first | exact hz _ _ | assumption | exact zr_b _ | exact zcmp_r _ _ | (unfold zr at *; omega)) dX10_score_13 (by decide) (fun h13 => ?_) (fun h13 => ?_)
  · have h13 := zb_n.mp h13
    refine zx_aloadN dX10_score_18 rfl rfl ?_
    refine zx_iloadN dX10_score_19 rfl rfl ?_
    refine zy_top (b := ((x.toNat : Nat) : Int)) (ex) ?_
    refine zx_iloadN dX10_score_20 rfl rfl ?_
    refine zy_cv [zi ((x.toNat : Nat) : Int), zi y] (sX10_isWorking (D := D) (p := x.toNat) hfl (zOK_put hz (th2_r _ _)) (by first | assumption | omega) (by first | assumption | (refine Rel_put (by decide) ?_; assumption) | (refine Rel_put (by decide) (Rel_put (by decide) ?_); assumption) | (refine Rel_put (by decide) (Rel_put (by decide) (Rel_put (by decide) ?_)); assumption)) (by first | assumption | omega) (by first | exact hz _ _ | assumption | exact zr_b _ | exact zcmp_r _ _ | (unfold zr at *; omega))) dX10_score_21 (by decide) rfl cw_RX10_108 okX10_isWorking rfl (Nat.le_of_ble_eq_true rfl) ⟨Nat.le_of_ble_eq_true rfl, Nat.le_of_ble_eq_true rfl, Nat.le_of_ble_eq_true rfl, Nat.le_of_ble_eq_true rfl⟩ ?_
    refine zx_if_eq (tgt := 36) (by first | exact hz _ _ | assumption | exact zr_b _ | exact zcmp_r _ _ | (unfold zr at *; omega)) dX10_score_24 (by decide) (fun h24 => ?_) (fun h24 => ?_)
    · have h24 := zb_0.mp h24
      refine zx_iconst dX10_score_36 ?_
      refine zx_iret rfl rfl dX10_score_37 ?_
      rw [hQ]
      refine ⟨congrArg (fun z : Int => (Sum.inl (some (zi z)) : Option zV ⊕ String)) ?_, ?_⟩
      · first | (rw [scA_n (by assumption)]) | (rw [scA_y (by assumption)]; refine zs_congr (fun c _ => zif_c ?_); exact ⟨fun q => ⟨q.1, q.2.2⟩, fun q => ⟨q.1, by assumption, q.2⟩⟩)
      exact ⟨(zOK_put hz (th2_r _ _)), QP_th hR, (zput_s _ _ _ _).trans (th2_0 hw0 hw1)⟩
    · have h24 := zb_n.mp h24
      refine zx_aloadN dX10_score_27 rfl rfl ?_
      refine zx_iloadN dX10_score_28 rfl rfl ?_
      refine zy_top (b := ((x.toNat : Nat) : Int)) (ex) ?_
      refine zx_iloadN dX10_score_29 rfl rfl ?_
      refine zy_cv [zi ((x.toNat : Nat) : Int), zi y] (sX10_scoreOf (D := D) (p := x.toNat) hfl (zOK_put hz (th2_r _ _)) (by first | assumption | omega) (by first | assumption | (refine Rel_put (by decide) ?_; assumption) | (refine Rel_put (by decide) (Rel_put (by decide) ?_); assumption) | (refine Rel_put (by decide) (Rel_put (by decide) (Rel_put (by decide) ?_)); assumption)) (by first | assumption | omega) (by first | exact hz _ _ | assumption | exact zr_b _ | exact zcmp_r _ _ | (unfold zr at *; omega))) dX10_score_30 (by decide) rfl cw_RX10_419 okX10_scoreOf rfl (Nat.le_of_ble_eq_true rfl) ⟨Nat.le_of_ble_eq_true rfl, Nat.le_of_ble_eq_true rfl, Nat.le_of_ble_eq_true rfl, Nat.le_of_ble_eq_true rfl⟩ ?_
      refine zx_goto (tgt := 37) dX10_score_33 (by decide) ?_
      refine zx_iret rfl rfl dX10_score_37 ?_
      rw [hQ]
      refine ⟨congrArg (fun z : Int => (Sum.inl (some (zi z)) : Option zV ⊕ String)) ?_, ?_⟩
      · first | (rw [scA_n (by assumption)]) | (rw [scA_y (by assumption)]; refine zs_congr (fun c _ => zif_c ?_); exact ⟨fun q => ⟨q.1, q.2.2⟩, fun q => ⟨q.1, by assumption, q.2⟩⟩)
      exact ⟨(zOK_put hz (th2_r _ _)), QP_th hR, (zput_s _ _ _ _).trans (th2_0 hw0 hw1)⟩
  · have h13 := zb_0.mp h13
    first | exact absurd (show (0 ≤ x ∧ x < D 1 0) ∧ (1450 ≤ y ∧ y ≤ 1999) from ⟨hw0, hw1⟩) (by assumption) | (exfalso; omega)
set_option maxRecDepth 20000 in
set_option maxHeartbeats 2000000 in
theorem sX10_bestYear_t1 {l : Launch} {w : zW} (hfl : l.stackTraces = false) {σ : zS} {D : zBk} {x : Int} (hz : zOK σ) (hW : WF D) (hR : Rel D (σ.1 262)) (hx : zr x) (hw0 : ¬ (0 ≤ x ∧ x < D 1 0)) : Sp l w mX10_bestYear 6 0 [zf 10 261, zi x] σ (zqv (some (zi 0)) (fun τ => zOK τ ∧ QP D σ τ ∧ τ.1 261 6 = 1)) := by
  obtain ⟨Q, hQ⟩ : ∃ Q : zQ, Q = (zqv (some (zi 0)) (fun τ => zOK τ ∧ QP D σ τ ∧ τ.1 261 6 = 1)) := ⟨_, rfl⟩
  rw [← hQ]
  refine zx_enter hfl (by decide) rfl 0 rfl ?_
  show zX l w mX10_bestYear (zMQ w 6 0 Q) 0 [zf 10 261, zi x] [] 0 σ
  have hP : 0 ≤ D 1 0 ∧ D 1 0 ≤ 8 := hW.1.1
  have hM : 0 ≤ D 1 7 ∧ D 1 7 ≤ 8 := hW.1.2.1
  have hE : 0 ≤ D 1 10 ∧ D 1 10 ≤ 12 := hW.1.2.2.1
  have hK : 0 ≤ D 12 0 ∧ D 12 0 ≤ 40 := hW.1.2.2.2
  have r0 : σ.1 262 0 = D 1 0 := hR.1.1
  have r1 : σ.1 262 1 = D 1 7 := hR.1.2.1
  have r2 : σ.1 262 2 = D 1 10 := hR.1.2.2.1
  have r3 : σ.1 262 3 = D 12 0 := hR.1.2.2.2
  refine zx_aloadN dX10_bestYear_0 rfl rfl ?_
  refine zx_aloadN dX10_bestYear_1 rfl rfl ?_
  refine zx_iloadN dX10_bestYear_2 rfl rfl ?_
  refine zy_cv [zi x] (sX10_isPrinter (D := D) hfl hz (by first | assumption | omega) (by first | assumption | (refine Rel_put (by decide) ?_; assumption) | (refine Rel_put (by decide) (Rel_put (by decide) ?_); assumption) | (refine Rel_put (by decide) (Rel_put (by decide) (Rel_put (by decide) ?_)); assumption)) (by first | exact hz _ _ | assumption | exact zr_b _ | exact zcmp_r _ _ | (unfold zr at *; omega))) dX10_bestYear_3 (by decide) rfl cw_RX10_400 okX10_isPrinter rfl (Nat.le_of_ble_eq_true rfl) ⟨Nat.le_of_ble_eq_true rfl, Nat.le_of_ble_eq_true rfl, Nat.le_of_ble_eq_true rfl, Nat.le_of_ble_eq_true rfl⟩ ?_
  refine zy_cv [zi (zb (0 ≤ x ∧ x < D 1 0))] (sX10_passes (A := (0 ≤ x ∧ x < D 1 0)) hfl hz ) dX10_bestYear_6 (by decide) rfl cw_RX10_220 okX10_passes rfl (Nat.le_of_ble_eq_true rfl) ⟨Nat.le_of_ble_eq_true rfl, Nat.le_of_ble_eq_true rfl, Nat.le_of_ble_eq_true rfl, Nat.le_of_ble_eq_true rfl⟩ ?_
  refine zx_if_ne (tgt := 14) (by first | exact hz _ _ | assumption | exact zr_b _ | exact zcmp_r _ _ | (unfold zr at *; omega)) dX10_bestYear_9 (by decide) (fun h9 => ?_) (fun h9 => ?_)
  · have h9 := zb_n.mp h9
    first | exact absurd (by assumption) hw0 | (exfalso; omega)
  · have h9 := zb_0.mp h9
    refine zx_iconst dX10_bestYear_12 ?_
    refine zx_iret rfl rfl dX10_bestYear_13 ?_
    rw [hQ]
    refine ⟨congrArg (fun z : Int => (Sum.inl (some (zi z)) : Option zV ⊕ String)) ?_, ?_⟩
    · rfl
    exact ⟨(zOK_put hz (zr_b _)), QP_th hR, (zput_s _ _ _ _).trans (zb_t hw0)⟩
set_option maxRecDepth 20000 in
set_option maxHeartbeats 2000000 in
theorem sX10_bestYear {l : Launch} {w : zW} (hfl : l.stackTraces = false) {σ : zS} {D : zBk} {x : Int} (hz : zOK σ) (hW : WF D) (hR : Rel D (σ.1 262)) (hx : zr x) (hw0 : 0 ≤ x ∧ x < D 1 0) : Sp l w mX10_bestYear 6 0 [zf 10 261, zi x] σ (zqv (some (zi (1450 + ((tR D (Ht D) x.toNat : Nat) : Int)))) (fun τ => zOK τ ∧ QP D σ τ ∧ τ.1 261 6 = 0)) := by
  obtain ⟨Q, hQ⟩ : ∃ Q : zQ, Q = (zqv (some (zi (1450 + ((tR D (Ht D) x.toNat : Nat) : Int)))) (fun τ => zOK τ ∧ QP D σ τ ∧ τ.1 261 6 = 0)) := ⟨_, rfl⟩
  rw [← hQ]
  refine zx_enter hfl (by decide) rfl 0 rfl ?_
  show zX l w mX10_bestYear (zMQ w 6 0 Q) 0 [zf 10 261, zi x] [] 0 σ
  have hP : 0 ≤ D 1 0 ∧ D 1 0 ≤ 8 := hW.1.1
  have hM : 0 ≤ D 1 7 ∧ D 1 7 ≤ 8 := hW.1.2.1
  have hE : 0 ≤ D 1 10 ∧ D 1 10 ≤ 12 := hW.1.2.2.1
  have hK : 0 ≤ D 12 0 ∧ D 12 0 ≤ 40 := hW.1.2.2.2
  have r0 : σ.1 262 0 = D 1 0 := hR.1.1
  have r1 : σ.1 262 1 = D 1 7 := hR.1.2.1
  have r2 : σ.1 262 2 = D 1 10 := hR.1.2.2.1
  have r3 : σ.1 262 3 = D 12 0 := hR.1.2.2.2
  have ex : x = ((x.toNat : Nat) : Int) := by omega
  refine zx_aloadN dX10_bestYear_0 rfl rfl ?_
  refine zx_aloadN dX10_bestYear_1 rfl rfl ?_
  refine zx_iloadN dX10_bestYear_2 rfl rfl ?_
  refine zy_cv [zi x] (sX10_isPrinter (D := D) hfl hz (by first | assumption | omega) (by first | assumption | (refine Rel_put (by decide) ?_; assumption) | (refine Rel_put (by decide) (Rel_put (by decide) ?_); assumption) | (refine Rel_put (by decide) (Rel_put (by decide) (Rel_put (by decide) ?_)); assumption)) (by first | exact hz _ _ | assumption | exact zr_b _ | exact zcmp_r _ _ | (unfold zr at *; omega))) dX10_bestYear_3 (by decide) rfl cw_RX10_400 okX10_isPrinter rfl (Nat.le_of_ble_eq_true rfl) ⟨Nat.le_of_ble_eq_true rfl, Nat.le_of_ble_eq_true rfl, Nat.le_of_ble_eq_true rfl, Nat.le_of_ble_eq_true rfl⟩ ?_
  refine zy_cv [zi (zb (0 ≤ x ∧ x < D 1 0))] (sX10_passes (A := (0 ≤ x ∧ x < D 1 0)) hfl hz ) dX10_bestYear_6 (by decide) rfl cw_RX10_220 okX10_passes rfl (Nat.le_of_ble_eq_true rfl) ⟨Nat.le_of_ble_eq_true rfl, Nat.le_of_ble_eq_true rfl, Nat.le_of_ble_eq_true rfl, Nat.le_of_ble_eq_true rfl⟩ ?_
  refine zx_if_ne (tgt := 14) (by first | exact hz _ _ | assumption | exact zr_b _ | exact zcmp_r _ _ | (unfold zr at *; omega)) dX10_bestYear_9 (by decide) (fun h9 => ?_) (fun h9 => ?_)
  · have h9 := zb_n.mp h9
    refine zx_aloadN dX10_bestYear_14 rfl rfl ?_
    refine zx_iloadN dX10_bestYear_15 rfl rfl ?_
    refine zy_top (b := ((x.toNat : Nat) : Int)) (ex) ?_
    refine zy_cvvR [zi ((x.toNat : Nat) : Int)] (sX10_findsBest (D := D) (p := x.toNat) hfl (zOK_put hz (zr_b _)) (by first | assumption | omega) (by first | assumption | (refine Rel_put (by decide) ?_; assumption) | (refine Rel_put (by decide) (Rel_put (by decide) ?_); assumption) | (refine Rel_put (by decide) (Rel_put (by decide) (Rel_put (by decide) ?_)); assumption)) (by first | assumption | omega)) dX10_bestYear_16 (by decide) rfl cw_RX10_142 okX10_findsBest rfl (Nat.le_of_ble_eq_true rfl) ⟨Nat.le_of_ble_eq_true rfl, Nat.le_of_ble_eq_true rfl, Nat.le_of_ble_eq_true rfl, Nat.le_of_ble_eq_true rfl⟩ (fun τ16 hr16 => ?_)
    have hz16 : zOK τ16 := hr16.1
    refine zx_aloadN dX10_bestYear_19 rfl rfl ?_
    refine zy_getI fl_RX10_133 rfl dX10_bestYear_20 rfl ?_
    refine zx_iret rfl rfl dX10_bestYear_23 ?_
    rw [hQ]
    refine ⟨congrArg (fun z : Int => (Sum.inl (some (zi z)) : Option zV ⊕ String)) ?_, ?_⟩
    · exact hr16.2.2.1
    exact ⟨hz16, QP_a (QP_th hR) hr16.2.1 (by omega) (fun k q => by unfold qA; omega) (fun k q => by unfold qF; omega), (hr16.2.1.2.1 6 (by omega)).trans ((zput_s _ _ _ _).trans (zb_f (fun q => q hw0)))⟩
  · have h9 := zb_0.mp h9
    first | exact absurd hw0 (by assumption) | (exfalso; omega)
set_option maxRecDepth 20000 in
set_option maxHeartbeats 2000000 in
theorem sX10_bestScore_t1 {l : Launch} {w : zW} (hfl : l.stackTraces = false) {σ : zS} {D : zBk} {x : Int} (hz : zOK σ) (hW : WF D) (hR : Rel D (σ.1 262)) (hx : zr x) (hw0 : ¬ (0 ≤ x ∧ x < D 1 0)) : Sp l w mX10_bestScore 7 0 [zf 10 261, zi x] σ (zqv (some (zi 0)) (fun τ => zOK τ ∧ QP D σ τ ∧ τ.1 261 6 = 1)) := by
  obtain ⟨Q, hQ⟩ : ∃ Q : zQ, Q = (zqv (some (zi 0)) (fun τ => zOK τ ∧ QP D σ τ ∧ τ.1 261 6 = 1)) := ⟨_, rfl⟩
  rw [← hQ]
  refine zx_enter hfl (by decide) rfl 0 rfl ?_
  show zX l w mX10_bestScore (zMQ w 7 0 Q) 0 [zf 10 261, zi x] [] 0 σ
  have hP : 0 ≤ D 1 0 ∧ D 1 0 ≤ 8 := hW.1.1
  have hM : 0 ≤ D 1 7 ∧ D 1 7 ≤ 8 := hW.1.2.1
  have hE : 0 ≤ D 1 10 ∧ D 1 10 ≤ 12 := hW.1.2.2.1
  have hK : 0 ≤ D 12 0 ∧ D 12 0 ≤ 40 := hW.1.2.2.2
  have r0 : σ.1 262 0 = D 1 0 := hR.1.1
  have r1 : σ.1 262 1 = D 1 7 := hR.1.2.1
  have r2 : σ.1 262 2 = D 1 10 := hR.1.2.2.1
  have r3 : σ.1 262 3 = D 12 0 := hR.1.2.2.2
  refine zx_aloadN dX10_bestScore_0 rfl rfl ?_
  refine zx_aloadN dX10_bestScore_1 rfl rfl ?_
  refine zx_iloadN dX10_bestScore_2 rfl rfl ?_
  refine zy_cv [zi x] (sX10_isPrinter (D := D) hfl hz (by first | assumption | omega) (by first | assumption | (refine Rel_put (by decide) ?_; assumption) | (refine Rel_put (by decide) (Rel_put (by decide) ?_); assumption) | (refine Rel_put (by decide) (Rel_put (by decide) (Rel_put (by decide) ?_)); assumption)) (by first | exact hz _ _ | assumption | exact zr_b _ | exact zcmp_r _ _ | (unfold zr at *; omega))) dX10_bestScore_3 (by decide) rfl cw_RX10_400 okX10_isPrinter rfl (Nat.le_of_ble_eq_true rfl) ⟨Nat.le_of_ble_eq_true rfl, Nat.le_of_ble_eq_true rfl, Nat.le_of_ble_eq_true rfl, Nat.le_of_ble_eq_true rfl⟩ ?_
  refine zy_cv [zi (zb (0 ≤ x ∧ x < D 1 0))] (sX10_passes (A := (0 ≤ x ∧ x < D 1 0)) hfl hz ) dX10_bestScore_6 (by decide) rfl cw_RX10_220 okX10_passes rfl (Nat.le_of_ble_eq_true rfl) ⟨Nat.le_of_ble_eq_true rfl, Nat.le_of_ble_eq_true rfl, Nat.le_of_ble_eq_true rfl, Nat.le_of_ble_eq_true rfl⟩ ?_
  refine zx_if_eq (tgt := 20) (by first | exact hz _ _ | assumption | exact zr_b _ | exact zcmp_r _ _ | (unfold zr at *; omega)) dX10_bestScore_9 (by decide) (fun h9 => ?_) (fun h9 => ?_)
  · have h9 := zb_0.mp h9
    refine zx_iconst dX10_bestScore_20 ?_
    refine zx_iret rfl rfl dX10_bestScore_21 ?_
    rw [hQ]
    refine ⟨congrArg (fun z : Int => (Sum.inl (some (zi z)) : Option zV ⊕ String)) ?_, ?_⟩
    · rfl
    exact ⟨(zOK_put hz (zr_b _)), QP_th hR, (zput_s _ _ _ _).trans (zb_t hw0)⟩
  · have h9 := zb_n.mp h9
    first | exact absurd (by assumption) hw0 | (exfalso; omega)
set_option maxRecDepth 20000 in
set_option maxHeartbeats 2000000 in
theorem sX10_bestScore {l : Launch} {w : zW} (hfl : l.stackTraces = false) {σ : zS} {D : zBk} {x : Int} (hz : zOK σ) (hW : WF D) (hR : Rel D (σ.1 262)) (hx : zr x) (hw0 : 0 ≤ x ∧ x < D 1 0) : Sp l w mX10_bestScore 7 0 [zf 10 261, zi x] σ (zqv (some (zi (tS D (Ht D) x.toNat))) (fun τ => zOK τ ∧ QP D σ τ ∧ τ.1 261 6 = 0)) := by
  obtain ⟨Q, hQ⟩ : ∃ Q : zQ, Q = (zqv (some (zi (tS D (Ht D) x.toNat))) (fun τ => zOK τ ∧ QP D σ τ ∧ τ.1 261 6 = 0)) := ⟨_, rfl⟩
  rw [← hQ]
  refine zx_enter hfl (by decide) rfl 0 rfl ?_
  show zX l w mX10_bestScore (zMQ w 7 0 Q) 0 [zf 10 261, zi x] [] 0 σ
  have hP : 0 ≤ D 1 0 ∧ D 1 0 ≤ 8 := hW.1.1
  have hM : 0 ≤ D 1 7 ∧ D 1 7 ≤ 8 := hW.1.2.1
  have hE : 0 ≤ D 1 10 ∧ D 1 10 ≤ 12 := hW.1.2.2.1
  have hK : 0 ≤ D 12 0 ∧ D 12 0 ≤ 40 := hW.1.2.2.2
  have r0 : σ.1 262 0 = D 1 0 := hR.1.1
  have r1 : σ.1 262 1 = D 1 7 := hR.1.2.1
  have r2 : σ.1 262 2 = D 1 10 := hR.1.2.2.1
  have r3 : σ.1 262 3 = D 12 0 := hR.1.2.2.2
  have ex : x = ((x.toNat : Nat) : Int) := by omega
  refine zx_aloadN dX10_bestScore_0 rfl rfl ?_
  refine zx_aloadN dX10_bestScore_1 rfl rfl ?_
  refine zx_iloadN dX10_bestScore_2 rfl rfl ?_
  refine zy_cv [zi x] (sX10_isPrinter (D := D) hfl hz (by first | assumption | omega) (by first | assumption | (refine Rel_put (by decide) ?_; assumption) | (refine Rel_put (by decide) (Rel_put (by decide) ?_); assumption) | (refine Rel_put (by decide) (Rel_put (by decide) (Rel_put (by decide) ?_)); assumption)) (by first | exact hz _ _ | assumption | exact zr_b _ | exact zcmp_r _ _ | (unfold zr at *; omega))) dX10_bestScore_3 (by decide) rfl cw_RX10_400 okX10_isPrinter rfl (Nat.le_of_ble_eq_true rfl) ⟨Nat.le_of_ble_eq_true rfl, Nat.le_of_ble_eq_true rfl, Nat.le_of_ble_eq_true rfl, Nat.le_of_ble_eq_true rfl⟩ ?_
  refine zy_cv [zi (zb (0 ≤ x ∧ x < D 1 0))] (sX10_passes (A := (0 ≤ x ∧ x < D 1 0)) hfl hz ) dX10_bestScore_6 (by decide) rfl cw_RX10_220 okX10_passes rfl (Nat.le_of_ble_eq_true rfl) ⟨Nat.le_of_ble_eq_true rfl, Nat.le_of_ble_eq_true rfl, Nat.le_of_ble_eq_true rfl, Nat.le_of_ble_eq_true rfl⟩ ?_
  refine zx_if_eq (tgt := 20) (by first | exact hz _ _ | assumption | exact zr_b _ | exact zcmp_r _ _ | (unfold zr at *; omega)) dX10_bestScore_9 (by decide) (fun h9 => ?_) (fun h9 => ?_)
  · have h9 := zb_0.mp h9
    refine zx_iconst dX10_bestScore_20 ?_
    refine zx_iret rfl rfl dX10_bestScore_21 ?_
    rw [hQ]
    refine ⟨congrArg (fun z : Int => (Sum.inl (some (zi z)) : Option zV ⊕ String)) ?_, ?_⟩
    · first | exact absurd hw0 (by assumption) | rfl
    first | exact absurd hw0 (by assumption) | exact ⟨(zOK_put hz (zr_b _)), QP_a (QP_th hR) hr14.2 (by omega) (fun k q => by unfold qA; omega) (fun k q => by unfold qF; omega), (hr14.2.2.1 6 (by omega)).trans ((zput_s _ _ _ _).trans (zb_f (fun q => q hw0)))⟩
  · have h9 := zb_n.mp h9
    refine zx_aloadN dX10_bestScore_12 rfl rfl ?_
    refine zx_iloadN dX10_bestScore_13 rfl rfl ?_
    refine zy_top (b := ((x.toNat : Nat) : Int)) (ex) ?_
    refine zy_cvR [zi ((x.toNat : Nat) : Int)] (sX10_bestOf (D := D) (p := x.toNat) hfl (zOK_put hz (zr_b _)) (by first | assumption | omega) (by first | assumption | (refine Rel_put (by decide) ?_; assumption) | (refine Rel_put (by decide) (Rel_put (by decide) ?_); assumption) | (refine Rel_put (by decide) (Rel_put (by decide) (Rel_put (by decide) ?_)); assumption)) (by first | assumption | omega)) dX10_bestScore_14 (by decide) rfl cw_RX10_145 okX10_bestOf rfl (Nat.le_of_ble_eq_true rfl) ⟨Nat.le_of_ble_eq_true rfl, Nat.le_of_ble_eq_true rfl, Nat.le_of_ble_eq_true rfl, Nat.le_of_ble_eq_true rfl⟩ (fun τ14 hr14 => ?_)
    have hz14 : zOK τ14 := hr14.1
    refine zx_goto (tgt := 21) dX10_bestScore_17 (by decide) ?_
    refine zx_iret rfl rfl dX10_bestScore_21 ?_
    rw [hQ]
    refine ⟨congrArg (fun z : Int => (Sum.inl (some (zi z)) : Option zV ⊕ String)) ?_, ?_⟩
    · first | exact absurd hw0 (by assumption) | rfl
    first | exact absurd hw0 (by assumption) | exact ⟨hz14, QP_a (QP_th hR) hr14.2 (by omega) (fun k q => by unfold qA; omega) (fun k q => by unfold qF; omega), (hr14.2.2.1 6 (by omega)).trans ((zput_s _ _ _ _).trans (zb_f (fun q => q hw0)))⟩
set_option maxRecDepth 20000 in
set_option maxHeartbeats 2000000 in
theorem sX10_bestYears_t1 {l : Launch} {w : zW} (hfl : l.stackTraces = false) {σ : zS} {D : zBk} {x : Int} (hz : zOK σ) (hW : WF D) (hR : Rel D (σ.1 262)) (hx : zr x) (hw0 : ¬ (0 ≤ x ∧ x < D 1 0)) : Sp l w mX10_bestYears 6 0 [zf 10 261, zi x] σ (zqv (some (zi 0)) (fun τ => zOK τ ∧ QP D σ τ ∧ τ.1 261 6 = 1)) := by
  obtain ⟨Q, hQ⟩ : ∃ Q : zQ, Q = (zqv (some (zi 0)) (fun τ => zOK τ ∧ QP D σ τ ∧ τ.1 261 6 = 1)) := ⟨_, rfl⟩
  rw [← hQ]
  refine zx_enter hfl (by decide) rfl 0 rfl ?_
  show zX l w mX10_bestYears (zMQ w 6 0 Q) 0 [zf 10 261, zi x] [] 0 σ
  have hP : 0 ≤ D 1 0 ∧ D 1 0 ≤ 8 := hW.1.1
  have hM : 0 ≤ D 1 7 ∧ D 1 7 ≤ 8 := hW.1.2.1
  have hE : 0 ≤ D 1 10 ∧ D 1 10 ≤ 12 := hW.1.2.2.1
  have hK : 0 ≤ D 12 0 ∧ D 12 0 ≤ 40 := hW.1.2.2.2
  have r0 : σ.1 262 0 = D 1 0 := hR.1.1
  have r1 : σ.1 262 1 = D 1 7 := hR.1.2.1
  have r2 : σ.1 262 2 = D 1 10 := hR.1.2.2.1
  have r3 : σ.1 262 3 = D 12 0 := hR.1.2.2.2
  refine zx_aloadN dX10_bestYears_0 rfl rfl ?_
  refine zx_aloadN dX10_bestYears_1 rfl rfl ?_
  refine zx_iloadN dX10_bestYears_2 rfl rfl ?_
  refine zy_cv [zi x] (sX10_isPrinter (D := D) hfl hz (by first | assumption | omega) (by first | assumption | (refine Rel_put (by decide) ?_; assumption) | (refine Rel_put (by decide) (Rel_put (by decide) ?_); assumption) | (refine Rel_put (by decide) (Rel_put (by decide) (Rel_put (by decide) ?_)); assumption)) (by first | exact hz _ _ | assumption | exact zr_b _ | exact zcmp_r _ _ | (unfold zr at *; omega))) dX10_bestYears_3 (by decide) rfl cw_RX10_400 okX10_isPrinter rfl (Nat.le_of_ble_eq_true rfl) ⟨Nat.le_of_ble_eq_true rfl, Nat.le_of_ble_eq_true rfl, Nat.le_of_ble_eq_true rfl, Nat.le_of_ble_eq_true rfl⟩ ?_
  refine zy_cv [zi (zb (0 ≤ x ∧ x < D 1 0))] (sX10_passes (A := (0 ≤ x ∧ x < D 1 0)) hfl hz ) dX10_bestYears_6 (by decide) rfl cw_RX10_220 okX10_passes rfl (Nat.le_of_ble_eq_true rfl) ⟨Nat.le_of_ble_eq_true rfl, Nat.le_of_ble_eq_true rfl, Nat.le_of_ble_eq_true rfl, Nat.le_of_ble_eq_true rfl⟩ ?_
  refine zx_if_ne (tgt := 14) (by first | exact hz _ _ | assumption | exact zr_b _ | exact zcmp_r _ _ | (unfold zr at *; omega)) dX10_bestYears_9 (by decide) (fun h9 => ?_) (fun h9 => ?_)
  · have h9 := zb_n.mp h9
    first | exact absurd (by assumption) hw0 | (exfalso; omega)
  · have h9 := zb_0.mp h9
    refine zx_iconst dX10_bestYears_12 ?_
    refine zx_iret rfl rfl dX10_bestYears_13 ?_
    rw [hQ]
    refine ⟨congrArg (fun z : Int => (Sum.inl (some (zi z)) : Option zV ⊕ String)) ?_, ?_⟩
    · rfl
    exact ⟨(zOK_put hz (zr_b _)), QP_th hR, (zput_s _ _ _ _).trans (zb_t hw0)⟩
set_option maxRecDepth 20000 in
set_option maxHeartbeats 2000000 in
theorem sX10_bestYears {l : Launch} {w : zW} (hfl : l.stackTraces = false) {σ : zS} {D : zBk} {x : Int} (hz : zOK σ) (hW : WF D) (hR : Rel D (σ.1 262)) (hx : zr x) (hw0 : 0 ≤ x ∧ x < D 1 0) : Sp l w mX10_bestYears 6 0 [zf 10 261, zi x] σ (zqv (some (zi (tN D (Ht D) x.toNat))) (fun τ => zOK τ ∧ QP D σ τ ∧ τ.1 261 6 = 0)) := by
  obtain ⟨Q, hQ⟩ : ∃ Q : zQ, Q = (zqv (some (zi (tN D (Ht D) x.toNat))) (fun τ => zOK τ ∧ QP D σ τ ∧ τ.1 261 6 = 0)) := ⟨_, rfl⟩
  rw [← hQ]
  refine zx_enter hfl (by decide) rfl 0 rfl ?_
  show zX l w mX10_bestYears (zMQ w 6 0 Q) 0 [zf 10 261, zi x] [] 0 σ
  have hP : 0 ≤ D 1 0 ∧ D 1 0 ≤ 8 := hW.1.1
  have hM : 0 ≤ D 1 7 ∧ D 1 7 ≤ 8 := hW.1.2.1
  have hE : 0 ≤ D 1 10 ∧ D 1 10 ≤ 12 := hW.1.2.2.1
  have hK : 0 ≤ D 12 0 ∧ D 12 0 ≤ 40 := hW.1.2.2.2
  have r0 : σ.1 262 0 = D 1 0 := hR.1.1
  have r1 : σ.1 262 1 = D 1 7 := hR.1.2.1
  have r2 : σ.1 262 2 = D 1 10 := hR.1.2.2.1
  have r3 : σ.1 262 3 = D 12 0 := hR.1.2.2.2
  have ex : x = ((x.toNat : Nat) : Int) := by omega
  refine zx_aloadN dX10_bestYears_0 rfl rfl ?_
  refine zx_aloadN dX10_bestYears_1 rfl rfl ?_
  refine zx_iloadN dX10_bestYears_2 rfl rfl ?_
  refine zy_cv [zi x] (sX10_isPrinter (D := D) hfl hz (by first | assumption | omega) (by first | assumption | (refine Rel_put (by decide) ?_; assumption) | (refine Rel_put (by decide) (Rel_put (by decide) ?_); assumption) | (refine Rel_put (by decide) (Rel_put (by decide) (Rel_put (by decide) ?_)); assumption)) (by first | exact hz _ _ | assumption | exact zr_b _ | exact zcmp_r _ _ | (unfold zr at *; omega))) dX10_bestYears_3 (by decide) rfl cw_RX10_400 okX10_isPrinter rfl (Nat.le_of_ble_eq_true rfl) ⟨Nat.le_of_ble_eq_true rfl, Nat.le_of_ble_eq_true rfl, Nat.le_of_ble_eq_true rfl, Nat.le_of_ble_eq_true rfl⟩ ?_
  refine zy_cv [zi (zb (0 ≤ x ∧ x < D 1 0))] (sX10_passes (A := (0 ≤ x ∧ x < D 1 0)) hfl hz ) dX10_bestYears_6 (by decide) rfl cw_RX10_220 okX10_passes rfl (Nat.le_of_ble_eq_true rfl) ⟨Nat.le_of_ble_eq_true rfl, Nat.le_of_ble_eq_true rfl, Nat.le_of_ble_eq_true rfl, Nat.le_of_ble_eq_true rfl⟩ ?_
  refine zx_if_ne (tgt := 14) (by first | exact hz _ _ | assumption | exact zr_b _ | exact zcmp_r _ _ | (unfold zr at *; omega)) dX10_bestYears_9 (by decide) (fun h9 => ?_) (fun h9 => ?_)
  · have h9 := zb_n.mp h9
    refine zx_aloadN dX10_bestYears_14 rfl rfl ?_
    refine zx_iloadN dX10_bestYears_15 rfl rfl ?_
    refine zy_top (b := ((x.toNat : Nat) : Int)) (ex) ?_
    refine zy_cvvR [zi ((x.toNat : Nat) : Int)] (sX10_findsBest (D := D) (p := x.toNat) hfl (zOK_put hz (zr_b _)) (by first | assumption | omega) (by first | assumption | (refine Rel_put (by decide) ?_; assumption) | (refine Rel_put (by decide) (Rel_put (by decide) ?_); assumption) | (refine Rel_put (by decide) (Rel_put (by decide) (Rel_put (by decide) ?_)); assumption)) (by first | assumption | omega)) dX10_bestYears_16 (by decide) rfl cw_RX10_142 okX10_findsBest rfl (Nat.le_of_ble_eq_true rfl) ⟨Nat.le_of_ble_eq_true rfl, Nat.le_of_ble_eq_true rfl, Nat.le_of_ble_eq_true rfl, Nat.le_of_ble_eq_true rfl⟩ (fun τ16 hr16 => ?_)
    have hz16 : zOK τ16 := hr16.1
    refine zx_aloadN dX10_bestYears_19 rfl rfl ?_
    refine zy_getI fl_RX10_139 rfl dX10_bestYears_20 rfl ?_
    refine zx_iret rfl rfl dX10_bestYears_23 ?_
    rw [hQ]
    refine ⟨congrArg (fun z : Int => (Sum.inl (some (zi z)) : Option zV ⊕ String)) ?_, ?_⟩
    · exact hr16.2.2.2.2
    exact ⟨hz16, QP_a (QP_th hR) hr16.2.1 (by omega) (fun k q => by unfold qA; omega) (fun k q => by unfold qF; omega), (hr16.2.1.2.1 6 (by omega)).trans ((zput_s _ _ _ _).trans (zb_f (fun q => q hw0)))⟩
  · have h9 := zb_0.mp h9
    first | exact absurd hw0 (by assumption) | (exfalso; omega)
set_option maxRecDepth 20000 in
set_option maxHeartbeats 2000000 in
theorem sX10_printerByRank {l : Launch} {w : zW} (hfl : l.stackTraces = false) {σ : zS} {D : zBk} {x : Int} (hz : zOK σ) (hW : WF D) (hR : Rel D (σ.1 262)) (hx : zr x) : Sp l w mX10_printerByRank 9 0 [zf 10 261, zi x] σ (zqv (some (zi (rkP D (Ht D) x))) (fun τ => zOK τ ∧ QP D σ τ ∧ τ.1 261 6 = 0)) := by
  obtain ⟨Q, hQ⟩ : ∃ Q : zQ, Q = (zqv (some (zi (rkP D (Ht D) x))) (fun τ => zOK τ ∧ QP D σ τ ∧ τ.1 261 6 = 0)) := ⟨_, rfl⟩
  rw [← hQ]
  refine zx_enter hfl (by decide) rfl 0 rfl ?_
  show zX l w mX10_printerByRank (zMQ w 9 0 Q) 0 [zf 10 261, zi x] [] 0 σ
  have hP : 0 ≤ D 1 0 ∧ D 1 0 ≤ 8 := hW.1.1
  have hM : 0 ≤ D 1 7 ∧ D 1 7 ≤ 8 := hW.1.2.1
  have hE : 0 ≤ D 1 10 ∧ D 1 10 ≤ 12 := hW.1.2.2.1
  have hK : 0 ≤ D 12 0 ∧ D 12 0 ≤ 40 := hW.1.2.2.2
  have r0 : σ.1 262 0 = D 1 0 := hR.1.1
  have r1 : σ.1 262 1 = D 1 7 := hR.1.2.1
  have r2 : σ.1 262 2 = D 1 10 := hR.1.2.2.1
  have r3 : σ.1 262 3 = D 12 0 := hR.1.2.2.2
  have hzk : zr (rkP D (Ht D) x) := rkP_z hW x
  refine zx_aloadN dX10_printerByRank_0 rfl rfl ?_
  refine zx_aloadN dX10_printerByRank_1 rfl rfl ?_
  refine zx_iloadN dX10_printerByRank_2 rfl rfl ?_
  refine zy_cvR [zi x] (sX10_byRank (D := D) hfl hz (by first | assumption | omega) (by first | assumption | (refine Rel_put (by decide) ?_; assumption) | (refine Rel_put (by decide) (Rel_put (by decide) ?_); assumption) | (refine Rel_put (by decide) (Rel_put (by decide) (Rel_put (by decide) ?_)); assumption)) (by first | exact hz _ _ | assumption | exact zr_b _ | exact zcmp_r _ _ | (unfold zr at *; omega))) dX10_printerByRank_3 (by decide) rfl cw_RX10_157 okX10_byRank rfl (Nat.le_of_ble_eq_true rfl) ⟨Nat.le_of_ble_eq_true rfl, Nat.le_of_ble_eq_true rfl, Nat.le_of_ble_eq_true rfl, Nat.le_of_ble_eq_true rfl⟩ (fun τ3 hr3 => ?_)
  have hz3 : zOK τ3 := hr3.1
  refine zy_cv [zi (rkP D (Ht D) x)] (sX10_tells  hfl hz3 (by first | exact hz3 _ _ | assumption | exact zr_b _ | exact zcmp_r _ _ | (unfold zr at *; omega))) dX10_printerByRank_6 (by decide) rfl cw_RX10_397 okX10_tells rfl (Nat.le_of_ble_eq_true rfl) ⟨Nat.le_of_ble_eq_true rfl, Nat.le_of_ble_eq_true rfl, Nat.le_of_ble_eq_true rfl, Nat.le_of_ble_eq_true rfl⟩ ?_
  refine zx_iret rfl rfl dX10_printerByRank_9 ?_
  rw [hQ]
  refine ⟨congrArg (fun z : Int => (Sum.inl (some (zi z)) : Option zV ⊕ String)) ?_, ?_⟩
  · rfl
  exact ⟨(zOK_put hz3 (by unfold zr; omega)), QP_tr (QP_m hr3.2.1 hR (by omega) (fun k q => by unfold qA; omega) (fun k q => by unfold qF; omega)) (QP_th (mfr_R hr3.2.1 (by omega) hR)), zput_s _ _ _ _⟩
set_option maxRecDepth 20000 in
set_option maxHeartbeats 2000000 in
theorem sX10_verdictPrinter {l : Launch} {w : zW} (hfl : l.stackTraces = false) {σ : zS} {D : zBk}  (hz : zOK σ) (hW : WF D) (hR : Rel D (σ.1 262)) (hP1 : 1 ≤ D 1 0) : Sp l w mX10_verdictPrinter 10 0 [zf 10 261] σ (zqv (some (zi ((wP D (Ht D) : Nat) : Int))) (fun τ => zOK τ ∧ QP D σ τ ∧ τ.1 261 6 = 0)) := by
  obtain ⟨Q, hQ⟩ : ∃ Q : zQ, Q = (zqv (some (zi ((wP D (Ht D) : Nat) : Int))) (fun τ => zOK τ ∧ QP D σ τ ∧ τ.1 261 6 = 0)) := ⟨_, rfl⟩
  rw [← hQ]
  refine zx_enter hfl (by decide) rfl 0 rfl ?_
  show zX l w mX10_verdictPrinter (zMQ w 10 0 Q) 0 [zf 10 261] [] 0 σ
  have hP : 0 ≤ D 1 0 ∧ D 1 0 ≤ 8 := hW.1.1
  have hM : 0 ≤ D 1 7 ∧ D 1 7 ≤ 8 := hW.1.2.1
  have hE : 0 ≤ D 1 10 ∧ D 1 10 ≤ 12 := hW.1.2.2.1
  have hK : 0 ≤ D 12 0 ∧ D 12 0 ≤ 40 := hW.1.2.2.2
  have r0 : σ.1 262 0 = D 1 0 := hR.1.1
  have r1 : σ.1 262 1 = D 1 7 := hR.1.2.1
  have r2 : σ.1 262 2 = D 1 10 := hR.1.2.2.1
  have r3 : σ.1 262 3 = D 12 0 := hR.1.2.2.2
  have hwl := wP_l (H := Ht D) hW hP1
  have hwb := wS_b hW
  have hyb := wY_b hW hP1
  refine zx_aloadN dX10_verdictPrinter_0 rfl rfl ?_
  refine zx_aloadN dX10_verdictPrinter_1 rfl rfl ?_
  refine zy_cvR [] (sX10_verdict (D := D) hfl hz (by first | assumption | omega) (by first | assumption | (refine Rel_put (by decide) ?_; assumption) | (refine Rel_put (by decide) (Rel_put (by decide) ?_); assumption) | (refine Rel_put (by decide) (Rel_put (by decide) (Rel_put (by decide) ?_)); assumption)) (by first | assumption | omega)) dX10_verdictPrinter_2 (by decide) rfl cw_RX10_160 okX10_verdict rfl (Nat.le_of_ble_eq_true rfl) ⟨Nat.le_of_ble_eq_true rfl, Nat.le_of_ble_eq_true rfl, Nat.le_of_ble_eq_true rfl, Nat.le_of_ble_eq_true rfl⟩ (fun τ2 hr2 => ?_)
  have hz2 : zOK τ2 := hr2.1
  refine zy_cv [zi ((wP D (Ht D) : Nat) : Int)] (sX10_tells  hfl hz2 (by first | exact hz2 _ _ | assumption | exact zr_b _ | exact zcmp_r _ _ | (unfold zr at *; omega))) dX10_verdictPrinter_5 (by decide) rfl cw_RX10_397 okX10_tells rfl (Nat.le_of_ble_eq_true rfl) ⟨Nat.le_of_ble_eq_true rfl, Nat.le_of_ble_eq_true rfl, Nat.le_of_ble_eq_true rfl, Nat.le_of_ble_eq_true rfl⟩ ?_
  refine zx_iret rfl rfl dX10_verdictPrinter_8 ?_
  rw [hQ]
  refine ⟨congrArg (fun z : Int => (Sum.inl (some (zi z)) : Option zV ⊕ String)) ?_, ?_⟩
  · rfl
  exact ⟨(zOK_put hz2 (by unfold zr; omega)), QP_tr (QP_m hr2.2.1 hR (by omega) (fun k q => by unfold qA; omega) (fun k q => by unfold qF; omega)) (QP_th (mfr_R hr2.2.1 (by omega) hR)), zput_s _ _ _ _⟩
set_option maxRecDepth 20000 in
set_option maxHeartbeats 2000000 in
theorem sX10_verdictYear {l : Launch} {w : zW} (hfl : l.stackTraces = false) {σ : zS} {D : zBk}  (hz : zOK σ) (hW : WF D) (hR : Rel D (σ.1 262)) (hP1 : 1 ≤ D 1 0) : Sp l w mX10_verdictYear 11 0 [zf 10 261] σ (zqv (some (zi (wY D (Ht D)))) (fun τ => zOK τ ∧ QP D σ τ ∧ τ.1 261 6 = 0)) := by
  obtain ⟨Q, hQ⟩ : ∃ Q : zQ, Q = (zqv (some (zi (wY D (Ht D)))) (fun τ => zOK τ ∧ QP D σ τ ∧ τ.1 261 6 = 0)) := ⟨_, rfl⟩
  rw [← hQ]
  refine zx_enter hfl (by decide) rfl 0 rfl ?_
  show zX l w mX10_verdictYear (zMQ w 11 0 Q) 0 [zf 10 261] [] 0 σ
  have hP : 0 ≤ D 1 0 ∧ D 1 0 ≤ 8 := hW.1.1
  have hM : 0 ≤ D 1 7 ∧ D 1 7 ≤ 8 := hW.1.2.1
  have hE : 0 ≤ D 1 10 ∧ D 1 10 ≤ 12 := hW.1.2.2.1
  have hK : 0 ≤ D 12 0 ∧ D 12 0 ≤ 40 := hW.1.2.2.2
  have r0 : σ.1 262 0 = D 1 0 := hR.1.1
  have r1 : σ.1 262 1 = D 1 7 := hR.1.2.1
  have r2 : σ.1 262 2 = D 1 10 := hR.1.2.2.1
  have r3 : σ.1 262 3 = D 12 0 := hR.1.2.2.2
  have hwl := wP_l (H := Ht D) hW hP1
  have hwb := wS_b hW
  have hyb := wY_b hW hP1
  refine zx_aloadN dX10_verdictYear_0 rfl rfl ?_
  refine zx_aloadN dX10_verdictYear_1 rfl rfl ?_
  refine zy_cvR [] (sX10_yearOfVerdict (D := D) hfl hz (by first | assumption | omega) (by first | assumption | (refine Rel_put (by decide) ?_; assumption) | (refine Rel_put (by decide) (Rel_put (by decide) ?_); assumption) | (refine Rel_put (by decide) (Rel_put (by decide) (Rel_put (by decide) ?_)); assumption)) (by first | assumption | omega)) dX10_verdictYear_2 (by decide) rfl cw_RX10_166 okX10_yearOfVerdict rfl (Nat.le_of_ble_eq_true rfl) ⟨Nat.le_of_ble_eq_true rfl, Nat.le_of_ble_eq_true rfl, Nat.le_of_ble_eq_true rfl, Nat.le_of_ble_eq_true rfl⟩ (fun τ2 hr2 => ?_)
  have hz2 : zOK τ2 := hr2.1
  refine zy_cv [zi (wY D (Ht D))] (sX10_tells  hfl hz2 (by first | exact hz2 _ _ | assumption | exact zr_b _ | exact zcmp_r _ _ | (unfold zr at *; omega))) dX10_verdictYear_5 (by decide) rfl cw_RX10_397 okX10_tells rfl (Nat.le_of_ble_eq_true rfl) ⟨Nat.le_of_ble_eq_true rfl, Nat.le_of_ble_eq_true rfl, Nat.le_of_ble_eq_true rfl, Nat.le_of_ble_eq_true rfl⟩ ?_
  refine zx_iret rfl rfl dX10_verdictYear_8 ?_
  rw [hQ]
  refine ⟨congrArg (fun z : Int => (Sum.inl (some (zi z)) : Option zV ⊕ String)) ?_, ?_⟩
  · rfl
  exact ⟨(zOK_put hz2 (by unfold zr; omega)), QP_tr (QP_m hr2.2.1 hR (by omega) (fun k q => by unfold qA; omega) (fun k q => by unfold qF; omega)) (QP_th (mfr_R hr2.2.1 (by omega) hR)), zput_s _ _ _ _⟩
set_option maxRecDepth 20000 in
set_option maxHeartbeats 2000000 in
theorem sX10_verdictScore {l : Launch} {w : zW} (hfl : l.stackTraces = false) {σ : zS} {D : zBk}  (hz : zOK σ) (hW : WF D) (hR : Rel D (σ.1 262)) (hP1 : 1 ≤ D 1 0) : Sp l w mX10_verdictScore 12 0 [zf 10 261] σ (zqv (some (zi (wS D (Ht D)))) (fun τ => zOK τ ∧ QP D σ τ ∧ τ.1 261 6 = 0)) := by
  obtain ⟨Q, hQ⟩ : ∃ Q : zQ, Q = (zqv (some (zi (wS D (Ht D)))) (fun τ => zOK τ ∧ QP D σ τ ∧ τ.1 261 6 = 0)) := ⟨_, rfl⟩
  rw [← hQ]
  refine zx_enter hfl (by decide) rfl 0 rfl ?_
  show zX l w mX10_verdictScore (zMQ w 12 0 Q) 0 [zf 10 261] [] 0 σ
  have hP : 0 ≤ D 1 0 ∧ D 1 0 ≤ 8 := hW.1.1
  have hM : 0 ≤ D 1 7 ∧ D 1 7 ≤ 8 := hW.1.2.1
  have hE : 0 ≤ D 1 10 ∧ D 1 10 ≤ 12 := hW.1.2.2.1
  have hK : 0 ≤ D 12 0 ∧ D 12 0 ≤ 40 := hW.1.2.2.2
  have r0 : σ.1 262 0 = D 1 0 := hR.1.1
  have r1 : σ.1 262 1 = D 1 7 := hR.1.2.1
  have r2 : σ.1 262 2 = D 1 10 := hR.1.2.2.1
  have r3 : σ.1 262 3 = D 12 0 := hR.1.2.2.2
  have hwl := wP_l (H := Ht D) hW hP1
  have hwb := wS_b hW
  have hyb := wY_b hW hP1
  refine zx_aloadN dX10_verdictScore_0 rfl rfl ?_
  refine zx_aloadN dX10_verdictScore_1 rfl rfl ?_
  refine zy_cvR [] (sX10_scoreOfVerdict (D := D) hfl hz (by first | assumption | omega) (by first | assumption | (refine Rel_put (by decide) ?_; assumption) | (refine Rel_put (by decide) (Rel_put (by decide) ?_); assumption) | (refine Rel_put (by decide) (Rel_put (by decide) (Rel_put (by decide) ?_)); assumption)) (by first | assumption | omega)) dX10_verdictScore_2 (by decide) rfl cw_RX10_208 okX10_scoreOfVerdict rfl (Nat.le_of_ble_eq_true rfl) ⟨Nat.le_of_ble_eq_true rfl, Nat.le_of_ble_eq_true rfl, Nat.le_of_ble_eq_true rfl, Nat.le_of_ble_eq_true rfl⟩ (fun τ2 hr2 => ?_)
  have hz2 : zOK τ2 := hr2.1
  refine zy_cv [zi (wS D (Ht D))] (sX10_tells  hfl hz2 (by first | exact hz2 _ _ | assumption | exact zr_b _ | exact zcmp_r _ _ | (unfold zr at *; omega))) dX10_verdictScore_5 (by decide) rfl cw_RX10_397 okX10_tells rfl (Nat.le_of_ble_eq_true rfl) ⟨Nat.le_of_ble_eq_true rfl, Nat.le_of_ble_eq_true rfl, Nat.le_of_ble_eq_true rfl, Nat.le_of_ble_eq_true rfl⟩ ?_
  refine zx_iret rfl rfl dX10_verdictScore_8 ?_
  rw [hQ]
  refine ⟨congrArg (fun z : Int => (Sum.inl (some (zi z)) : Option zV ⊕ String)) ?_, ?_⟩
  · rfl
  exact ⟨(zOK_put hz2 (by unfold zr; omega)), QP_tr (QP_m hr2.2.1 hR (by omega) (fun k q => by unfold qA; omega) (fun k q => by unfold qF; omega)) (QP_th (mfr_R hr2.2.1 (by omega) hR)), zput_s _ _ _ _⟩

