abbrev mX1_lend : zM := (yX1_lend, cX1_lend, 4, (some .int), [])
theorem okX1_lend : zMok mX1_lend 3 := ⟨by decide, by decide, by decide +kernel⟩
theorem dX1_lend_0 : decode cX1_lend 0 = .ok (.aload_n 0, 1) := by decide +kernel
theorem dX1_lend_1 : decode cX1_lend 1 = .ok (.getfield 12, 3) := by decide +kernel
theorem dX1_lend_4 : decode cX1_lend 4 = .ok (.iload_n 1, 1) := by decide +kernel
theorem dX1_lend_5 : decode cX1_lend 5 = .ok (.invokevirtual 74, 3) := by decide +kernel
theorem dX1_lend_8 : decode cX1_lend 8 = .ok (.ifCond .eq 14, 3) := by decide +kernel
theorem dX1_lend_22 : decode cX1_lend 22 = .ok (.iconst 1, 1) := by decide +kernel
theorem dX1_lend_23 : decode cX1_lend 23 = .ok (.ireturn, 1) := by decide +kernel
theorem dX1_lend_11 : decode cX1_lend 11 = .ok (.aload_n 0, 1) := by decide +kernel
theorem dX1_lend_12 : decode cX1_lend 12 = .ok (.getfield 12, 3) := by decide +kernel
theorem dX1_lend_15 : decode cX1_lend 15 = .ok (.iload_n 2, 1) := by decide +kernel
theorem dX1_lend_16 : decode cX1_lend 16 = .ok (.invokevirtual 74, 3) := by decide +kernel
theorem dX1_lend_19 : decode cX1_lend 19 = .ok (.ifCond .ne 5, 3) := by decide +kernel
theorem dX1_lend_24 : decode cX1_lend 24 = .ok (.iload_n 1, 1) := by decide +kernel
theorem dX1_lend_25 : decode cX1_lend 25 = .ok (.iload_n 2, 1) := by decide +kernel
theorem dX1_lend_26 : decode cX1_lend 26 = .ok (.if_icmp .ne 5, 3) := by decide +kernel
theorem dX1_lend_29 : decode cX1_lend 29 = .ok (.iconst 2, 1) := by decide +kernel
theorem dX1_lend_30 : decode cX1_lend 30 = .ok (.ireturn, 1) := by decide +kernel
theorem dX1_lend_31 : decode cX1_lend 31 = .ok (.aload_n 0, 1) := by decide +kernel
theorem dX1_lend_32 : decode cX1_lend 32 = .ok (.getfield 12, 3) := by decide +kernel
theorem dX1_lend_35 : decode cX1_lend 35 = .ok (.iload_n 1, 1) := by decide +kernel
theorem dX1_lend_36 : decode cX1_lend 36 = .ok (.iload_n 3, 1) := by decide +kernel
theorem dX1_lend_37 : decode cX1_lend 37 = .ok (.invokevirtual 77, 3) := by decide +kernel
theorem dX1_lend_40 : decode cX1_lend 40 = .ok (.ifCond .ne 5, 3) := by decide +kernel
theorem dX1_lend_43 : decode cX1_lend 43 = .ok (.iconst 3, 1) := by decide +kernel
theorem dX1_lend_44 : decode cX1_lend 44 = .ok (.ireturn, 1) := by decide +kernel
theorem dX1_lend_45 : decode cX1_lend 45 = .ok (.aload_n 0, 1) := by decide +kernel
theorem dX1_lend_46 : decode cX1_lend 46 = .ok (.getfield 12, 3) := by decide +kernel
theorem dX1_lend_49 : decode cX1_lend 49 = .ok (.iload_n 1, 1) := by decide +kernel
theorem dX1_lend_50 : decode cX1_lend 50 = .ok (.iload_n 3, 1) := by decide +kernel
theorem dX1_lend_51 : decode cX1_lend 51 = .ok (.invokevirtual 81, 3) := by decide +kernel
theorem cw_RX1_81 : zCwV RX1 81 mX0_takeDevice := zall [979, 980, 981, 35, 982] (by decide +kernel) (by decide +kernel)
theorem dX1_lend_54 : decode cX1_lend 54 = .ok (.aload_n 0, 1) := by decide +kernel
theorem dX1_lend_55 : decode cX1_lend 55 = .ok (.getfield 12, 3) := by decide +kernel
theorem dX1_lend_58 : decode cX1_lend 58 = .ok (.iload_n 2, 1) := by decide +kernel
theorem dX1_lend_59 : decode cX1_lend 59 = .ok (.iload_n 3, 1) := by decide +kernel
theorem dX1_lend_60 : decode cX1_lend 60 = .ok (.invokevirtual 85, 3) := by decide +kernel
theorem cw_RX1_85 : zCwV RX1 85 mX0_giveDevice := zall [983, 524, 525, 35, 526] (by decide +kernel) (by decide +kernel)
theorem dX1_lend_63 : decode cX1_lend 63 = .ok (.iconst 0, 1) := by decide +kernel
theorem dX1_lend_64 : decode cX1_lend 64 = .ok (.ireturn, 1) := by decide +kernel
abbrev mX9_addClue : zM := (yX9_addClue, cX9_addClue, 5, (some .int), [])
theorem okX9_addClue : zMok mX9_addClue 4 := ⟨by decide, by decide, by decide +kernel⟩
theorem dX9_addClue_0 : decode cX9_addClue 0 = .ok (.aload_n 0, 1) := by decide +kernel
theorem dX9_addClue_1 : decode cX9_addClue 1 = .ok (.getfield 47, 3) := by decide +kernel
theorem fl_RX9_47 : zFl RX9 47 9 6 := ⟨RX9, TX9, 9, rfl, by decide, zmem1 567 (by decide +kernel) rfl, rfl⟩
theorem dX9_addClue_4 : decode cX9_addClue 4 = .ok (.aload_n 0, 1) := by decide +kernel
theorem dX9_addClue_5 : decode cX9_addClue 5 = .ok (.getfield 33, 3) := by decide +kernel
theorem dX9_addClue_8 : decode cX9_addClue 8 = .ok (.invokevirtual 143, 3) := by decide +kernel
theorem cw_RX9_143 : zCwV RX9 143 mX5_prepare := zall [742, 743, 744, 38, 745] (by decide +kernel) (by decide +kernel)
theorem dX9_addClue_11 : decode cX9_addClue 11 = .ok (.aload_n 0, 1) := by decide +kernel
theorem dX9_addClue_12 : decode cX9_addClue 12 = .ok (.getfield 33, 3) := by decide +kernel
theorem dX9_addClue_15 : decode cX9_addClue 15 = .ok (.iload_n 1, 1) := by decide +kernel
theorem dX9_addClue_16 : decode cX9_addClue 16 = .ok (.iload_n 2, 1) := by decide +kernel
theorem dX9_addClue_17 : decode cX9_addClue 17 = .ok (.iload_n 3, 1) := by decide +kernel
theorem dX9_addClue_18 : decode cX9_addClue 18 = .ok (.iload 4, 2) := by decide +kernel
theorem dX9_addClue_20 : decode cX9_addClue 20 = .ok (.invokevirtual 351, 3) := by decide +kernel
theorem cw_RX9_351 : zCwV RX9 351 mX1_enterClue := zall [747, 748, 749, 34, 750] (by decide +kernel) (by decide +kernel)
theorem dX9_addClue_23 : decode cX9_addClue 23 = .ok (.invokestatic 300, 3) := by decide +kernel
theorem cw_RX9_300 : zCwS RX9 300 mX9_refuse := zall [756, 757, 31, 758] (by decide +kernel) (by decide +kernel)
theorem dX9_addClue_26 : decode cX9_addClue 26 = .ok (.aload_n 0, 1) := by decide +kernel
theorem dX9_addClue_27 : decode cX9_addClue 27 = .ok (.getfield 47, 3) := by decide +kernel
theorem dX9_addClue_30 : decode cX9_addClue 30 = .ok (.invokevirtual 151, 3) := by decide +kernel
theorem cw_RX9_151 : zCwV RX9 151 mX5_commit := zall [777, 778, 779, 38, 780] (by decide +kernel) (by decide +kernel)
theorem dX9_addClue_33 : decode cX9_addClue 33 = .ok (.aload_n 0, 1) := by decide +kernel
theorem dX9_addClue_34 : decode cX9_addClue 34 = .ok (.getfield 33, 3) := by decide +kernel
theorem dX9_addClue_37 : decode cX9_addClue 37 = .ok (.getfield 125, 3) := by decide +kernel
theorem dX9_addClue_40 : decode cX9_addClue 40 = .ok (.getfield 129, 3) := by decide +kernel
theorem dX9_addClue_43 : decode cX9_addClue 43 = .ok (.iconst 1, 1) := by decide +kernel
theorem dX9_addClue_44 : decode cX9_addClue 44 = .ok (.isub, 1) := by decide +kernel
theorem dX9_addClue_45 : decode cX9_addClue 45 = .ok (.ireturn, 1) := by decide +kernel
abbrev mX9_addDeviceClue : zM := (yX9_addDeviceClue, cX9_addDeviceClue, 4, (some .int), [])
theorem okX9_addDeviceClue : zMok mX9_addDeviceClue 3 := ⟨by decide, by decide, by decide +kernel⟩
theorem dX9_addDeviceClue_0 : decode cX9_addDeviceClue 0 = .ok (.aload_n 0, 1) := by decide +kernel
theorem dX9_addDeviceClue_1 : decode cX9_addDeviceClue 1 = .ok (.iload_n 1, 1) := by decide +kernel
theorem dX9_addDeviceClue_2 : decode cX9_addDeviceClue 2 = .ok (.iconst 0, 1) := by decide +kernel
theorem dX9_addDeviceClue_3 : decode cX9_addDeviceClue 3 = .ok (.iload_n 2, 1) := by decide +kernel
theorem dX9_addDeviceClue_4 : decode cX9_addDeviceClue 4 = .ok (.iload_n 3, 1) := by decide +kernel
theorem dX9_addDeviceClue_5 : decode cX9_addDeviceClue 5 = .ok (.invokevirtual 293, 3) := by decide +kernel
theorem cw_RX9_293 : zCwV RX9 293 mX9_addClue := zall [738, 740, 9, 31, 741] (by decide +kernel) (by decide +kernel)
theorem dX9_addDeviceClue_8 : decode cX9_addDeviceClue 8 = .ok (.ireturn, 1) := by decide +kernel
abbrev mX9_addTypefaceClue : zM := (yX9_addTypefaceClue, cX9_addTypefaceClue, 4, (some .int), [])
theorem okX9_addTypefaceClue : zMok mX9_addTypefaceClue 3 := ⟨by decide, by decide, by decide +kernel⟩
theorem dX9_addTypefaceClue_0 : decode cX9_addTypefaceClue 0 = .ok (.aload_n 0, 1) := by decide +kernel
theorem dX9_addTypefaceClue_1 : decode cX9_addTypefaceClue 1 = .ok (.iload_n 1, 1) := by decide +kernel
theorem dX9_addTypefaceClue_2 : decode cX9_addTypefaceClue 2 = .ok (.iconst 1, 1) := by decide +kernel
theorem dX9_addTypefaceClue_3 : decode cX9_addTypefaceClue 3 = .ok (.iload_n 2, 1) := by decide +kernel
theorem dX9_addTypefaceClue_4 : decode cX9_addTypefaceClue 4 = .ok (.iload_n 3, 1) := by decide +kernel
theorem dX9_addTypefaceClue_5 : decode cX9_addTypefaceClue 5 = .ok (.invokevirtual 293, 3) := by decide +kernel
theorem dX9_addTypefaceClue_8 : decode cX9_addTypefaceClue 8 = .ok (.ireturn, 1) := by decide +kernel
abbrev mX9_addWatermarkClue : zM := (yX9_addWatermarkClue, cX9_addWatermarkClue, 4, (some .int), [])
theorem okX9_addWatermarkClue : zMok mX9_addWatermarkClue 3 := ⟨by decide, by decide, by decide +kernel⟩
theorem dX9_addWatermarkClue_0 : decode cX9_addWatermarkClue 0 = .ok (.aload_n 0, 1) := by decide +kernel
theorem dX9_addWatermarkClue_1 : decode cX9_addWatermarkClue 1 = .ok (.iload_n 1, 1) := by decide +kernel
theorem dX9_addWatermarkClue_2 : decode cX9_addWatermarkClue 2 = .ok (.iconst 2, 1) := by decide +kernel
theorem dX9_addWatermarkClue_3 : decode cX9_addWatermarkClue 3 = .ok (.iload_n 2, 1) := by decide +kernel
theorem dX9_addWatermarkClue_4 : decode cX9_addWatermarkClue 4 = .ok (.iload_n 3, 1) := by decide +kernel
theorem dX9_addWatermarkClue_5 : decode cX9_addWatermarkClue 5 = .ok (.invokevirtual 293, 3) := by decide +kernel
theorem dX9_addWatermarkClue_8 : decode cX9_addWatermarkClue 8 = .ok (.ireturn, 1) := by decide +kernel
abbrev mX9_addCityClue : zM := (yX9_addCityClue, cX9_addCityClue, 4, (some .int), [])
theorem okX9_addCityClue : zMok mX9_addCityClue 3 := ⟨by decide, by decide, by decide +kernel⟩
theorem dX9_addCityClue_0 : decode cX9_addCityClue 0 = .ok (.aload_n 0, 1) := by decide +kernel
theorem dX9_addCityClue_1 : decode cX9_addCityClue 1 = .ok (.iload_n 1, 1) := by decide +kernel
theorem dX9_addCityClue_2 : decode cX9_addCityClue 2 = .ok (.iconst 3, 1) := by decide +kernel
theorem dX9_addCityClue_3 : decode cX9_addCityClue 3 = .ok (.iload_n 2, 1) := by decide +kernel
theorem dX9_addCityClue_4 : decode cX9_addCityClue 4 = .ok (.iload_n 3, 1) := by decide +kernel
theorem dX9_addCityClue_5 : decode cX9_addCityClue 5 = .ok (.invokevirtual 293, 3) := by decide +kernel
theorem dX9_addCityClue_8 : decode cX9_addCityClue 8 = .ok (.ireturn, 1) := by decide +kernel
abbrev mX9_addDateClue : zM := (yX9_addDateClue, cX9_addDateClue, 4, (some .int), [])
theorem okX9_addDateClue : zMok mX9_addDateClue 3 := ⟨by decide, by decide, by decide +kernel⟩
theorem dX9_addDateClue_0 : decode cX9_addDateClue 0 = .ok (.aload_n 0, 1) := by decide +kernel
theorem dX9_addDateClue_1 : decode cX9_addDateClue 1 = .ok (.iload_n 1, 1) := by decide +kernel
theorem dX9_addDateClue_2 : decode cX9_addDateClue 2 = .ok (.iconst 4, 1) := by decide +kernel
theorem dX9_addDateClue_3 : decode cX9_addDateClue 3 = .ok (.iload_n 2, 1) := by decide +kernel
theorem dX9_addDateClue_4 : decode cX9_addDateClue 4 = .ok (.iload_n 3, 1) := by decide +kernel
theorem dX9_addDateClue_5 : decode cX9_addDateClue 5 = .ok (.invokevirtual 293, 3) := by decide +kernel
theorem dX9_addDateClue_8 : decode cX9_addDateClue 8 = .ok (.ireturn, 1) := by decide +kernel
abbrev mX9_read : zM := (yX9_read, cX9_read, 3, (some .int), [])
theorem okX9_read : zMok mX9_read 1 := ⟨by decide, by decide, by decide +kernel⟩
theorem dX9_read_0 : decode cX9_read 0 = .ok (.aload_n 0, 1) := by decide +kernel
theorem dX9_read_1 : decode cX9_read 1 = .ok (.getfield 33, 3) := by decide +kernel
theorem dX9_read_4 : decode cX9_read 4 = .ok (.getfield 125, 3) := by decide +kernel
theorem dX9_read_7 : decode cX9_read 7 = .ok (.invokevirtual 284, 3) := by decide +kernel
theorem dX9_read_10 : decode cX9_read 10 = .ok (.istore_n 2, 1) := by decide +kernel
theorem dX9_read_11 : decode cX9_read 11 = .ok (.aload_n 0, 1) := by decide +kernel
theorem dX9_read_12 : decode cX9_read 12 = .ok (.getfield 47, 3) := by decide +kernel
theorem dX9_read_15 : decode cX9_read 15 = .ok (.aload_n 0, 1) := by decide +kernel
theorem dX9_read_16 : decode cX9_read 16 = .ok (.getfield 33, 3) := by decide +kernel
theorem dX9_read_19 : decode cX9_read 19 = .ok (.invokevirtual 143, 3) := by decide +kernel
theorem dX9_read_22 : decode cX9_read 22 = .ok (.aload_n 0, 1) := by decide +kernel
theorem dX9_read_23 : decode cX9_read 23 = .ok (.getfield 33, 3) := by decide +kernel
theorem dX9_read_26 : decode cX9_read 26 = .ok (.iload_n 1, 1) := by decide +kernel
theorem dX9_read_27 : decode cX9_read 27 = .ok (.invokevirtual 297, 3) := by decide +kernel
theorem cw_RX9_297 : zCwV RX9 297 mX1_readOn := zall [812, 813, 814, 34, 815] (by decide +kernel) (by decide +kernel)
theorem dX9_read_30 : decode cX9_read 30 = .ok (.invokestatic 300, 3) := by decide +kernel
theorem dX9_read_33 : decode cX9_read 33 = .ok (.aload_n 0, 1) := by decide +kernel
theorem dX9_read_34 : decode cX9_read 34 = .ok (.getfield 47, 3) := by decide +kernel
theorem dX9_read_37 : decode cX9_read 37 = .ok (.invokevirtual 151, 3) := by decide +kernel
theorem dX9_read_40 : decode cX9_read 40 = .ok (.iload_n 1, 1) := by decide +kernel
theorem dX9_read_41 : decode cX9_read 41 = .ok (.iload_n 2, 1) := by decide +kernel
theorem dX9_read_42 : decode cX9_read 42 = .ok (.invokestatic 303, 3) := by decide +kernel
theorem mw_RX9_303 : ∀ x ∈ ([.methodLink RX9 303 Lib.Math.min.name, .static Lib.Math.min.name, .initialized "java/lang/Math", .code Lib.Math.min.name Lib.Math.min.code 2 (some .int)] : List Cond), x ∈ zgood := zall [820, 782, 19, 783] (by decide +kernel) (by decide +kernel)
theorem dX9_read_45 : decode cX9_read 45 = .ok (.ireturn, 1) := by decide +kernel
abbrev mX9_setAside : zM := (yX9_setAside, cX9_setAside, 2, (some .int), [])
theorem okX9_setAside : zMok mX9_setAside 1 := ⟨by decide, by decide, by decide +kernel⟩
theorem dX9_setAside_0 : decode cX9_setAside 0 = .ok (.aload_n 0, 1) := by decide +kernel
theorem dX9_setAside_1 : decode cX9_setAside 1 = .ok (.getfield 47, 3) := by decide +kernel
theorem dX9_setAside_4 : decode cX9_setAside 4 = .ok (.aload_n 0, 1) := by decide +kernel
theorem dX9_setAside_5 : decode cX9_setAside 5 = .ok (.getfield 33, 3) := by decide +kernel
theorem dX9_setAside_8 : decode cX9_setAside 8 = .ok (.invokevirtual 143, 3) := by decide +kernel
theorem dX9_setAside_11 : decode cX9_setAside 11 = .ok (.aload_n 0, 1) := by decide +kernel
theorem dX9_setAside_12 : decode cX9_setAside 12 = .ok (.getfield 33, 3) := by decide +kernel
theorem dX9_setAside_15 : decode cX9_setAside 15 = .ok (.iload_n 1, 1) := by decide +kernel
theorem dX9_setAside_16 : decode cX9_setAside 16 = .ok (.invokevirtual 308, 3) := by decide +kernel
theorem cw_RX9_308 : zCwV RX9 308 mX1_drop := zall [825, 826, 827, 34, 828] (by decide +kernel) (by decide +kernel)
theorem dX9_setAside_19 : decode cX9_setAside 19 = .ok (.invokestatic 300, 3) := by decide +kernel
theorem dX9_setAside_22 : decode cX9_setAside 22 = .ok (.aload_n 0, 1) := by decide +kernel
theorem dX9_setAside_23 : decode cX9_setAside 23 = .ok (.getfield 47, 3) := by decide +kernel
theorem dX9_setAside_26 : decode cX9_setAside 26 = .ok (.invokevirtual 151, 3) := by decide +kernel
theorem dX9_setAside_29 : decode cX9_setAside 29 = .ok (.aload_n 0, 1) := by decide +kernel
theorem dX9_setAside_30 : decode cX9_setAside 30 = .ok (.invokevirtual 240, 3) := by decide +kernel
theorem dX9_setAside_33 : decode cX9_setAside 33 = .ok (.aload_n 0, 1) := by decide +kernel
theorem dX9_setAside_34 : decode cX9_setAside 34 = .ok (.getfield 54, 3) := by decide +kernel
theorem dX9_setAside_37 : decode cX9_setAside 37 = .ok (.invokevirtual 261, 3) := by decide +kernel
theorem dX9_setAside_40 : decode cX9_setAside 40 = .ok (.ireturn, 1) := by decide +kernel
abbrev mX9_takeBack : zM := (yX9_takeBack, cX9_takeBack, 2, (some .int), [])
theorem okX9_takeBack : zMok mX9_takeBack 1 := ⟨by decide, by decide, by decide +kernel⟩
theorem dX9_takeBack_0 : decode cX9_takeBack 0 = .ok (.aload_n 0, 1) := by decide +kernel
theorem dX9_takeBack_1 : decode cX9_takeBack 1 = .ok (.getfield 47, 3) := by decide +kernel
theorem dX9_takeBack_4 : decode cX9_takeBack 4 = .ok (.aload_n 0, 1) := by decide +kernel
theorem dX9_takeBack_5 : decode cX9_takeBack 5 = .ok (.getfield 33, 3) := by decide +kernel
theorem dX9_takeBack_8 : decode cX9_takeBack 8 = .ok (.invokevirtual 143, 3) := by decide +kernel
theorem dX9_takeBack_11 : decode cX9_takeBack 11 = .ok (.aload_n 0, 1) := by decide +kernel
theorem dX9_takeBack_12 : decode cX9_takeBack 12 = .ok (.getfield 33, 3) := by decide +kernel
theorem dX9_takeBack_15 : decode cX9_takeBack 15 = .ok (.iload_n 1, 1) := by decide +kernel
theorem dX9_takeBack_16 : decode cX9_takeBack 16 = .ok (.invokevirtual 311, 3) := by decide +kernel
theorem cw_RX9_311 : zCwV RX9 311 mX1_pickUp := zall [926, 927, 928, 34, 929] (by decide +kernel) (by decide +kernel)
theorem dX9_takeBack_19 : decode cX9_takeBack 19 = .ok (.invokestatic 300, 3) := by decide +kernel
theorem dX9_takeBack_22 : decode cX9_takeBack 22 = .ok (.aload_n 0, 1) := by decide +kernel
theorem dX9_takeBack_23 : decode cX9_takeBack 23 = .ok (.getfield 47, 3) := by decide +kernel
theorem dX9_takeBack_26 : decode cX9_takeBack 26 = .ok (.invokevirtual 151, 3) := by decide +kernel
theorem dX9_takeBack_29 : decode cX9_takeBack 29 = .ok (.aload_n 0, 1) := by decide +kernel
theorem dX9_takeBack_30 : decode cX9_takeBack 30 = .ok (.invokevirtual 240, 3) := by decide +kernel
theorem dX9_takeBack_33 : decode cX9_takeBack 33 = .ok (.aload_n 0, 1) := by decide +kernel
theorem dX9_takeBack_34 : decode cX9_takeBack 34 = .ok (.getfield 54, 3) := by decide +kernel
theorem dX9_takeBack_37 : decode cX9_takeBack 37 = .ok (.invokevirtual 261, 3) := by decide +kernel
theorem dX9_takeBack_40 : decode cX9_takeBack 40 = .ok (.ireturn, 1) := by decide +kernel
abbrev mX9_setWeight : zM := (yX9_setWeight, cX9_setWeight, 4, (some .int), [])
theorem okX9_setWeight : zMok mX9_setWeight 2 := ⟨by decide, by decide, by decide +kernel⟩
theorem dX9_setWeight_0 : decode cX9_setWeight 0 = .ok (.aload_n 0, 1) := by decide +kernel
theorem dX9_setWeight_1 : decode cX9_setWeight 1 = .ok (.iload_n 1, 1) := by decide +kernel
theorem dX9_setWeight_2 : decode cX9_setWeight 2 = .ok (.invokevirtual 204, 3) := by decide +kernel
theorem dX9_setWeight_5 : decode cX9_setWeight 5 = .ok (.aload_n 0, 1) := by decide +kernel
theorem dX9_setWeight_6 : decode cX9_setWeight 6 = .ok (.getfield 33, 3) := by decide +kernel
theorem dX9_setWeight_9 : decode cX9_setWeight 9 = .ok (.getfield 125, 3) := by decide +kernel
theorem dX9_setWeight_12 : decode cX9_setWeight 12 = .ok (.getfield 216, 3) := by decide +kernel
theorem dX9_setWeight_15 : decode cX9_setWeight 15 = .ok (.iload_n 1, 1) := by decide +kernel
theorem dX9_setWeight_16 : decode cX9_setWeight 16 = .ok (.iaload, 1) := by decide +kernel
theorem dX9_setWeight_17 : decode cX9_setWeight 17 = .ok (.istore_n 3, 1) := by decide +kernel
theorem dX9_setWeight_18 : decode cX9_setWeight 18 = .ok (.aload_n 0, 1) := by decide +kernel
theorem dX9_setWeight_19 : decode cX9_setWeight 19 = .ok (.getfield 47, 3) := by decide +kernel
theorem dX9_setWeight_22 : decode cX9_setWeight 22 = .ok (.aload_n 0, 1) := by decide +kernel
theorem dX9_setWeight_23 : decode cX9_setWeight 23 = .ok (.getfield 33, 3) := by decide +kernel
theorem dX9_setWeight_26 : decode cX9_setWeight 26 = .ok (.invokevirtual 143, 3) := by decide +kernel
theorem dX9_setWeight_29 : decode cX9_setWeight 29 = .ok (.aload_n 0, 1) := by decide +kernel
theorem dX9_setWeight_30 : decode cX9_setWeight 30 = .ok (.getfield 33, 3) := by decide +kernel
theorem dX9_setWeight_33 : decode cX9_setWeight 33 = .ok (.iload_n 1, 1) := by decide +kernel
theorem dX9_setWeight_34 : decode cX9_setWeight 34 = .ok (.iload_n 2, 1) := by decide +kernel
theorem dX9_setWeight_35 : decode cX9_setWeight 35 = .ok (.invokevirtual 314, 3) := by decide +kernel
theorem cw_RX9_314 : zCwV RX9 314 mX1_changeWeight := zall [967, 968, 969, 34, 970] (by decide +kernel) (by decide +kernel)
theorem dX9_setWeight_38 : decode cX9_setWeight 38 = .ok (.invokestatic 300, 3) := by decide +kernel
theorem dX9_setWeight_41 : decode cX9_setWeight 41 = .ok (.aload_n 0, 1) := by decide +kernel
theorem dX9_setWeight_42 : decode cX9_setWeight 42 = .ok (.getfield 47, 3) := by decide +kernel
theorem dX9_setWeight_45 : decode cX9_setWeight 45 = .ok (.invokevirtual 151, 3) := by decide +kernel
theorem dX9_setWeight_48 : decode cX9_setWeight 48 = .ok (.iload_n 3, 1) := by decide +kernel
theorem dX9_setWeight_49 : decode cX9_setWeight 49 = .ok (.ireturn, 1) := by decide +kernel
abbrev mX9_transferDevice : zM := (yX9_transferDevice, cX9_transferDevice, 4, (some .int), [])
theorem okX9_transferDevice : zMok mX9_transferDevice 3 := ⟨by decide, by decide, by decide +kernel⟩
theorem dX9_transferDevice_0 : decode cX9_transferDevice 0 = .ok (.aload_n 0, 1) := by decide +kernel
theorem dX9_transferDevice_1 : decode cX9_transferDevice 1 = .ok (.getfield 47, 3) := by decide +kernel
theorem dX9_transferDevice_4 : decode cX9_transferDevice 4 = .ok (.aload_n 0, 1) := by decide +kernel
theorem dX9_transferDevice_5 : decode cX9_transferDevice 5 = .ok (.getfield 33, 3) := by decide +kernel
theorem dX9_transferDevice_8 : decode cX9_transferDevice 8 = .ok (.invokevirtual 143, 3) := by decide +kernel
theorem dX9_transferDevice_11 : decode cX9_transferDevice 11 = .ok (.aload_n 0, 1) := by decide +kernel
theorem dX9_transferDevice_12 : decode cX9_transferDevice 12 = .ok (.getfield 33, 3) := by decide +kernel
theorem dX9_transferDevice_15 : decode cX9_transferDevice 15 = .ok (.iload_n 1, 1) := by decide +kernel
theorem dX9_transferDevice_16 : decode cX9_transferDevice 16 = .ok (.iload_n 2, 1) := by decide +kernel
theorem dX9_transferDevice_17 : decode cX9_transferDevice 17 = .ok (.iload_n 3, 1) := by decide +kernel
theorem dX9_transferDevice_18 : decode cX9_transferDevice 18 = .ok (.invokevirtual 317, 3) := by decide +kernel
theorem cw_RX9_317 : zCwV RX9 317 mX1_lend := zall [975, 976, 977, 34, 978] (by decide +kernel) (by decide +kernel)
theorem dX9_transferDevice_21 : decode cX9_transferDevice 21 = .ok (.invokestatic 300, 3) := by decide +kernel
theorem dX9_transferDevice_24 : decode cX9_transferDevice 24 = .ok (.aload_n 0, 1) := by decide +kernel
theorem dX9_transferDevice_25 : decode cX9_transferDevice 25 = .ok (.getfield 47, 3) := by decide +kernel
theorem dX9_transferDevice_28 : decode cX9_transferDevice 28 = .ok (.invokevirtual 151, 3) := by decide +kernel
theorem dX9_transferDevice_31 : decode cX9_transferDevice 31 = .ok (.aload_n 0, 1) := by decide +kernel
theorem dX9_transferDevice_32 : decode cX9_transferDevice 32 = .ok (.getfield 33, 3) := by decide +kernel
theorem dX9_transferDevice_35 : decode cX9_transferDevice 35 = .ok (.getfield 134, 3) := by decide +kernel
theorem dX9_transferDevice_38 : decode cX9_transferDevice 38 = .ok (.iload_n 3, 1) := by decide +kernel
theorem dX9_transferDevice_39 : decode cX9_transferDevice 39 = .ok (.invokevirtual 192, 3) := by decide +kernel
theorem dX9_transferDevice_42 : decode cX9_transferDevice 42 = .ok (.ireturn, 1) := by decide +kernel
abbrev mX9_undo : zM := (yX9_undo, cX9_undo, 1, (some .int), [])
theorem okX9_undo : zMok mX9_undo 0 := ⟨by decide, by decide, by decide +kernel⟩
theorem dX9_undo_0 : decode cX9_undo 0 = .ok (.aload_n 0, 1) := by decide +kernel
theorem dX9_undo_1 : decode cX9_undo 1 = .ok (.getfield 47, 3) := by decide +kernel
theorem dX9_undo_4 : decode cX9_undo 4 = .ok (.getfield 321, 3) := by decide +kernel
theorem fl_RX9_321 : zFl RX9 321 5 2 := ⟨RX5, TX5, 3, rfl, by decide, zmem1 260 (by decide +kernel) rfl, rfl⟩
theorem dX9_undo_7 : decode cX9_undo 7 = .ok (.ifCond .gt 14, 3) := by decide +kernel
theorem dX9_undo_10 : decode cX9_undo 10 = .ok (.new 102, 3) := by decide +kernel
theorem dX9_undo_13 : decode cX9_undo 13 = .ok (.dup, 1) := by decide +kernel
theorem dX9_undo_14 : decode cX9_undo 14 = .ok (.ldc_w 322, 3) := by decide +kernel
theorem dX9_undo_17 : decode cX9_undo 17 = .ok (.invokespecial 106, 3) := by decide +kernel
theorem dX9_undo_20 : decode cX9_undo 20 = .ok (.athrow, 1) := by decide +kernel
theorem dX9_undo_21 : decode cX9_undo 21 = .ok (.aload_n 0, 1) := by decide +kernel
theorem dX9_undo_22 : decode cX9_undo 22 = .ok (.getfield 47, 3) := by decide +kernel
theorem dX9_undo_25 : decode cX9_undo 25 = .ok (.aload_n 0, 1) := by decide +kernel
theorem dX9_undo_26 : decode cX9_undo 26 = .ok (.getfield 33, 3) := by decide +kernel
theorem dX9_undo_29 : decode cX9_undo 29 = .ok (.invokevirtual 324, 3) := by decide +kernel
theorem cw_RX9_324 : zCwV RX9 324 mX5_bringBack := zall [994, 995, 996, 38, 997] (by decide +kernel) (by decide +kernel)
theorem dX9_undo_32 : decode cX9_undo 32 = .ok (.aload_n 0, 1) := by decide +kernel
theorem dX9_undo_33 : decode cX9_undo 33 = .ok (.getfield 47, 3) := by decide +kernel
theorem dX9_undo_36 : decode cX9_undo 36 = .ok (.getfield 321, 3) := by decide +kernel
theorem dX9_undo_39 : decode cX9_undo 39 = .ok (.ireturn, 1) := by decide +kernel
abbrev mX9_save : zM := (yX9_save, cX9_save, 1, (some .int), [])
theorem okX9_save : zMok mX9_save 0 := ⟨by decide, by decide, by decide +kernel⟩
theorem dX9_save_0 : decode cX9_save 0 = .ok (.aload_n 0, 1) := by decide +kernel
theorem dX9_save_1 : decode cX9_save 1 = .ok (.getfield 37, 3) := by decide +kernel
theorem fl_RX9_37 : zFl RX9 37 9 4 := ⟨RX9, TX9, 9, rfl, by decide, zmem1 565 (by decide +kernel) rfl, rfl⟩
theorem dX9_save_4 : decode cX9_save 4 = .ok (.aload_n 0, 1) := by decide +kernel
theorem dX9_save_5 : decode cX9_save 5 = .ok (.getfield 33, 3) := by decide +kernel
theorem dX9_save_8 : decode cX9_save 8 = .ok (.invokevirtual 94, 3) := by decide +kernel
theorem cw_RX9_94 : zCwV RX9 94 mX1_copyFrom := zall [545, 546, 547, 34, 548] (by decide +kernel) (by decide +kernel)
theorem dX9_save_11 : decode cX9_save 11 = .ok (.aload_n 0, 1) := by decide +kernel
theorem dX9_save_12 : decode cX9_save 12 = .ok (.iconst 1, 1) := by decide +kernel
theorem dX9_save_13 : decode cX9_save 13 = .ok (.putfield 40, 3) := by decide +kernel
theorem fl_RX9_40 : zFl RX9 40 9 5 := ⟨RX9, TX9, 9, rfl, by decide, zmem1 566 (by decide +kernel) rfl, rfl⟩
theorem fp_9_5 : zFi 9 5 "Z" := ⟨RX9, TX9, 9, rfl, rfl, rfl⟩
theorem dX9_save_16 : decode cX9_save 16 = .ok (.aload_n 0, 1) := by decide +kernel
theorem dX9_save_17 : decode cX9_save 17 = .ok (.getfield 33, 3) := by decide +kernel
theorem dX9_save_20 : decode cX9_save 20 = .ok (.getfield 125, 3) := by decide +kernel
theorem dX9_save_23 : decode cX9_save 23 = .ok (.getfield 129, 3) := by decide +kernel
theorem dX9_save_26 : decode cX9_save 26 = .ok (.ireturn, 1) := by decide +kernel
abbrev mX9_restore : zM := (yX9_restore, cX9_restore, 1, (some .int), [])
theorem okX9_restore : zMok mX9_restore 0 := ⟨by decide, by decide, by decide +kernel⟩
theorem dX9_restore_0 : decode cX9_restore 0 = .ok (.aload_n 0, 1) := by decide +kernel
theorem dX9_restore_1 : decode cX9_restore 1 = .ok (.getfield 40, 3) := by decide +kernel
theorem dX9_restore_4 : decode cX9_restore 4 = .ok (.ifCond .ne 14, 3) := by decide +kernel
theorem dX9_restore_7 : decode cX9_restore 7 = .ok (.new 102, 3) := by decide +kernel
theorem dX9_restore_10 : decode cX9_restore 10 = .ok (.dup, 1) := by decide +kernel
theorem dX9_restore_11 : decode cX9_restore 11 = .ok (.ldc_w 327, 3) := by decide +kernel
theorem dX9_restore_14 : decode cX9_restore 14 = .ok (.invokespecial 106, 3) := by decide +kernel
theorem dX9_restore_17 : decode cX9_restore 17 = .ok (.athrow, 1) := by decide +kernel
theorem dX9_restore_18 : decode cX9_restore 18 = .ok (.aload_n 0, 1) := by decide +kernel
theorem dX9_restore_19 : decode cX9_restore 19 = .ok (.getfield 33, 3) := by decide +kernel
theorem dX9_restore_22 : decode cX9_restore 22 = .ok (.aload_n 0, 1) := by decide +kernel
theorem dX9_restore_23 : decode cX9_restore 23 = .ok (.getfield 37, 3) := by decide +kernel
theorem dX9_restore_26 : decode cX9_restore 26 = .ok (.invokevirtual 94, 3) := by decide +kernel
theorem dX9_restore_29 : decode cX9_restore 29 = .ok (.aload_n 0, 1) := by decide +kernel
theorem dX9_restore_30 : decode cX9_restore 30 = .ok (.getfield 47, 3) := by decide +kernel
theorem dX9_restore_33 : decode cX9_restore 33 = .ok (.invokevirtual 122, 3) := by decide +kernel
theorem cw_RX9_122 : zCwV RX9 122 mX5_forget := zall [668, 669, 670, 38, 671] (by decide +kernel) (by decide +kernel)
theorem dX9_restore_36 : decode cX9_restore 36 = .ok (.aload_n 0, 1) := by decide +kernel
theorem dX9_restore_37 : decode cX9_restore 37 = .ok (.getfield 33, 3) := by decide +kernel
theorem dX9_restore_40 : decode cX9_restore 40 = .ok (.getfield 125, 3) := by decide +kernel
theorem dX9_restore_43 : decode cX9_restore 43 = .ok (.getfield 129, 3) := by decide +kernel
theorem dX9_restore_46 : decode cX9_restore 46 = .ok (.ireturn, 1) := by decide +kernel
/-! the casebooks behind the book, and what operations leave of them -/
def bbK (σ : zS) (k : Nat) : Prop := ∀ i, i < 40 → (σ.1 (k + 17) i = 0 ∨ σ.1 (k + 17) i = 1) ∧ (σ.1 (k + 18) i = 0 ∨ σ.1 (k + 18) i = 1)
def isBk (k : Nat) : Prop := k = 4 ∨ k = 30 ∨ k = 50 ∨ ∃ r, r < 9 ∧ k = 72 + 20 * r
def HBA (σ : zS) : Prop := ∀ k, isBk k → bbK σ k
def HN (σ : zS) : Prop := (0 ≤ σ.1 70 1 ∧ σ.1 70 1 ≤ 8) ∧ 0 ≤ σ.1 70 2 ∧ σ.1 70 2 ≤ 8
def hRow (σ : zS) (i : Nat) : Nat := 72 + 20 * (((σ.1 70 1).toNat + 8 - i) % 9)
def HPu (σ τ : zS) : Prop := HN τ ∧ τ.1 70 2 = min (σ.1 70 2 + 1) 8 ∧ zEq (bk σ 30) (bk τ (hRow τ 0)) ∧ ∀ i : Nat, ((i + 1 : Nat) : Int) < τ.1 70 2 → zEq (bk σ (hRow σ i)) (bk τ (hRow τ (i + 1)))
def HKp (σ τ : zS) : Prop := τ.1 70 1 = σ.1 70 1 ∧ τ.1 70 2 = σ.1 70 2 ∧ ∀ i : Nat, (i : Int) < σ.1 70 2 → zEq (bk σ (hRow σ i)) (bk τ (hRow σ i))
theorem bb_cp {σ τ : zS} {o k : Nat} (h : cpC σ τ (o + 12) (k + 12)) (hb : bbK σ o) : bbK τ k := fun i hi => by
  have e5 := h.2 5 (by decide) (by decide) i hi
  have e6 := h.2 6 (by decide) (by decide) i hi
  have := hb i hi
  rw [show k + 12 + 5 = k + 17 by omega, show o + 12 + 5 = o + 17 by omega] at e5
  rw [show k + 12 + 6 = k + 18 by omega, show o + 12 + 6 = o + 18 by omega] at e6
  rw [e5, e6]; exact this
theorem bb_pt {σ τ : zS} {k : Nat} (h : ∀ o, o ≤ 19 → ∀ i, τ.1 (k + o) i = σ.1 (k + o) i) (hb : bbK σ k) : bbK τ k := fun i hi => by
  rw [h 17 (by decide), h 18 (by decide)]; exact hb i hi
theorem zEq_pt {σ τ : zS} {k : Nat} (h : ∀ o, o ≤ 19 → ∀ i, τ.1 (k + o) i = σ.1 (k + o) i) : zEq (bk σ k) (bk τ k) :=
  ⟨⟨h 1 (by omega) _, h 1 (by omega) _, h 1 (by omega) _, h 12 (by omega) _⟩, fun o _ _ i _ => h o (by omega) i, fun o _ _ i _ => h o (by omega) i, fun o _ _ i _ => h o (by omega) i⟩
def pEq (D D' : zBk) : Prop := ∀ o, o ≤ 19 → ∀ i, D' o i = D o i
theorem pEq_rf (D : zBk) : pEq D D := fun _ _ _ => rfl
theorem pEq_tr {D D' D'' : zBk} (h : pEq D D') (h' : pEq D' D'') : pEq D D'' := fun o ho i => (h' o ho i).trans (h o ho i)
theorem pEq_z {D D' : zBk} (h : pEq D D') : zEq D D' :=
  ⟨⟨h 1 (by omega) _, h 1 (by omega) _, h 1 (by omega) _, h 12 (by omega) _⟩, fun o _ _ i _ => h o (by omega) i, fun o _ _ i _ => h o (by omega) i, fun o _ _ i _ => h o (by omega) i⟩
theorem pEq_l {D D' : zBk} (h : pEq D D') : lEq D D' :=
  ⟨⟨h 1 (by omega) _, h 1 (by omega) _, h 1 (by omega) _, h 12 (by omega) _⟩, fun p _ o _ _ => h o (by omega) p, fun q _ => ⟨h 8 (by omega) q, h 9 (by omega) q⟩, fun q _ => ⟨h 10 (by omega) q, h 11 (by omega) q⟩, fun c _ o _ _ => h o (by omega) c⟩
theorem lEq_tr {D D' D'' : zBk} (h : lEq D D') (h' : lEq D' D'') : lEq D D'' := by
  obtain ⟨⟨a1, a2, a3, a4⟩, b, c, d, e⟩ := h
  obtain ⟨⟨a1', a2', a3', a4'⟩, b', c', d', e'⟩ := h'
  exact ⟨⟨a1'.trans a1, a2'.trans a2, a3'.trans a3, a4'.trans a4⟩, fun p hp o h1 h2 => (b' p (by rw [a1]; exact hp) o h1 h2).trans (b p hp o h1 h2), fun q hq => ⟨(c' q (by rw [a2]; exact hq)).1.trans (c q hq).1, (c' q (by rw [a2]; exact hq)).2.trans (c q hq).2⟩, fun q hq => ⟨(d' q (by rw [a3]; exact hq)).1.trans (d q hq).1, (d' q (by rw [a3]; exact hq)).2.trans (d q hq).2⟩, fun k hk o h1 h2 => (e' k (by rw [a4]; exact hk) o h1 h2).trans (e k hk o h1 h2)⟩
theorem pEq_ov {D D' : zBk} {o x : Nat} {v : Int} (h : pEq D D') : pEq (ov D o x v) (ov D' o x v) := fun o' ho i => by
  unfold ov; split
  · rfl
  · exact h o' ho i
theorem put_ov {σ : zS} {k o x : Nat} {v : Int} : pEq (ov (bk σ k) o x v) (bk (zput σ (k + o) x v) k) := fun o' _ i => by
  show (if k + o' = k + o ∧ i = x then v else _) = if o' = o ∧ i = x then v else _
  by_cases e : o' = o ∧ i = x
  · rw [if_pos e, if_pos (by omega)]
  · rw [if_neg e, if_neg (by omega)]; rfl
theorem pEq_rd {D D' : zBk} {n : Int} (w : WF D) (h : pEq D D') : pEq (rdB D n) (rdB D' n) := fun o ho i => by
  by_cases e : o = 17
  · subst e
    rw [rdB_s, rdB_s]
    exact zb_c (Rd_eq (pEq_z h) w n i)
  · rw [rdB_k _ _ e, rdB_k _ _ e]; exact h o ho i
theorem bb_put {σ : zS} {k o i : Nat} {v : Int} (hv : v = 0 ∨ v = 1) (h : bbK σ k) : bbK (zput σ (k + o) i v) k := fun j hj => by
  have := h j hj
  simp only [zput_e]
  constructor
  · split
    · exact hv
    · exact this.1
  · split
    · exact hv
    · exact this.2
theorem bb_put2 {σ : zS} {k q i : Nat} {v : Int} (h1 : q ≠ k + 17) (h2 : q ≠ k + 18) (h : bbK σ k) : bbK (zput σ q i v) k := fun j hj => by
  rw [zput_k _ _ _ _ _ (by omega), zput_k _ _ _ _ _ (by omega)]; exact h j hj
theorem isBk_row {k n : Nat} (h : isBk k) (hn : n ≤ 8) (hne : k ≠ 72 + 20 * n) {o : Nat} (ho : o ≤ 19) : ¬ (72 + 20 * n ≤ k + o ∧ k + o ≤ 72 + 20 * n + 19) := by
  rcases h with h | h | h | ⟨r, h1, h2⟩
  · omega
  · omega
  · omega
  · intro q; omega
theorem hprep {σ τ : zS} (hN : HN σ) (hA : HBA σ) (s : zSame (fun q => 72 + 20 * (σ.1 70 1).toNat ≤ q ∧ q ≤ 72 + 20 * (σ.1 70 1).toNat + 19) σ τ) (c : cpC σ τ (30 + 12) (72 + 20 * (σ.1 70 1).toNat + 12)) : HBA τ ∧ HKp σ τ := by
  obtain ⟨⟨n0, n1⟩, n2, n3⟩ := hN
  refine ⟨fun k hk => ?_, s.1 70 (by dsimp only; omega) 1, s.1 70 (by dsimp only; omega) 2, fun i hi => ?_⟩
  · by_cases e : k = 72 + 20 * (σ.1 70 1).toNat
    · subst e
      exact bb_cp c (hA 30 (Or.inr (Or.inl rfl)))
    · exact bb_pt (fun o ho i => s.1 (k + o) (isBk_row hk (by omega) e ho) i) (hA k hk)
  · refine zEq_pt (fun o ho j => s.1 _ ?_ j)
    dsimp only
    unfold hRow
    omega
theorem hpush {σ τ1 τ2 τ3 : zS} (hN : HN σ) (hA : HBA σ) (s : zSame (fun q => 72 + 20 * (σ.1 70 1).toNat ≤ q ∧ q ≤ 72 + 20 * (σ.1 70 1).toNat + 19) σ τ1) (a : cpA σ τ1 (30 + 1) (72 + 20 * (σ.1 70 1).toNat + 1)) (c : cpC σ τ1 (30 + 12) (72 + 20 * (σ.1 70 1).toNat + 12))
    (o : zSame (fun q => 30 ≤ q ∧ q ≤ 49) τ1 τ2) (hb : bbK τ2 30) (k : ∀ k i, τ3.1 k i = if k = 70 ∧ i = 1 then (if τ2.1 70 1 + 1 < 9 then τ2.1 70 1 + 1 else 0) else if k = 70 ∧ i = 2 then (if τ2.1 70 2 + 1 ≤ 8 then τ2.1 70 2 + 1 else 8) else τ2.1 k i) (k2 : τ3.2 = τ2.2) :
    HPu σ τ3 ∧ HBA τ3 ∧ zSame (fun q => (30 ≤ q ∧ q ≤ 49) ∨ (70 ≤ q ∧ q ≤ 251)) σ τ3 ∧ pEq (bk τ2 30) (bk τ3 30) := by
  have hN0 := hN
  obtain ⟨⟨n0, n1⟩, n2, n3⟩ := hN
  have e1 : τ2.1 70 1 = σ.1 70 1 := (o.1 70 (by dsimp only; omega) 1).trans (s.1 70 (by dsimp only; omega) 1)
  have e2 : τ2.1 70 2 = σ.1 70 2 := (o.1 70 (by dsimp only; omega) 2).trans (s.1 70 (by dsimp only; omega) 2)
  have kk : ∀ q, q ≠ 70 → ∀ i, τ3.1 q i = τ2.1 q i := fun q hq i => by rw [k, if_neg (fun z => hq z.1), if_neg (fun z => hq z.1)]
  have k1 : τ3.1 70 1 = if σ.1 70 1 + 1 < 9 then σ.1 70 1 + 1 else 0 := by rw [k, if_pos ⟨rfl, rfl⟩, e1]
  have k3 : τ3.1 70 2 = if σ.1 70 2 + 1 ≤ 8 then σ.1 70 2 + 1 else 8 := by rw [k, if_neg (by omega), if_pos ⟨rfl, rfl⟩, e2]
  have k1b : (σ.1 70 1 + 1 < 9 ∧ τ3.1 70 1 = σ.1 70 1 + 1) ∨ (σ.1 70 1 = 8 ∧ τ3.1 70 1 = 0) := by
    rw [k1]; split <;> omega
  have k3b : τ3.1 70 2 = min (σ.1 70 2 + 1) 8 := by rw [k3]; split <;> omega
  have k3c : τ3.1 70 2 ≤ 8 := by omega
  have k12 : ∀ q, ¬ (30 ≤ q ∧ q ≤ 49) → q ≠ 70 → ∀ i, τ3.1 q i = τ1.1 q i := fun q h1 h2 i => (kk q h2 i).trans (o.1 q h1 i)
  have hP := (hprep hN0 hA s c).1
  refine ⟨⟨⟨by omega, by omega, by omega⟩, k3b, ?_, fun i hi => ?_⟩, fun q hq => ?_, ⟨fun q hq i => ?_, k2.trans (o.2.trans s.2)⟩, fun p hp i => kk _ (by omega) i⟩
  · have e : hRow τ3 0 = 72 + 20 * (σ.1 70 1).toNat := by
      unfold hRow
      rcases k1b with ⟨h1, h2⟩ | ⟨h1, h2⟩ <;> rw [h2] <;> omega
    rw [e]
    refine zEq_tr (zEq_cp a c) (zEq_pt (fun p hp i => k12 _ (by omega) (by omega) i))
  · have e : hRow τ3 (i + 1) = hRow σ i := by
      unfold hRow
      rcases k1b with ⟨h1, h2⟩ | ⟨h1, h2⟩ <;> rw [h2] <;> omega
    rw [e]
    refine zEq_pt (fun p hp j => ?_)
    have hr : ¬ (72 + 20 * (σ.1 70 1).toNat ≤ hRow σ i + p ∧ hRow σ i + p ≤ 72 + 20 * (σ.1 70 1).toNat + 19) := by
      unfold hRow; omega
    have hr2 : 72 ≤ hRow σ i := by unfold hRow; omega
    exact (k12 _ (by omega) (by omega) j).trans (s.1 _ hr j)
  · by_cases e : q = 30
    · subst e
      exact bb_pt (fun p hp i => kk _ (by omega) i) hb
    · refine bb_pt (fun p hp i => k12 _ ?_ ?_ i) (hP q hq)
      · rcases hq with h | h | h | ⟨r, h1, h2⟩ <;> omega
      · rcases hq with h | h | h | ⟨r, h1, h2⟩ <;> omega
  · have hq2 := hq
    dsimp only at hq2
    exact (k12 q (by omega) (by omega) i).trans (s.1 q (by dsimp only; omega) i)
theorem HPu_post {σ τ υ : zS} (h : HPu σ τ) (s : zSame (fun q => 252 ≤ q ∧ q ≤ 258) τ υ) : HPu σ υ := by
  have e : ∀ q, q < 252 → ∀ i, υ.1 q i = τ.1 q i := fun q hq i => s.1 q (by dsimp only; omega) i
  have er : ∀ i, hRow υ i = hRow τ i := fun i => by unfold hRow; rw [e 70 (by omega)]
  have hl : ∀ i, hRow τ i ≤ 232 := fun i => by unfold hRow; omega
  obtain ⟨a, b, c, d⟩ := h
  refine ⟨?_, by rw [e 70 (by omega)]; exact b, ?_, fun i hi => ?_⟩
  · unfold HN at *; rw [e 70 (by omega), e 70 (by omega)]; exact a
  · rw [er]
    have := hl 0
    exact zEq_tr c (zEq_pt (fun p hp j => e _ (by omega) j))
  · rw [e 70 (by omega)] at hi
    rw [er]
    have := hl (i + 1)
    exact zEq_tr (d i hi) (zEq_pt (fun p hp j => e _ (by omega) j))
theorem HPu_pre {σ τ υ : zS} (s : zSame (fun q => 252 ≤ q ∧ q ≤ 258) σ τ) (h : HPu τ υ) : HPu σ υ := by
  have e : ∀ q, q < 252 → ∀ i, τ.1 q i = σ.1 q i := fun q hq i => s.1 q (by dsimp only; omega) i
  have er : ∀ i, hRow τ i = hRow σ i := fun i => by unfold hRow; rw [e 70 (by omega)]
  have hl : ∀ i, hRow σ i ≤ 232 := fun i => by unfold hRow; omega
  obtain ⟨a, b, c, d⟩ := h
  refine ⟨a, by rw [b, e 70 (by omega)], zEq_tr (zEq_pt (fun p hp j => e _ (by omega) j)) c, fun i hi => ?_⟩
  have := d i hi
  rw [er] at this
  have hli := hl i
  exact zEq_tr (zEq_pt (fun p hp j => e _ (by omega) j)) this
theorem HBA_post {τ υ : zS} {S : Nat → Prop} (h : HBA τ) (s : zSame S τ υ) (hs : ∀ q, q < 252 → ¬ S q) : HBA υ := fun k hk => by
  refine bb_pt (fun p hp i => s.1 _ (hs _ ?_) i) (h k hk)
  rcases hk with h | h | h | ⟨r, h1, h2⟩ <;> omega
theorem HN_post {τ υ : zS} {S : Nat → Prop} (h : HN τ) (s : zSame S τ υ) (hs : ¬ S 70) : HN υ := by
  unfold HN at *; rw [s.1 70 hs, s.1 70 hs]; exact h
/-! books changed in a few columns -/
theorem WF_agree {D D' : zBk} (w : WF D) (h : ∀ o i, o ≠ 6 → o ≠ 16 → o ≠ 17 → o ≠ 18 → D' o i = D o i) (hc : ∀ c : Nat, (c : Int) < D 12 0 → (1 ≤ D' 16 c ∧ D' 16 c ≤ 9) ∧ (D' 17 c = 0 ∨ D' 17 c = 1) ∧ (D' 18 c = 0 ∨ D' 18 c = 1)) : WF D' := by
  obtain ⟨wn, wp, wm, we, wc, wo⟩ := w
  have g : ∀ o i, o < 16 → o ≠ 6 → D' o i = D o i := fun o i h1 h2 => h o i h2 (by omega) (by omega) (by omega)
  have g19 : ∀ i, D' 19 i = D 19 i := fun i => h 19 i (by decide) (by decide) (by decide) (by decide)
  refine ⟨?_, fun p hp => ?_, fun q hq => ?_, fun q hq => ?_, fun k hk => ?_, fun i hi => ?_, fun i j hij hj => ?_, fun k hk => ?_⟩
  · unfold WFn at *; rw [g 1 0 (by omega) (by omega), g 1 7 (by omega) (by omega), g 1 10 (by omega) (by omega), g 12 0 (by omega) (by omega)]; exact wn
  · rw [g 1 0 (by omega) (by omega)] at hp
    rw [g 3 p (by omega) (by omega), g 4 p (by omega) (by omega), g 5 p (by omega) (by omega)]; exact wp p hp
  · rw [g 1 7 (by omega) (by omega)] at hq
    rw [g 8 q (by omega) (by omega), g 9 q (by omega) (by omega)]; exact wm q hq
  · rw [g 1 10 (by omega) (by omega)] at hq
    rw [g 10 q (by omega) (by omega), g 11 q (by omega) (by omega), g 1 0 (by omega) (by omega)]; exact we q hq
  · rw [g 12 0 (by omega) (by omega)] at hk
    obtain ⟨h1, h2, -⟩ := wc k hk
    rw [g 13 k (by omega) (by omega), g 14 k (by omega) (by omega), g 15 k (by omega) (by omega)]
    refine ⟨h1, ?_, (hc k hk).1, (hc k hk).2.1, (hc k hk).2.2⟩
    unfold WFk at *; rw [g 1 7 (by omega) (by omega)]; exact h2
  · rw [g 12 0 (by omega) (by omega)] at hi ⊢
    rw [g19]; exact wo.1 i hi
  · rw [g 12 0 (by omega) (by omega)] at hj
    have := wo.2.1 i j hij hj
    unfold bef at *
    rw [g19, g19, g 13 _ (by omega) (by omega), g 13 _ (by omega) (by omega)]; exact this
  · rw [g 12 0 (by omega) (by omega)] at hk
    obtain ⟨i, h1, h2⟩ := wo.2.2 k hk
    exact ⟨i, by rw [g 12 0 (by omega) (by omega)]; exact h1, by rw [g19]; exact h2⟩
theorem rd_ok {D D' : zBk} {n : Int} (w : WF D) (h : ∀ o i, o ≠ 17 → D' o i = D o i) (h17 : ∀ p : Nat, (p : Int) < D 12 0 → D' 17 (D 19 p).toNat = if D 17 (D 19 p).toNat = 0 ∧ U D p < n then 1 else D 17 (D 19 p).toNat) : WF D' ∧ lEq (rdB D n) D' := by
  have hb : ∀ c : Nat, (c : Int) < D 12 0 → D' 17 c = zb (Rd D n c) := fun c hc => by
    obtain ⟨p, hp, e⟩ := WFo_sj w.2.2.2.2.2 hc
    have ho := w.2.2.2.2.2.1 p hp
    have hk := (w.2.2.2.2.1 (D 19 p).toNat (by omega)).2.2.2.1
    have hr := Rd_at w.2.2.2.2.2 (x := n) hp
    have := h17 p hp
    rw [← e, this]
    split
    · exact (zb_t (hr.mpr (by omega))).symm
    · rcases hk with q | q
      · rw [q]; exact (zb_f (fun z => by have := hr.mp z; omega)).symm
      · rw [q]; exact (zb_t (hr.mpr (by omega))).symm
  refine ⟨WF_agree w (fun o i _ _ h1 _ => h o i h1) (fun c hc => ?_), ⟨h 1 0 (by decide), h 1 7 (by decide), h 1 10 (by decide), h 12 0 (by decide)⟩, fun p _ o h1 h2 => ?_, fun q _ => ⟨h 8 q (by decide), h 9 q (by decide)⟩, fun q _ => ⟨h 10 q (by decide), h 11 q (by decide)⟩, fun c hc o h1 h2 => ?_⟩
  · have hk := w.2.2.2.2.1 c hc
    rw [h 16 c (by decide), h 18 c (by decide), hb c hc]
    exact ⟨hk.2.2.1, zb_01 _, hk.2.2.2.2⟩
  · rw [rdB_k _ _ (by omega)]; exact h o p (by omega)
  · by_cases e : o = 17
    · subst e; rw [rdB_s]; exact hb c hc
    · rw [rdB_k _ _ e]; exact h o c e
def adB (D : zBk) (pg kd vl wt : Int) : zBk := fun o i => if o = 12 ∧ i = 0 then D 12 0 + 1 else if (i : Int) = D 12 0 ∧ 13 ≤ o ∧ o ≤ 18 then (if o = 13 then pg else if o = 14 then kd else if o = 15 then vl else if o = 16 then wt else 0) else D o i
theorem adB_a (D : zBk) (pg kd vl wt : Int) {o : Nat} (h : o < 12) (i : Nat) : adB D pg kd vl wt o i = D o i := by
  unfold adB; rw [if_neg (by omega), if_neg (by omega)]
theorem adB_k (D : zBk) (pg kd vl wt : Int) : adB D pg kd vl wt 12 0 = D 12 0 + 1 := if_pos ⟨rfl, rfl⟩
theorem adB_o (D : zBk) (pg kd vl wt : Int) {o i : Nat} (h : 13 ≤ o) (hi : (i : Int) ≠ D 12 0) : adB D pg kd vl wt o i = D o i := by
  unfold adB; rw [if_neg (by omega), if_neg (by omega)]
theorem adB_n (D : zBk) (pg kd vl wt : Int) {o i : Nat} (h : 13 ≤ o ∧ o ≤ 18) (hi : (i : Int) = D 12 0) : adB D pg kd vl wt o i = if o = 13 then pg else if o = 14 then kd else if o = 15 then vl else if o = 16 then wt else 0 := by
  unfold adB; rw [if_neg (by omega), if_pos (by omega)]
theorem pEq_ad {D D' : zBk} {pg kd vl wt : Int} (h : pEq D D') : pEq (adB D pg kd vl wt) (adB D' pg kd vl wt) := fun o ho i => by
  unfold adB
  rw [h 12 (by omega) 0]
  split
  · rfl
  · split
    · rfl
    · exact h o ho i
theorem add_ok {σ τ : zS} {k : Nat} {pg kd vl wt : Int} (w : WF (bk σ k)) (h : addR σ τ (k + 12) pg kd vl wt) (hK : σ.1 (k + 12) 0 < 40) (h1 : 1 ≤ pg ∧ pg ≤ 999) (h2 : WFk (bk σ k) kd vl) (h3 : 1 ≤ wt ∧ wt ≤ 9) : WF (bk τ k) ∧ lEq (adB (bk σ k) pg kd vl wt) (bk τ k) := by
  obtain ⟨-, s, e0, g1, g2, g3, g4, g5, g6, j, j1, j2, j3, j4, j5⟩ := h
  obtain ⟨wn, wp, wm, we, wc, wo⟩ := w
  have hk0 : 0 ≤ σ.1 (k + 12) 0 := wn.2.2.2.1
  have ea : ∀ o, o < 12 → ∀ i, bk τ k o i = bk σ k o i := fun o ho i => s.1 (k + o) (by dsimp only; omega) i
  have e12 : bk τ k 12 0 = bk σ k 12 0 + 1 := e0
  have b13 : ∀ i : Nat, bk τ k 13 i = if (i : Int) = bk σ k 12 0 then pg else bk σ k 13 i := fun i => g1 i
  have b14 : ∀ i : Nat, bk τ k 14 i = if (i : Int) = bk σ k 12 0 then kd else bk σ k 14 i := fun i => g2 i
  have b15 : ∀ i : Nat, bk τ k 15 i = if (i : Int) = bk σ k 12 0 then vl else bk σ k 15 i := fun i => g3 i
  have b16 : ∀ i : Nat, bk τ k 16 i = if (i : Int) = bk σ k 12 0 then wt else bk σ k 16 i := fun i => g4 i
  have b17 : ∀ i : Nat, bk τ k 17 i = if (i : Int) = bk σ k 12 0 then 0 else bk σ k 17 i := fun i => g5 i
  have b18 : ∀ i : Nat, bk τ k 18 i = if (i : Int) = bk σ k 12 0 then 0 else bk σ k 18 i := fun i => g6 i
  have o1 : (j : Int) ≤ bk σ k 12 0 := j1
  have o2 : bk τ k 19 j = bk σ k 12 0 := j2
  have o3 : ∀ i, i < j → bk τ k 19 i = bk σ k 19 i := fun i hi => j3 i hi
  have o4 : ∀ i, j ≤ i → (i : Int) < bk σ k 12 0 → bk τ k 19 (i + 1) = bk σ k 19 i ∧ bk σ k 13 (bk σ k 19 i).toNat < pg := fun i a b => j4 i a b
  have o5 : 0 < j → pg ≤ bk σ k 13 (bk σ k 19 (j - 1)).toNat := fun q => j5 q
  have hk1 : bk σ k 12 0 < 40 := hK
  have hk2 : 0 ≤ bk σ k 12 0 := hk0
  generalize bk σ k = D at *
  generalize bk τ k = D' at *
  clear s e0 g1 g2 g3 g4 g5 g6 j1 j2 j3 j4 j5
  have hlow : ∀ i, i < j → pg ≤ D 13 (D 19 i).toNat := fun i hi => by
    have q := o5 (by omega)
    by_cases e : i = j - 1
    · rw [e]; exact q
    · have := wo.2.1 i (j - 1) (by omega) (by omega)
      unfold bef at this
      omega
  have oo : ∀ i, j < i → (i : Int) < D 12 0 + 1 → D' 19 i = D 19 (i - 1) ∧ D 13 (D 19 (i - 1)).toNat < pg := fun i a b => by
    have := o4 (i - 1) (by omega) (by omega)
    rw [show i - 1 + 1 = i by omega] at this
    exact this
  have p13 : ∀ i : Nat, (i : Int) < D 12 0 → D' 13 (D 19 i).toNat = D 13 (D 19 i).toNat ∧ (0 ≤ D 19 i ∧ D 19 i < D 12 0) := fun i hi => by
    have := wo.1 i hi
    refine ⟨?_, this⟩
    rw [b13, if_neg (by omega)]
  have pK : D' 13 (D 12 0).toNat = pg := by rw [b13, if_pos (by omega)]
  refine ⟨⟨?_, fun p hp => ?_, fun q hq => ?_, fun q hq => ?_, fun c hc => ?_, fun i hi => ?_, fun i i' hij hj => ?_, fun c hc => ?_⟩, ⟨?_, ?_, ?_, ?_⟩, fun p _ o a b => ?_, fun q _ => ⟨?_, ?_⟩, fun q _ => ⟨?_, ?_⟩, fun c hc o a b => ?_⟩
  · unfold WFn at *; rw [ea 1 (by omega), ea 1 (by omega), ea 1 (by omega), e12]; exact ⟨wn.1, wn.2.1, wn.2.2.1, by omega, by omega⟩
  · rw [ea 1 (by omega)] at hp
    rw [ea 3 (by omega), ea 4 (by omega), ea 5 (by omega)]; exact wp p hp
  · rw [ea 1 (by omega)] at hq
    rw [ea 8 (by omega), ea 9 (by omega)]; exact wm q hq
  · rw [ea 1 (by omega)] at hq
    rw [ea 10 (by omega), ea 11 (by omega), ea 1 (by omega)]; exact we q hq
  · rw [e12] at hc
    rw [b13, b14, b15, b16, b17, b18]
    by_cases e : (c : Int) = D 12 0
    · rw [if_pos e, if_pos e, if_pos e, if_pos e, if_pos e, if_pos e]
      refine ⟨h1, ?_, h3, Or.inl rfl, Or.inl rfl⟩
      unfold WFk at *; rw [ea 1 (by omega)]; exact h2
    · rw [if_neg e, if_neg e, if_neg e, if_neg e, if_neg e, if_neg e]
      have := wc c (by omega)
      unfold WFk at *; rw [ea 1 (by omega)]; exact this
  · rw [e12] at hi ⊢
    rcases Nat.lt_trichotomy i j with q | q | q
    · have := (p13 i (by omega)).2; rw [o3 i q]; omega
    · rw [q, o2]; omega
    · have := (p13 (i - 1) (by omega)).2; rw [(oo i q hi).1]; omega
  · rw [e12] at hj
    rcases Nat.lt_trichotomy i j with q | q | q
    · have a1 := p13 i (by omega)
      rw [o3 i q]
      rcases Nat.lt_trichotomy i' j with r | r | r
      · have a2 := p13 i' (by omega)
        have := wo.2.1 i i' hij (by omega)
        rw [o3 i' r]
        unfold bef at *
        rw [a1.1, a2.1]; exact this
      · have := hlow i q
        rw [r, o2]
        unfold bef
        rw [a1.1, pK]; omega
      · have a2 := p13 (i' - 1) (by omega)
        have := wo.2.1 i (i' - 1) (by omega) (by omega)
        rw [(oo i' r hj).1]
        unfold bef at *
        rw [a1.1, a2.1]; exact this
    · have a2 := p13 (i' - 1) (by omega)
      have b := oo i' (by omega) hj
      rw [q, o2, b.1]
      unfold bef
      rw [pK, a2.1]; exact Or.inl b.2
    · have a1 := p13 (i - 1) (by omega)
      have a2 := p13 (i' - 1) (by omega)
      have := wo.2.1 (i - 1) (i' - 1) (by omega) (by omega)
      rw [(oo i q (by omega)).1, (oo i' (by omega) hj).1]
      unfold bef at *
      rw [a1.1, a2.1]; exact this
  · rw [e12] at hc
    by_cases e : (c : Int) = D 12 0
    · exact ⟨j, by rw [e12]; omega, by rw [o2, e]⟩
    · obtain ⟨i, hi, hc2⟩ := wo.2.2 c (by omega)
      by_cases q : i < j
      · exact ⟨i, by rw [e12]; omega, by rw [o3 i q]; exact hc2⟩
      · exact ⟨i + 1, by rw [e12]; omega, by rw [(o4 i (by omega) hi).1]; exact hc2⟩
  · rw [ea 1 (by omega), adB_a _ _ _ _ _ (by omega)]
  · rw [ea 1 (by omega), adB_a _ _ _ _ _ (by omega)]
  · rw [ea 1 (by omega), adB_a _ _ _ _ _ (by omega)]
  · rw [e12, adB_k]
  · rw [ea o (by omega), adB_a _ _ _ _ _ (by omega)]
  · rw [ea 8 (by omega), adB_a _ _ _ _ _ (by omega)]
  · rw [ea 9 (by omega), adB_a _ _ _ _ _ (by omega)]
  · rw [ea 10 (by omega), adB_a _ _ _ _ _ (by omega)]
  · rw [ea 11 (by omega), adB_a _ _ _ _ _ (by omega)]
  · by_cases e : (c : Int) = D 12 0
    · rw [adB_n _ _ _ _ _ ⟨a, b⟩ e]
      rcases (by omega : o = 13 ∨ o = 14 ∨ o = 15 ∨ o = 16 ∨ o = 17 ∨ o = 18) with rfl | rfl | rfl | rfl | rfl | rfl
      · rw [b13, if_pos e]; rfl
      · rw [b14, if_pos e]; rfl
      · rw [b15, if_pos e]; rfl
      · rw [b16, if_pos e]; rfl
      · rw [b17, if_pos e]; rfl
      · rw [b18, if_pos e]; rfl
    · rw [adB_o _ _ _ _ _ a e]
      rcases (by omega : o = 13 ∨ o = 14 ∨ o = 15 ∨ o = 16 ∨ o = 17 ∨ o = 18) with rfl | rfl | rfl | rfl | rfl | rfl
      · rw [b13, if_neg e]
      · rw [b14, if_neg e]
      · rw [b15, if_neg e]
      · rw [b16, if_neg e]
      · rw [b17, if_neg e]
      · rw [b18, if_neg e]
def lnV (f : Nat → Int) (a b : Nat) (d : Int) (i : Nat) : Int := if i = b then zor (f b) (zshl 1 d) else if i = a then zand (f a) (zxor (zshl 1 d) (-1)) else f i
def lnB (D : zBk) (a b : Nat) (d : Int) : zBk := fun o i => if o = 6 then lnV (D 6) a b d i else D o i
noncomputable def clB (D : zBk) : zBk := fun o i => if o = 18 then (if zb (opn D i) = 1 then 1 else D 18 i) else D o i
theorem lnB_p {D D' : zBk} {a b : Nat} {d : Int} (h : pEq D D') : pEq (lnB D a b d) (lnB D' a b d) := fun o ho i => by
  have e : D' 6 = D 6 := funext (fun i => h 6 (by omega) i)
  unfold lnB; rw [e]; split
  · rfl
  · exact h o ho i
theorem cFit_ag {D D' : zBk} (h : ∀ o, o ≤ 15 → ∀ i, D' o i = D o i) (p : Nat) (y : Int) (c : Nat) : cFit D' p y c ↔ cFit D p y c := by
  unfold cFit pFit hasDev hasTyp eYr lYr
  simp only [h 3 (by decide), h 6 (by decide), h 7 (by decide), h 8 (by decide), h 9 (by decide), h 14 (by decide), h 15 (by decide)]
theorem opn_ag {D D' : zBk} (h : pEq D D') (w : WF D) (h1 : 1 ≤ D 1 0) {c : Nat} (hc : (c : Int) < D 12 0) : opn D' c ↔ opn D c := by
  have z := pEq_z h
  have e1 : wP D' (Ht D') = wP D (Ht D) := by
    rw [wP_hc (fun c hc => Ht_eq z w (by rw [← z.1.2.2.2]; exact hc))]
    unfold wP rkP
    rw [z.1.1]
    exact congrArg Int.toNat (atR_congr (fun a b ha hb => by unfold ahd; rw [tS_eq z w (by omega), tS_eq z w (by omega)]) 0)
  have e2 : wY D' (Ht D') = wY D (Ht D) := by
    unfold wY
    rw [e1, tR_hc (fun c hc => Ht_eq z w (by rw [← z.1.2.2.2]; exact hc)), tR_eq z w (wP_l w h1)]
  unfold opn
  rw [e1, e2, Ht_eq z w hc, cFit_ag (fun o ho i => h o (by omega) i)]

theorem bb_pt2 {σ τ : zS} {k : Nat} (h1 : ∀ i, τ.1 (k + 17) i = σ.1 (k + 17) i) (h2 : ∀ i, τ.1 (k + 18) i = σ.1 (k + 18) i) (hb : bbK σ k) : bbK τ k := fun i hi => by rw [h1, h2]; exact hb i hi
theorem hback {σ τ : zS} {nb : Int} {R : Nat} (hN : HN σ) (hA : HBA σ) (hw : 0 < σ.1 70 2) (hnb : (nb = σ.1 70 1 - 1 ∧ 0 < σ.1 70 1 ∧ R = nb.toNat) ∨ (nb = 8 ∧ σ.1 70 1 = 0 ∧ R = 8)) (s : zSame (fun q => q = 70 ∨ (30 ≤ q ∧ q ≤ 49)) σ τ) (e1 : τ.1 70 1 = nb) (e2 : τ.1 70 2 = max (σ.1 70 2 - 1) 0) (a : cpA σ τ (72 + 20 * R + 1) (30 + 1)) (c : cpC σ τ (72 + 20 * R + 12) (30 + 12)) :
    zSame (fun q => q = 70 ∨ (30 ≤ q ∧ q ≤ 49)) σ τ ∧ HN τ ∧ τ.1 70 2 = σ.1 70 2 - 1 ∧ HBA τ ∧ zEq (bk σ (hRow σ 0)) (bk τ 30) ∧ ∀ i : Nat, (i : Int) < σ.1 70 2 - 1 → zEq (bk σ (hRow σ (i + 1))) (bk τ (hRow τ i)) := by
  obtain ⟨⟨n0, n1⟩, n2, n3⟩ := hN
  have hR : hRow σ 0 = 72 + 20 * R := by
    unfold hRow
    rcases hnb with ⟨h1, h2, h3⟩ | ⟨h1, h2, h3⟩ <;> omega
  refine ⟨s, ⟨?_, ?_⟩, by omega, fun k hk => ?_, ?_, fun i hi => ?_⟩
  · rw [e1]; omega
  · rw [e2]; omega
  · by_cases e : k = 30
    · subst e
      exact bb_cp c (hA _ (Or.inr (Or.inr (Or.inr ⟨R, by omega, rfl⟩))))
    · refine bb_pt (fun o ho i => s.1 _ ?_ i) (hA k hk)
      dsimp only
      rcases hk with h | h | h | ⟨r, h1, h2⟩ <;> omega
  · rw [hR]; exact zEq_cp a c
  · have e : hRow τ i = hRow σ (i + 1) := by
      unfold hRow
      rw [e1]
      rcases hnb with ⟨h1, h2, h3⟩ | ⟨h1, h2, h3⟩ <;> omega
    rw [e]
    refine zEq_pt (fun o ho j => s.1 _ ?_ j)
    dsimp only
    unfold hRow
    omega

set_option maxRecDepth 20000 in
set_option maxHeartbeats 2000000 in
theorem sX2_learn_b {l : Launch} {w : zW} (hfl : l.stackTraces = false) {σ : zS} {c : Nat} {n : Int} (hz : zOK σ) (hn : 1 ≤ n ∧ n ≤ 40) (hK : 0 ≤ σ.1 c 0 ∧ σ.1 c 0 ≤ 40) (hO : ∀ i : Nat, (i : Int) < σ.1 c 0 → 0 ≤ σ.1 (c + 7) i ∧ σ.1 (c + 7) i < σ.1 c 0) (hI : ∀ i j : Nat, (i : Int) < σ.1 c 0 → (j : Int) < σ.1 c 0 → (σ.1 (c + 7) i).toNat = (σ.1 (c + 7) j).toNat → i = j) : Sp l w mX2_learn 2 0 [zf 2 c, zi n] σ (zqv (none) (fun τ => zOK τ ∧ zSame (fun q => q = c + 5) σ τ ∧ (∀ p : Nat, (p : Int) < σ.1 c 0 → τ.1 (c + 5) (σ.1 (c + 7) p).toNat = if σ.1 (c + 5) (σ.1 (c + 7) p).toNat = 0 ∧ zs (fun i => zb (σ.1 (c + 5) (σ.1 (c + 7) i).toNat = 0)) p < n then 1 else σ.1 (c + 5) (σ.1 (c + 7) p).toNat) ∧ ∀ i : Nat, τ.1 (c + 5) i = σ.1 (c + 5) i ∨ τ.1 (c + 5) i = 1)) := by
  obtain ⟨Q, hQ⟩ : ∃ Q : zQ, Q = (zqv (none) (fun τ => zOK τ ∧ zSame (fun q => q = c + 5) σ τ ∧ (∀ p : Nat, (p : Int) < σ.1 c 0 → τ.1 (c + 5) (σ.1 (c + 7) p).toNat = if σ.1 (c + 5) (σ.1 (c + 7) p).toNat = 0 ∧ zs (fun i => zb (σ.1 (c + 5) (σ.1 (c + 7) i).toNat = 0)) p < n then 1 else σ.1 (c + 5) (σ.1 (c + 7) p).toNat) ∧ ∀ i : Nat, τ.1 (c + 5) i = σ.1 (c + 5) i ∨ τ.1 (c + 5) i = 1)) := ⟨_, rfl⟩
  rw [← hQ]
  refine zx_enter hfl (by decide) rfl 3 rfl ?_
  show zX l w mX2_learn (zMQ w 2 0 Q) 0 [zf 2 c, zi n, zu, zu, zu] [] 0 σ
  have hu : ∀ p, 0 ≤ zs (fun i => zb (σ.1 (c + 5) (σ.1 (c + 7) i).toNat = 0)) p ∧ zs (fun i => zb (σ.1 (c + 5) (σ.1 (c + 7) i).toNat = 0)) p ≤ p := fun p => zsb_le _ p
  refine zx_iloadN dX2_learn_0 rfl rfl ?_
  refine zy_istoreN [zf 2 c, zi n, zi n, zu, zu] dX2_learn_1 rfl (Nat.le_of_ble_eq_true rfl) (Nat.le_of_ble_eq_true rfl) rfl rfl ?_
  refine zx_iconst dX2_learn_2 ?_
  refine zy_istoreN [zf 2 c, zi n, zi n, zi 0, zu] dX2_learn_3 rfl (Nat.le_of_ble_eq_true rfl) (Nat.le_of_ble_eq_true rfl) rfl rfl ?_
  have L4 : ∀ (N : Nat) (τ : zS) (j : Nat) (o : Int), (zOK τ) → ((j : Int) ≤ σ.1 c 0) → (o = n - zs (fun i => zb (σ.1 (c + 5) (σ.1 (c + 7) i).toNat = 0)) j ∧ 0 ≤ o) → (zSame (fun q => q = c + 5) σ τ) → (∀ p : Nat, p < j → τ.1 (c + 5) (σ.1 (c + 7) p).toNat = if σ.1 (c + 5) (σ.1 (c + 7) p).toNat = 0 ∧ zs (fun i => zb (σ.1 (c + 5) (σ.1 (c + 7) i).toNat = 0)) p < n then 1 else σ.1 (c + 5) (σ.1 (c + 7) p).toNat) → (∀ p : Nat, j ≤ p → (p : Int) < σ.1 c 0 → τ.1 (c + 5) (σ.1 (c + 7) p).toNat = σ.1 (c + 5) (σ.1 (c + 7) p).toNat) → (∀ i : Nat, τ.1 (c + 5) i = σ.1 (c + 5) i ∨ τ.1 (c + 5) i = 1) → (41 - j) < N → zX l w mX2_learn (zMQ w 2 0 Q) 4 [zf 2 c, zi n, zi o, zi ((j : Nat) : Int), zu] [] 0 τ := by
    intro N
    induction N with
    | zero => intro τ j o _ _ _ _ _ _ _ _; exact absurd (by assumption) (Nat.not_lt_zero _)
    | succ N ih4 =>
      intro τ j o hz hj ho h1 h2 h3 h4 hN
      have c0 : τ.1 c 0 = σ.1 c 0 := h1.1 c (by omega) 0
      have c7 : ∀ i, τ.1 (c + 7) i = σ.1 (c + 7) i := h1.1 (c + 7) (by omega)
      have huj := hu j
      refine zx_iloadN dX2_learn_4 rfl rfl ?_
      refine zx_aloadN dX2_learn_5 rfl rfl ?_
      refine zy_getI fl_RX2_9 rfl dX2_learn_6 rfl ?_
      refine zx_icmp_ge (tgt := 50) (by first | exact hz _ _ | assumption | exact zr_b _ | exact zcmp_r _ _ | (unfold zr at *; omega)) (by first | exact hz _ _ | assumption | exact zr_b _ | exact zcmp_r _ _ | (unfold zr at *; omega)) dX2_learn_9 (by decide) (fun h9 => ?_) (fun h9 => ?_)
      · refine zx_vret rfl dX2_learn_50 ?_
        rw [hQ]
        refine ⟨rfl, ?_⟩
        refine ⟨hz, h1, fun p hp => ?_, h4⟩
        by_cases hpj : p < j
        · exact h2 p hpj
        · rw [h3 p (by omega) hp, if_neg]
          rintro ⟨-, q2⟩
          have := zsb_mono (fun i => σ.1 (c + 5) (σ.1 (c + 7) i).toNat = 0) (by omega : j ≤ p)
          omega
      · refine zx_iloadN dX2_learn_12 rfl rfl ?_
        refine zx_if_le (tgt := 50) (by first | exact hz _ _ | assumption | exact zr_b _ | exact zcmp_r _ _ | (unfold zr at *; omega)) dX2_learn_13 (by decide) (fun h13 => ?_) (fun h13 => ?_)
        · refine zx_vret rfl dX2_learn_50 ?_
          rw [hQ]
          refine ⟨rfl, ?_⟩
          refine ⟨hz, h1, fun p hp => ?_, h4⟩
          by_cases hpj : p < j
          · exact h2 p hpj
          · rw [h3 p (by omega) hp, if_neg]
            rintro ⟨-, q2⟩
            have := zsb_mono (fun i => σ.1 (c + 5) (σ.1 (c + 7) i).toNat = 0) (by omega : j ≤ p)
            omega
        · have hOj := hO j (by omega)
          have c7j := c7 j
          have h3j := h3 j (by omega) (by omega)
          refine zx_aloadN dX2_learn_16 rfl rfl ?_
          refine zy_getR (q' := c + 7) fl_RX2_35 rfl dX2_learn_17 rfl ?_
          refine zx_iloadN dX2_learn_20 rfl rfl ?_
          refine zy_iald (v := τ.1 (c + 7) j) rfl (by decide) (by decide) dX2_learn_21 (by omega) (by omega) rfl ?_
          refine zy_top (b := (((σ.1 (c + 7) j).toNat : Nat) : Int)) (by omega) ?_
          refine zy_istore [zf 2 c, zi n, zi o, zi ((j : Nat) : Int), zi (((σ.1 (c + 7) j).toNat : Nat) : Int)] dX2_learn_22 (Nat.le_of_ble_eq_true rfl) (Nat.le_of_ble_eq_true rfl) rfl rfl ?_
          refine zx_aloadN dX2_learn_24 rfl rfl ?_
          refine zx_iload dX2_learn_25 rfl ?_
          refine zy_cv [zi (((σ.1 (c + 7) j).toNat : Nat) : Int)] (sX2_isUnread  hfl hz (by first | exact hz _ _ | assumption | exact zr_b _ | exact zcmp_r _ _ | (unfold zr at *; omega)) (by first | assumption | omega)) dX2_learn_27 (by decide) rfl cw_RX2_59 okX2_isUnread rfl (Nat.le_of_ble_eq_true rfl) ⟨Nat.le_of_ble_eq_true rfl, Nat.le_of_ble_eq_true rfl, Nat.le_of_ble_eq_true rfl, Nat.le_of_ble_eq_true rfl⟩ ?_
          refine zy_top (b := zb (0 ≤ (((σ.1 (c + 7) j).toNat : Nat) : Int) ∧ (((σ.1 (c + 7) j).toNat : Nat) : Int) < τ.1 c 0 ∧ τ.1 (c + 5) ((σ.1 (c + 7) j).toNat) = 0)) rfl ?_
          refine zx_if_eq (tgt := 44) (by first | exact hz _ _ | assumption | exact zr_b _ | exact zcmp_r _ _ | (unfold zr at *; omega)) dX2_learn_30 (by decide) (fun h30 => ?_) (fun h30 => ?_)
          · have h30 := zb_0.mp h30
            refine zy_iinc (b := ((j + 1 : Nat) : Int)) [zf 2 c, zi n, zi o, zi ((j + 1 : Nat) : Int), zi (((σ.1 (c + 7) j).toNat : Nat) : Int)] dX2_learn_44 rfl (by omega) (Nat.le_of_ble_eq_true rfl) rfl rfl ?_
            refine zx_goto (tgt := 4) dX2_learn_47 (by decide) ?_
            refine zy_drop 4 [zf 2 c, zi n, zi o, zi ((j + 1 : Nat) : Int), zu] rfl ?_
            exact ih4 τ (j + 1) o hz (by first | assumption | omega) (by have e := zs_s (fun i => zb (σ.1 (c + 5) (σ.1 (c + 7) i).toNat = 0)) j; have z0 := @zb_0 (σ.1 (c + 5) (σ.1 (c + 7) j).toNat = 0); have z1 := zb_01 (σ.1 (c + 5) (σ.1 (c + 7) j).toNat = 0); omega) (by first | exact h1 | exact ⟨fun q hq i => by have hq2 := hq; dsimp only at hq2; exact (zput_k _ _ _ _ _ (by omega)).trans (h1.1 q hq i), h1.2⟩) (fun p hp => by
                  have hI2 := hI p j (by omega) (by omega)
                  rcases Nat.lt_succ_iff_lt_or_eq.mp hp with q | rfl
                  · have := h2 p q
                    first | exact this | exact (zput_i _ _ _ _ _ (by intro e; have := hI2 (by omega); omega)).trans this
                  · first | (split <;> omega) | (rw [zput_s]; split <;> omega)) (fun p hp hp2 => by
                  have hI2 := hI p j (by omega) (by omega)
                  have := h3 p (by omega) hp2
                  first | exact this | exact (zput_i _ _ _ _ _ (by intro e; have := hI2 (by omega); omega)).trans this) (fun i => by first | exact h4 i | (rw [zput_e]; split; exact Or.inr rfl; exact h4 i)) (by omega)
          · have h30 := zb_n.mp h30
            refine zx_aloadN dX2_learn_33 rfl rfl ?_
            refine zy_getR (q' := c + 5) fl_RX2_28 rfl dX2_learn_34 rfl ?_
            refine zx_iload dX2_learn_37 rfl ?_
            refine zx_iconst dX2_learn_39 ?_
            refine zy_zast (i := (σ.1 (c + 7) j).toNat) rfl (by decide) (by decide) dX2_learn_40 (Or.inr rfl) (by omega) (by omega) rfl ?_
            refine zy_iinc (b := o - 1) [zf 2 c, zi n, zi (o - 1), zi ((j : Nat) : Int), zi (((σ.1 (c + 7) j).toNat : Nat) : Int)] dX2_learn_41 rfl (by omega) (Nat.le_of_ble_eq_true rfl) rfl rfl ?_
            refine zy_iinc (b := ((j + 1 : Nat) : Int)) [zf 2 c, zi n, zi (o - 1), zi ((j + 1 : Nat) : Int), zi (((σ.1 (c + 7) j).toNat : Nat) : Int)] dX2_learn_44 rfl (by omega) (Nat.le_of_ble_eq_true rfl) rfl rfl ?_
            refine zx_goto (tgt := 4) dX2_learn_47 (by decide) ?_
            refine zy_drop 4 [zf 2 c, zi n, zi (o - 1), zi ((j + 1 : Nat) : Int), zu] rfl ?_
            exact ih4 (zput τ (c + 5) ((σ.1 (c + 7) j).toNat) 1) (j + 1) (o - 1) (zOK_put hz (by unfold zr; omega)) (by first | assumption | omega) (by have e := zs_s (fun i => zb (σ.1 (c + 5) (σ.1 (c + 7) i).toNat = 0)) j; have z0 := @zb_0 (σ.1 (c + 5) (σ.1 (c + 7) j).toNat = 0); have z1 := zb_01 (σ.1 (c + 5) (σ.1 (c + 7) j).toNat = 0); omega) (by first | exact h1 | exact ⟨fun q hq i => by have hq2 := hq; dsimp only at hq2; exact (zput_k _ _ _ _ _ (by omega)).trans (h1.1 q hq i), h1.2⟩) (fun p hp => by
                  have hI2 := hI p j (by omega) (by omega)
                  rcases Nat.lt_succ_iff_lt_or_eq.mp hp with q | rfl
                  · have := h2 p q
                    first | exact this | exact (zput_i _ _ _ _ _ (by intro e; have := hI2 (by omega); omega)).trans this
                  · first | (split <;> omega) | (rw [zput_s]; split <;> omega)) (fun p hp hp2 => by
                  have hI2 := hI p j (by omega) (by omega)
                  have := h3 p (by omega) hp2
                  first | exact this | exact (zput_i _ _ _ _ _ (by intro e; have := hI2 (by omega); omega)).trans this) (fun i => by first | exact h4 i | (rw [zput_e]; split; exact Or.inr rfl; exact h4 i)) (by omega)
  exact L4 _ σ 0 n hz (by first | assumption | omega) (by simp only [zs]; omega) (zSame_rf _ _) (fun p hp => absurd hp (Nat.not_lt_zero p)) (fun _ _ _ => rfl) (fun i => Or.inl rfl) (Nat.lt_succ_self _)
set_option maxRecDepth 20000 in
set_option maxHeartbeats 2000000 in
theorem sX1_readOn_b {l : Launch} {w : zW} (hfl : l.stackTraces = false) {σ : zS} {k : Nat} {n : Int} (hz : zOK σ) (hw : 1 ≤ n ∧ n ≤ 40) (hK : 0 ≤ σ.1 (k + 12) 0 ∧ σ.1 (k + 12) 0 ≤ 40) (hO : ∀ i : Nat, (i : Int) < σ.1 (k + 12) 0 → 0 ≤ σ.1 (k + 19) i ∧ σ.1 (k + 19) i < σ.1 (k + 12) 0) (hI : ∀ i j : Nat, (i : Int) < σ.1 (k + 12) 0 → (j : Int) < σ.1 (k + 12) 0 → (σ.1 (k + 19) i).toNat = (σ.1 (k + 19) j).toNat → i = j) : Sp l w mX1_readOn 3 0 [zf 1 k, zi n] σ (zqv (some (zi 0)) (fun τ => zOK τ ∧ zSame (fun q => q = k + 17) σ τ ∧ (∀ p : Nat, (p : Int) < σ.1 (k + 12) 0 → τ.1 (k + 17) (σ.1 (k + 19) p).toNat = if σ.1 (k + 17) (σ.1 (k + 19) p).toNat = 0 ∧ zs (fun i => zb (σ.1 (k + 17) (σ.1 (k + 19) i).toNat = 0)) p < n then 1 else σ.1 (k + 17) (σ.1 (k + 19) p).toNat) ∧ ∀ i : Nat, τ.1 (k + 17) i = σ.1 (k + 17) i ∨ τ.1 (k + 17) i = 1)) := by
  obtain ⟨Q, hQ⟩ : ∃ Q : zQ, Q = (zqv (some (zi 0)) (fun τ => zOK τ ∧ zSame (fun q => q = k + 17) σ τ ∧ (∀ p : Nat, (p : Int) < σ.1 (k + 12) 0 → τ.1 (k + 17) (σ.1 (k + 19) p).toNat = if σ.1 (k + 17) (σ.1 (k + 19) p).toNat = 0 ∧ zs (fun i => zb (σ.1 (k + 17) (σ.1 (k + 19) i).toNat = 0)) p < n then 1 else σ.1 (k + 17) (σ.1 (k + 19) p).toNat) ∧ ∀ i : Nat, τ.1 (k + 17) i = σ.1 (k + 17) i ∨ τ.1 (k + 17) i = 1)) := ⟨_, rfl⟩
  rw [← hQ]
  refine zx_enter hfl (by decide) rfl 0 rfl ?_
  show zX l w mX1_readOn (zMQ w 3 0 Q) 0 [zf 1 k, zi n] [] 0 σ
  refine zx_iloadN dX1_readOn_0 rfl rfl ?_
  refine zx_iconst dX1_readOn_1 ?_
  refine zx_bipush dX1_readOn_2 rfl ?_
  refine zy_cn [zi n, zi 1, zi 40] (sX9_isWithin  hfl hz (by first | exact hz _ _ | assumption | exact zr_b _ | exact zcmp_r _ _ | (unfold zr at *; omega)) (by first | exact hz _ _ | assumption | exact zr_b _ | exact zcmp_r _ _ | (unfold zr at *; omega)) (by first | exact hz _ _ | assumption | exact zr_b _ | exact zcmp_r _ _ | (unfold zr at *; omega))) dX1_readOn_4 cw_RX1_39 okX9_isWithin rfl (Nat.le_of_ble_eq_true rfl) ⟨Nat.le_of_ble_eq_true rfl, Nat.le_of_ble_eq_true rfl, Nat.le_of_ble_eq_true rfl, Nat.le_of_ble_eq_true rfl⟩ ?_
  refine zx_if_ne (tgt := 12) (by first | exact hz _ _ | assumption | exact zr_b _ | exact zcmp_r _ _ | (unfold zr at *; omega)) dX1_readOn_7 (by decide) (fun h7 => ?_) (fun h7 => ?_)
  · have h7 := zb_n.mp h7
    refine zx_aloadN dX1_readOn_12 rfl rfl ?_
    refine zy_getR (q' := k + 12) fl_RX1_21 rfl dX1_readOn_13 rfl ?_
    refine zx_iloadN dX1_readOn_16 rfl rfl ?_
    refine zy_cvvR [zi n] (sX2_learn_b  hfl hz hw hK hO hI) dX1_readOn_17 (by decide) rfl cw_RX1_58 okX2_learn rfl (Nat.le_of_ble_eq_true rfl) ⟨Nat.le_of_ble_eq_true rfl, Nat.le_of_ble_eq_true rfl, Nat.le_of_ble_eq_true rfl, Nat.le_of_ble_eq_true rfl⟩ (fun τ17 hr17 => ?_)
    have hz17 : zOK τ17 := hr17.1
    refine zx_iconst dX1_readOn_20 ?_
    refine zx_iret rfl rfl dX1_readOn_21 ?_
    rw [hQ]
    refine ⟨congrArg (fun z : Int => (Sum.inl (some (zi z)) : Option zV ⊕ String)) ?_, ?_⟩
    · first | rfl | assumption | omega
    exact hr17
  · have h7 := zb_0.mp h7
    exfalso; omega
set_option maxRecDepth 20000 in
set_option maxHeartbeats 2000000 in
theorem sX1_lend_x {l : Launch} {w : zW} (hfl : l.stackTraces = false) {σ : zS} {k : Nat} {x y u : Int} (hz : zOK σ) (hx : zr x) (hy : zr y) (hu : zr u) (hP : 0 ≤ σ.1 (k + 1) 0 ∧ σ.1 (k + 1) 0 ≤ 8) (hw : ¬ ((0 ≤ x ∧ x < σ.1 (k + 1) 0) ∧ 0 ≤ y ∧ y < σ.1 (k + 1) 0)) : Sp l w mX1_lend 2 0 [zf 1 k, zi x, zi y, zi u] σ (zret (zi 1) σ) := by
  obtain ⟨Q, hQ⟩ : ∃ Q : zQ, Q = (zret (zi 1) σ) := ⟨_, rfl⟩
  rw [← hQ]
  refine zx_enter hfl (by decide) rfl 0 rfl ?_
  show zX l w mX1_lend (zMQ w 2 0 Q) 0 [zf 1 k, zi x, zi y, zi u] [] 0 σ
  refine zx_aloadN dX1_lend_0 rfl rfl ?_
  refine zy_getR (q' := k + 1) fl_RX1_12 rfl dX1_lend_1 rfl ?_
  refine zx_iloadN dX1_lend_4 rfl rfl ?_
  refine zy_cv [zi x] (sX0_hasPrinter  hfl hz (by first | exact hz _ _ | assumption | exact zr_b _ | exact zcmp_r _ _ | exact zr_t _ | (unfold zr at *; omega))) dX1_lend_5 (by decide) rfl cw_RX1_74 okX0_hasPrinter rfl (Nat.le_of_ble_eq_true rfl) ⟨Nat.le_of_ble_eq_true rfl, Nat.le_of_ble_eq_true rfl, Nat.le_of_ble_eq_true rfl, Nat.le_of_ble_eq_true rfl⟩ ?_
  refine zx_if_eq (tgt := 22) (by first | exact hz _ _ | assumption | exact zr_b _ | exact zcmp_r _ _ | exact zr_t _ | (unfold zr at *; omega)) dX1_lend_8 (by decide) (fun h8 => ?_) (fun h8 => ?_)
  · have h8 := zb_0.mp h8
    refine zx_iconst dX1_lend_22 ?_
    refine zx_iret rfl rfl dX1_lend_23 ?_
    rw [hQ]
    refine ⟨congrArg (fun z : Int => (Sum.inl (some (zi z)) : Option zV ⊕ String)) ?_, by first | rfl | (exfalso; omega)⟩
    first | rfl | omega | (split <;> first | rfl | omega)
  · have h8 := zb_n.mp h8
    refine zx_aloadN dX1_lend_11 rfl rfl ?_
    refine zy_getR (q' := k + 1) fl_RX1_12 rfl dX1_lend_12 rfl ?_
    refine zx_iloadN dX1_lend_15 rfl rfl ?_
    refine zy_cv [zi y] (sX0_hasPrinter  hfl hz (by first | exact hz _ _ | assumption | exact zr_b _ | exact zcmp_r _ _ | exact zr_t _ | (unfold zr at *; omega))) dX1_lend_16 (by decide) rfl cw_RX1_74 okX0_hasPrinter rfl (Nat.le_of_ble_eq_true rfl) ⟨Nat.le_of_ble_eq_true rfl, Nat.le_of_ble_eq_true rfl, Nat.le_of_ble_eq_true rfl, Nat.le_of_ble_eq_true rfl⟩ ?_
    refine zx_if_ne (tgt := 24) (by first | exact hz _ _ | assumption | exact zr_b _ | exact zcmp_r _ _ | exact zr_t _ | (unfold zr at *; omega)) dX1_lend_19 (by decide) (fun h19 => ?_) (fun h19 => ?_)
    · have h19 := zb_n.mp h19
      exact absurd ⟨h8, h19⟩ hw
    · have h19 := zb_0.mp h19
      refine zx_iconst dX1_lend_22 ?_
      refine zx_iret rfl rfl dX1_lend_23 ?_
      rw [hQ]
      refine ⟨congrArg (fun z : Int => (Sum.inl (some (zi z)) : Option zV ⊕ String)) ?_, by first | rfl | (exfalso; omega)⟩
      first | rfl | omega | (split <;> first | rfl | omega)
set_option maxRecDepth 20000 in
set_option maxHeartbeats 2000000 in
theorem sX1_lend_a {l : Launch} {w : zW} (hfl : l.stackTraces = false) {σ : zS} {k : Nat} {x y u : Int} (hz : zOK σ) (hx : zr x) (hy : zr y) (hu : zr u) (hP : 0 ≤ σ.1 (k + 1) 0 ∧ σ.1 (k + 1) 0 ≤ 8) (hw : (0 ≤ x ∧ x < σ.1 (k + 1) 0) ∧ 0 ≤ y ∧ y < σ.1 (k + 1) 0) (hw2 : x = y) : Sp l w mX1_lend 2 0 [zf 1 k, zi x, zi y, zi u] σ (zret (zi 2) σ) := by
  obtain ⟨Q, hQ⟩ : ∃ Q : zQ, Q = (zret (zi 2) σ) := ⟨_, rfl⟩
  rw [← hQ]
  refine zx_enter hfl (by decide) rfl 0 rfl ?_
  show zX l w mX1_lend (zMQ w 2 0 Q) 0 [zf 1 k, zi x, zi y, zi u] [] 0 σ
  refine zx_aloadN dX1_lend_0 rfl rfl ?_
  refine zy_getR (q' := k + 1) fl_RX1_12 rfl dX1_lend_1 rfl ?_
  refine zx_iloadN dX1_lend_4 rfl rfl ?_
  refine zy_cv [zi x] (sX0_hasPrinter  hfl hz (by first | exact hz _ _ | assumption | exact zr_b _ | exact zcmp_r _ _ | exact zr_t _ | (unfold zr at *; omega))) dX1_lend_5 (by decide) rfl cw_RX1_74 okX0_hasPrinter rfl (Nat.le_of_ble_eq_true rfl) ⟨Nat.le_of_ble_eq_true rfl, Nat.le_of_ble_eq_true rfl, Nat.le_of_ble_eq_true rfl, Nat.le_of_ble_eq_true rfl⟩ ?_
  refine zx_if_eq (tgt := 22) (by first | exact hz _ _ | assumption | exact zr_b _ | exact zcmp_r _ _ | exact zr_t _ | (unfold zr at *; omega)) dX1_lend_8 (by decide) (fun h8 => ?_) (fun h8 => ?_)
  · have h8 := zb_0.mp h8
    exfalso; first | exact h8 hw.1 | exact h19 hw.2
  · have h8 := zb_n.mp h8
    refine zx_aloadN dX1_lend_11 rfl rfl ?_
    refine zy_getR (q' := k + 1) fl_RX1_12 rfl dX1_lend_12 rfl ?_
    refine zx_iloadN dX1_lend_15 rfl rfl ?_
    refine zy_cv [zi y] (sX0_hasPrinter  hfl hz (by first | exact hz _ _ | assumption | exact zr_b _ | exact zcmp_r _ _ | exact zr_t _ | (unfold zr at *; omega))) dX1_lend_16 (by decide) rfl cw_RX1_74 okX0_hasPrinter rfl (Nat.le_of_ble_eq_true rfl) ⟨Nat.le_of_ble_eq_true rfl, Nat.le_of_ble_eq_true rfl, Nat.le_of_ble_eq_true rfl, Nat.le_of_ble_eq_true rfl⟩ ?_
    refine zx_if_ne (tgt := 24) (by first | exact hz _ _ | assumption | exact zr_b _ | exact zcmp_r _ _ | exact zr_t _ | (unfold zr at *; omega)) dX1_lend_19 (by decide) (fun h19 => ?_) (fun h19 => ?_)
    · have h19 := zb_n.mp h19
      refine zx_iloadN dX1_lend_24 rfl rfl ?_
      refine zx_iloadN dX1_lend_25 rfl rfl ?_
      refine zx_icmp_ne (tgt := 31) (by first | exact hz _ _ | assumption | exact zr_b _ | exact zcmp_r _ _ | exact zr_t _ | (unfold zr at *; omega)) (by first | exact hz _ _ | assumption | exact zr_b _ | exact zcmp_r _ _ | exact zr_t _ | (unfold zr at *; omega)) dX1_lend_26 (by decide) (fun h26 => ?_) (fun h26 => ?_)
      · exact absurd hw2 (by assumption)
      · refine zx_iconst dX1_lend_29 ?_
        refine zx_iret rfl rfl dX1_lend_30 ?_
        rw [hQ]
        refine ⟨congrArg (fun z : Int => (Sum.inl (some (zi z)) : Option zV ⊕ String)) ?_, by first | rfl | (exfalso; omega)⟩
        first | rfl | omega | (split <;> first | rfl | omega)
    · have h19 := zb_0.mp h19
      exfalso; first | exact h8 hw.1 | exact h19 hw.2
set_option maxRecDepth 20000 in
set_option maxHeartbeats 2000000 in
theorem sX1_lend_s {l : Launch} {w : zW} (hfl : l.stackTraces = false) {σ : zS} {k : Nat} {x y u : Int} (hz : zOK σ) (hx : zr x) (hy : zr y) (hu : zr u) (hP : 0 ≤ σ.1 (k + 1) 0 ∧ σ.1 (k + 1) 0 ≤ 8) (hw : (0 ≤ x ∧ x < σ.1 (k + 1) 0) ∧ 0 ≤ y ∧ y < σ.1 (k + 1) 0) (hw2 : ¬ x = y) (hw3 : ¬ (0 ≤ u ∧ u ≤ 31 ∧ ¬ zand (zushr (σ.1 (k + 6) x.toNat) u) 1 = 0)) : Sp l w mX1_lend 2 0 [zf 1 k, zi x, zi y, zi u] σ (zret (zi 3) σ) := by
  obtain ⟨Q, hQ⟩ : ∃ Q : zQ, Q = (zret (zi 3) σ) := ⟨_, rfl⟩
  rw [← hQ]
  refine zx_enter hfl (by decide) rfl 0 rfl ?_
  show zX l w mX1_lend (zMQ w 2 0 Q) 0 [zf 1 k, zi x, zi y, zi u] [] 0 σ
  refine zx_aloadN dX1_lend_0 rfl rfl ?_
  refine zy_getR (q' := k + 1) fl_RX1_12 rfl dX1_lend_1 rfl ?_
  refine zx_iloadN dX1_lend_4 rfl rfl ?_
  refine zy_cv [zi x] (sX0_hasPrinter  hfl hz (by first | exact hz _ _ | assumption | exact zr_b _ | exact zcmp_r _ _ | exact zr_t _ | (unfold zr at *; omega))) dX1_lend_5 (by decide) rfl cw_RX1_74 okX0_hasPrinter rfl (Nat.le_of_ble_eq_true rfl) ⟨Nat.le_of_ble_eq_true rfl, Nat.le_of_ble_eq_true rfl, Nat.le_of_ble_eq_true rfl, Nat.le_of_ble_eq_true rfl⟩ ?_
  refine zx_if_eq (tgt := 22) (by first | exact hz _ _ | assumption | exact zr_b _ | exact zcmp_r _ _ | exact zr_t _ | (unfold zr at *; omega)) dX1_lend_8 (by decide) (fun h8 => ?_) (fun h8 => ?_)
  · have h8 := zb_0.mp h8
    exfalso; first | exact h8 hw.1 | exact h19 hw.2
  · have h8 := zb_n.mp h8
    refine zx_aloadN dX1_lend_11 rfl rfl ?_
    refine zy_getR (q' := k + 1) fl_RX1_12 rfl dX1_lend_12 rfl ?_
    refine zx_iloadN dX1_lend_15 rfl rfl ?_
    refine zy_cv [zi y] (sX0_hasPrinter  hfl hz (by first | exact hz _ _ | assumption | exact zr_b _ | exact zcmp_r _ _ | exact zr_t _ | (unfold zr at *; omega))) dX1_lend_16 (by decide) rfl cw_RX1_74 okX0_hasPrinter rfl (Nat.le_of_ble_eq_true rfl) ⟨Nat.le_of_ble_eq_true rfl, Nat.le_of_ble_eq_true rfl, Nat.le_of_ble_eq_true rfl, Nat.le_of_ble_eq_true rfl⟩ ?_
    refine zx_if_ne (tgt := 24) (by first | exact hz _ _ | assumption | exact zr_b _ | exact zcmp_r _ _ | exact zr_t _ | (unfold zr at *; omega)) dX1_lend_19 (by decide) (fun h19 => ?_) (fun h19 => ?_)
    · have h19 := zb_n.mp h19
      refine zx_iloadN dX1_lend_24 rfl rfl ?_
      refine zx_iloadN dX1_lend_25 rfl rfl ?_
      refine zx_icmp_ne (tgt := 31) (by first | exact hz _ _ | assumption | exact zr_b _ | exact zcmp_r _ _ | exact zr_t _ | (unfold zr at *; omega)) (by first | exact hz _ _ | assumption | exact zr_b _ | exact zcmp_r _ _ | exact zr_t _ | (unfold zr at *; omega)) dX1_lend_26 (by decide) (fun h26 => ?_) (fun h26 => ?_)
      · refine zx_aloadN dX1_lend_31 rfl rfl ?_
        refine zy_getR (q' := k + 1) fl_RX1_12 rfl dX1_lend_32 rfl ?_
        refine zx_iloadN dX1_lend_35 rfl rfl ?_
        refine zx_iloadN dX1_lend_36 rfl rfl ?_
        refine zy_cv [zi x, zi u] (sX0_ownsDevice  hfl hz (by first | exact hz _ _ | assumption | exact zr_b _ | exact zcmp_r _ _ | exact zr_t _ | (unfold zr at *; omega)) (by first | exact hz _ _ | assumption | exact zr_b _ | exact zcmp_r _ _ | exact zr_t _ | (unfold zr at *; omega)) (by first | assumption | omega)) dX1_lend_37 (by decide) rfl cw_RX1_77 okX0_ownsDevice rfl (Nat.le_of_ble_eq_true rfl) ⟨Nat.le_of_ble_eq_true rfl, Nat.le_of_ble_eq_true rfl, Nat.le_of_ble_eq_true rfl, Nat.le_of_ble_eq_true rfl⟩ ?_
        refine zy_top (b := zb (0 ≤ x ∧ x < σ.1 (k + 1) 0 ∧ 0 ≤ u ∧ u ≤ 31 ∧ ¬ zand (zushr (σ.1 (k + 6) x.toNat) u) 1 = 0)) rfl ?_
        refine zx_if_ne (tgt := 45) (by first | exact hz _ _ | assumption | exact zr_b _ | exact zcmp_r _ _ | exact zr_t _ | (unfold zr at *; omega)) dX1_lend_40 (by decide) (fun h40 => ?_) (fun h40 => ?_)
        · have h40 := zb_n.mp h40
          exact absurd h40.2.2 hw3
        · have h40 := zb_0.mp h40
          refine zx_iconst dX1_lend_43 ?_
          refine zx_iret rfl rfl dX1_lend_44 ?_
          rw [hQ]
          refine ⟨congrArg (fun z : Int => (Sum.inl (some (zi z)) : Option zV ⊕ String)) ?_, by first | rfl | (exfalso; omega)⟩
          first | rfl | omega | (split <;> first | rfl | omega)
      · exact absurd (by assumption) hw2
    · have h19 := zb_0.mp h19
      exfalso; first | exact h8 hw.1 | exact h19 hw.2
set_option maxRecDepth 20000 in
set_option maxHeartbeats 2000000 in
theorem sX1_lend {l : Launch} {w : zW} (hfl : l.stackTraces = false) {σ : zS} {k : Nat} {x y u : Int} (hz : zOK σ) (hx : zr x) (hy : zr y) (hu : zr u) (hP : 0 ≤ σ.1 (k + 1) 0 ∧ σ.1 (k + 1) 0 ≤ 8) (hw : (0 ≤ x ∧ x < σ.1 (k + 1) 0) ∧ 0 ≤ y ∧ y < σ.1 (k + 1) 0) (hw2 : ¬ x = y) (hw3 : 0 ≤ u ∧ u ≤ 31 ∧ ¬ zand (zushr (σ.1 (k + 6) x.toNat) u) 1 = 0) : Sp l w mX1_lend 2 0 [zf 1 k, zi x, zi y, zi u] σ (zqv (some (zi 0)) (fun τ => zOK τ ∧ zSame (fun q => q = k + 6) σ τ ∧ ∀ i, τ.1 (k + 6) i = lnV (σ.1 (k + 6)) x.toNat y.toNat u i)) := by
  obtain ⟨Q, hQ⟩ : ∃ Q : zQ, Q = (zqv (some (zi 0)) (fun τ => zOK τ ∧ zSame (fun q => q = k + 6) σ τ ∧ ∀ i, τ.1 (k + 6) i = lnV (σ.1 (k + 6)) x.toNat y.toNat u i)) := ⟨_, rfl⟩
  rw [← hQ]
  refine zx_enter hfl (by decide) rfl 0 rfl ?_
  show zX l w mX1_lend (zMQ w 2 0 Q) 0 [zf 1 k, zi x, zi y, zi u] [] 0 σ
  have ex : x = ((x.toNat : Nat) : Int) := by omega
  have ey : y = ((y.toNat : Nat) : Int) := by omega
  refine zx_aloadN dX1_lend_0 rfl rfl ?_
  refine zy_getR (q' := k + 1) fl_RX1_12 rfl dX1_lend_1 rfl ?_
  refine zx_iloadN dX1_lend_4 rfl rfl ?_
  refine zy_cv [zi x] (sX0_hasPrinter  hfl hz (by first | exact hz _ _ | assumption | exact zr_b _ | exact zcmp_r _ _ | exact zr_t _ | (unfold zr at *; omega))) dX1_lend_5 (by decide) rfl cw_RX1_74 okX0_hasPrinter rfl (Nat.le_of_ble_eq_true rfl) ⟨Nat.le_of_ble_eq_true rfl, Nat.le_of_ble_eq_true rfl, Nat.le_of_ble_eq_true rfl, Nat.le_of_ble_eq_true rfl⟩ ?_
  refine zx_if_eq (tgt := 22) (by first | exact hz _ _ | assumption | exact zr_b _ | exact zcmp_r _ _ | exact zr_t _ | (unfold zr at *; omega)) dX1_lend_8 (by decide) (fun h8 => ?_) (fun h8 => ?_)
  · have h8 := zb_0.mp h8
    exfalso; first | exact h8 hw.1 | exact h19 hw.2
  · have h8 := zb_n.mp h8
    refine zx_aloadN dX1_lend_11 rfl rfl ?_
    refine zy_getR (q' := k + 1) fl_RX1_12 rfl dX1_lend_12 rfl ?_
    refine zx_iloadN dX1_lend_15 rfl rfl ?_
    refine zy_cv [zi y] (sX0_hasPrinter  hfl hz (by first | exact hz _ _ | assumption | exact zr_b _ | exact zcmp_r _ _ | exact zr_t _ | (unfold zr at *; omega))) dX1_lend_16 (by decide) rfl cw_RX1_74 okX0_hasPrinter rfl (Nat.le_of_ble_eq_true rfl) ⟨Nat.le_of_ble_eq_true rfl, Nat.le_of_ble_eq_true rfl, Nat.le_of_ble_eq_true rfl, Nat.le_of_ble_eq_true rfl⟩ ?_
    refine zx_if_ne (tgt := 24) (by first | exact hz _ _ | assumption | exact zr_b _ | exact zcmp_r _ _ | exact zr_t _ | (unfold zr at *; omega)) dX1_lend_19 (by decide) (fun h19 => ?_) (fun h19 => ?_)
    · have h19 := zb_n.mp h19
      refine zx_iloadN dX1_lend_24 rfl rfl ?_
      refine zx_iloadN dX1_lend_25 rfl rfl ?_
      refine zx_icmp_ne (tgt := 31) (by first | exact hz _ _ | assumption | exact zr_b _ | exact zcmp_r _ _ | exact zr_t _ | (unfold zr at *; omega)) (by first | exact hz _ _ | assumption | exact zr_b _ | exact zcmp_r _ _ | exact zr_t _ | (unfold zr at *; omega)) dX1_lend_26 (by decide) (fun h26 => ?_) (fun h26 => ?_)
      · refine zx_aloadN dX1_lend_31 rfl rfl ?_
        refine zy_getR (q' := k + 1) fl_RX1_12 rfl dX1_lend_32 rfl ?_
        refine zx_iloadN dX1_lend_35 rfl rfl ?_
        refine zx_iloadN dX1_lend_36 rfl rfl ?_
        refine zy_cv [zi x, zi u] (sX0_ownsDevice  hfl hz (by first | exact hz _ _ | assumption | exact zr_b _ | exact zcmp_r _ _ | exact zr_t _ | (unfold zr at *; omega)) (by first | exact hz _ _ | assumption | exact zr_b _ | exact zcmp_r _ _ | exact zr_t _ | (unfold zr at *; omega)) (by first | assumption | omega)) dX1_lend_37 (by decide) rfl cw_RX1_77 okX0_ownsDevice rfl (Nat.le_of_ble_eq_true rfl) ⟨Nat.le_of_ble_eq_true rfl, Nat.le_of_ble_eq_true rfl, Nat.le_of_ble_eq_true rfl, Nat.le_of_ble_eq_true rfl⟩ ?_
        refine zy_top (b := zb (0 ≤ x ∧ x < σ.1 (k + 1) 0 ∧ 0 ≤ u ∧ u ≤ 31 ∧ ¬ zand (zushr (σ.1 (k + 6) x.toNat) u) 1 = 0)) rfl ?_
        refine zx_if_ne (tgt := 45) (by first | exact hz _ _ | assumption | exact zr_b _ | exact zcmp_r _ _ | exact zr_t _ | (unfold zr at *; omega)) dX1_lend_40 (by decide) (fun h40 => ?_) (fun h40 => ?_)
        · have h40 := zb_n.mp h40
          refine zx_aloadN dX1_lend_45 rfl rfl ?_
          refine zy_getR (q' := k + 1) fl_RX1_12 rfl dX1_lend_46 rfl ?_
          refine zx_iloadN dX1_lend_49 rfl rfl ?_
          refine zy_top (b := ((x.toNat : Nat) : Int)) (ex) ?_
          refine zx_iloadN dX1_lend_50 rfl rfl ?_
          refine zy_cvv [zi ((x.toNat : Nat) : Int), zi u] (sX0_takeDevice  hfl hz (by first | assumption | omega) (by first | assumption | omega) (by first | assumption | omega)) dX1_lend_51 (by decide) rfl cw_RX1_81 okX0_takeDevice rfl (Nat.le_of_ble_eq_true rfl) ⟨Nat.le_of_ble_eq_true rfl, Nat.le_of_ble_eq_true rfl, Nat.le_of_ble_eq_true rfl, Nat.le_of_ble_eq_true rfl⟩ ?_
          refine zx_aloadN dX1_lend_54 rfl rfl ?_
          refine zy_getR (q' := k + 1) fl_RX1_12 rfl dX1_lend_55 rfl ?_
          refine zx_iloadN dX1_lend_58 rfl rfl ?_
          refine zy_top (b := ((y.toNat : Nat) : Int)) (ey) ?_
          refine zx_iloadN dX1_lend_59 rfl rfl ?_
          refine zy_cvv [zi ((y.toNat : Nat) : Int), zi u] (sX0_giveDevice  hfl (zOK_put hz (zr_t _)) (by rw [zput_k _ _ _ _ _ (by omega)]; omega) (by rw [zput_k _ _ _ _ _ (by omega)]; omega) (by first | assumption | omega)) dX1_lend_60 (by decide) rfl cw_RX1_85 okX0_giveDevice rfl (Nat.le_of_ble_eq_true rfl) ⟨Nat.le_of_ble_eq_true rfl, Nat.le_of_ble_eq_true rfl, Nat.le_of_ble_eq_true rfl, Nat.le_of_ble_eq_true rfl⟩ ?_
          refine zx_iconst dX1_lend_63 ?_
          refine zx_iret rfl rfl dX1_lend_64 ?_
          rw [hQ]
          refine ⟨congrArg (fun z : Int => (Sum.inl (some (zi z)) : Option zV ⊕ String)) ?_, ?_⟩
          · first | rfl | assumption | omega
          have hxy : ¬ x.toNat = y.toNat := fun q => hw2 (by omega)
          refine ⟨(zOK_put (zOK_put hz (zr_t _)) (zr_t _)), ⟨fun q hq i => by have hq2 := hq; dsimp only at hq2; exact (zput_k _ _ _ _ _ (by omega)).trans (zput_k _ _ _ _ _ (by omega)), rfl⟩, fun i => ?_⟩
          unfold lnV
          simp only [zput_e, true_and, hxy, Ne.symm hxy, fun q : y.toNat = x.toNat => hxy q.symm, if_false]
        · have h40 := zb_0.mp h40
          exact absurd (⟨hw.1.1, hw.1.2, hw3⟩) h40
      · exact absurd (by assumption) hw2
    · have h19 := zb_0.mp h19
      exfalso; first | exact h8 hw.1 | exact h19 hw.2
set_option maxRecDepth 20000 in
set_option maxHeartbeats 2000000 in
theorem sX9_addClue_f2 {l : Launch} {w : zW} (hfl : l.stackTraces = false) {σ : zS} {pg kd vl wt : Int} (hz : zOK σ) (hW : WF (bk σ 30)) (hN : HN σ) (hA : HBA σ) (h1 : zr pg) (h2 : zr kd) (h3 : zr vl) (h4 : zr wt) (hkd : 0 ≤ kd ∧ kd ≤ 4) (hw : ¬ ((1 ≤ pg ∧ pg ≤ 999) ∧ (1 ≤ wt ∧ wt ≤ 9) ∧ (if kd = 4 then 1450 else 0) ≤ vl ∧ vl ≤ (if kd = 0 then 31 else if kd = 1 then 15 else if kd = 2 then σ.1 31 7 - 1 else if kd = 3 then 9 else 1999))) : Sp l w mX9_addClue 7 1 [zf 9 0, zi pg, zi kd, zi vl, zi wt] σ (zthq "java/lang/IllegalArgumentException" (fun τ => zOK τ ∧ zSame (fun q => 72 ≤ q ∧ q ≤ 251) σ τ ∧ HKp σ τ ∧ HBA τ)) := by
  obtain ⟨Q, hQ⟩ : ∃ Q : zQ, Q = (zthq "java/lang/IllegalArgumentException" (fun τ => zOK τ ∧ zSame (fun q => 72 ≤ q ∧ q ≤ 251) σ τ ∧ HKp σ τ ∧ HBA τ)) := ⟨_, rfl⟩
  rw [← hQ]
  refine zx_enter hfl (by decide) rfl 0 rfl ?_
  show zX l w mX9_addClue (zMQ w 7 1 Q) 0 [zf 9 0, zi pg, zi kd, zi vl, zi wt] [] 0 σ
  have hP : 0 ≤ σ.1 31 0 ∧ σ.1 31 0 ≤ 8 := hW.1.1
  have hM : 0 ≤ σ.1 31 7 ∧ σ.1 31 7 ≤ 8 := hW.1.2.1
  have hE : 0 ≤ σ.1 31 10 ∧ σ.1 31 10 ≤ 12 := hW.1.2.2.1
  have hK : 0 ≤ σ.1 42 0 ∧ σ.1 42 0 ≤ 40 := hW.1.2.2.2
  have hNn := hN.1
  refine zx_aloadN dX9_addClue_0 rfl rfl ?_
  refine zy_getR (q' := 70) fl_RX9_47 rfl dX9_addClue_1 rfl ?_
  refine zx_aloadN dX9_addClue_4 rfl rfl ?_
  refine zy_getR (q' := 30) fl_RX9_33 rfl dX9_addClue_5 rfl ?_
  refine zy_cvvR [zf 1 30] (sX5_prepare  hfl hz hN.1 (hA 30 (Or.inr (Or.inl rfl)))) dX9_addClue_8 (by decide) rfl cw_RX9_143 okX5_prepare rfl (Nat.le_of_ble_eq_true rfl) ⟨Nat.le_of_ble_eq_true rfl, Nat.le_of_ble_eq_true rfl, Nat.le_of_ble_eq_true rfl, Nat.le_of_ble_eq_true rfl⟩ (fun τ8 hr8 => ?_)
  have hz8 : zOK τ8 := hr8.1
  have hp := hprep hN hA hr8.2.1 hr8.2.2.2
  have ep : ∀ q, q < 72 → ∀ i, τ8.1 q i = σ.1 q i := fun q h1 i => hr8.2.1.1 q (by dsimp only; omega) i
  have pq : pEq (bk σ 30) (bk τ8 30) := fun o ho i => ep _ (by omega) i
  have hWp := WF_eq (pEq_z pq) hW
  have hPp : 0 ≤ τ8.1 31 0 ∧ τ8.1 31 0 ≤ 8 := hWp.1.1
  have hM8 : 0 ≤ τ8.1 31 7 ∧ τ8.1 31 7 ≤ 8 := hWp.1.2.1
  have hK8 : 0 ≤ τ8.1 42 0 ∧ τ8.1 42 0 ≤ 40 := hWp.1.2.2.2
  have hN8 : HN τ8 := by have e1 := ep 70 (by omega) 1; have e2 := ep 70 (by omega) 2; unfold HN at *; omega
  have p42 : τ8.1 42 0 = σ.1 42 0 := ep 42 (by omega) 0
  have p31 : τ8.1 31 0 = σ.1 31 0 := ep 31 (by omega) 0
  have p317 : τ8.1 31 7 = σ.1 31 7 := ep 31 (by omega) 7
  have hO8 : ∀ i : Nat, (i : Int) < τ8.1 42 0 → 0 ≤ τ8.1 49 i ∧ τ8.1 49 i < τ8.1 42 0 := hWp.2.2.2.2.2.1
  have hI8 : ∀ i j : Nat, (i : Int) < τ8.1 42 0 → (j : Int) < τ8.1 42 0 → (τ8.1 49 i).toNat = (τ8.1 49 j).toNat → i = j := fun i j a b e => WFo_inj hWp.2.2.2.2.2 a b e
  have hFr : zOK τ8 ∧ zSame (fun q => 72 ≤ q ∧ q ≤ 251) σ τ8 ∧ HKp σ τ8 ∧ HBA τ8 := ⟨hr8.1, ⟨fun q hq i => hr8.2.1.1 q (by dsimp only at hq ⊢; have := hN.1; omega) i, hr8.2.1.2⟩, hp.2, hp.1⟩
  refine zx_aloadN dX9_addClue_11 rfl rfl ?_
  refine zy_getR (q' := 30) fl_RX9_33 rfl dX9_addClue_12 rfl ?_
  refine zx_iloadN dX9_addClue_15 rfl rfl ?_
  refine zx_iloadN dX9_addClue_16 rfl rfl ?_
  refine zx_iloadN dX9_addClue_17 rfl rfl ?_
  refine zx_iload dX9_addClue_18 rfl ?_
  refine zy_cv [zi pg, zi kd, zi vl, zi wt] (sX1_enterClue_a  hfl hz8 (by first | exact hz8 _ _ | assumption | exact zr_b _ | exact zcmp_r _ _ | (unfold zr at *; omega)) (by first | exact hz8 _ _ | assumption | exact zr_b _ | exact zcmp_r _ _ | (unfold zr at *; omega)) (by first | exact hz8 _ _ | assumption | exact zr_b _ | exact zcmp_r _ _ | (unfold zr at *; omega)) (by first | exact hz8 _ _ | assumption | exact zr_b _ | exact zcmp_r _ _ | (unfold zr at *; omega)) (by first | assumption | omega | (show 0 ≤ τ8.1 31 7 ∧ τ8.1 31 7 ≤ 8; omega)) (by first | assumption | omega | (show 0 ≤ τ8.1 42 0 ∧ τ8.1 42 0 ≤ 40; omega)) (by rw [show τ8.1 (30 + 1) 7 = σ.1 31 7 from p317]; exact hw)) dX9_addClue_20 (by decide) rfl cw_RX9_351 okX1_enterClue rfl (Nat.le_of_ble_eq_true rfl) ⟨Nat.le_of_ble_eq_true rfl, Nat.le_of_ble_eq_true rfl, Nat.le_of_ble_eq_true rfl, Nat.le_of_ble_eq_true rfl⟩ ?_
  refine zy_cst [zi 2] (sX9_refuse_2  hfl hz8 (by first | assumption | omega)) dX9_addClue_23 cw_RX9_300 okX9_refuse rfl (Nat.le_of_ble_eq_true rfl) ⟨Nat.le_of_ble_eq_true rfl, Nat.le_of_ble_eq_true rfl, Nat.le_of_ble_eq_true rfl, Nat.le_of_ble_eq_true rfl⟩ ?_
  refine zxt_out rfl ?_
  rw [hQ]
  refine ⟨rfl, ?_⟩
  exact hFr
set_option maxRecDepth 20000 in
set_option maxHeartbeats 2000000 in
theorem sX9_addClue_f3 {l : Launch} {w : zW} (hfl : l.stackTraces = false) {σ : zS} {pg kd vl wt : Int} (hz : zOK σ) (hW : WF (bk σ 30)) (hN : HN σ) (hA : HBA σ) (h1 : zr pg) (h2 : zr kd) (h3 : zr vl) (h4 : zr wt) (hkd : 0 ≤ kd ∧ kd ≤ 4) (hw : (1 ≤ pg ∧ pg ≤ 999) ∧ (1 ≤ wt ∧ wt ≤ 9) ∧ (if kd = 4 then 1450 else 0) ≤ vl ∧ vl ≤ (if kd = 0 then 31 else if kd = 1 then 15 else if kd = 2 then σ.1 31 7 - 1 else if kd = 3 then 9 else 1999)) (hw2 : 40 ≤ σ.1 42 0) : Sp l w mX9_addClue 7 1 [zf 9 0, zi pg, zi kd, zi vl, zi wt] σ (zthq "java/lang/IllegalStateException" (fun τ => zOK τ ∧ zSame (fun q => 72 ≤ q ∧ q ≤ 251) σ τ ∧ HKp σ τ ∧ HBA τ)) := by
  obtain ⟨Q, hQ⟩ : ∃ Q : zQ, Q = (zthq "java/lang/IllegalStateException" (fun τ => zOK τ ∧ zSame (fun q => 72 ≤ q ∧ q ≤ 251) σ τ ∧ HKp σ τ ∧ HBA τ)) := ⟨_, rfl⟩
  rw [← hQ]
  refine zx_enter hfl (by decide) rfl 0 rfl ?_
  show zX l w mX9_addClue (zMQ w 7 1 Q) 0 [zf 9 0, zi pg, zi kd, zi vl, zi wt] [] 0 σ
  have hP : 0 ≤ σ.1 31 0 ∧ σ.1 31 0 ≤ 8 := hW.1.1
  have hM : 0 ≤ σ.1 31 7 ∧ σ.1 31 7 ≤ 8 := hW.1.2.1
  have hE : 0 ≤ σ.1 31 10 ∧ σ.1 31 10 ≤ 12 := hW.1.2.2.1
  have hK : 0 ≤ σ.1 42 0 ∧ σ.1 42 0 ≤ 40 := hW.1.2.2.2
  have hNn := hN.1
  refine zx_aloadN dX9_addClue_0 rfl rfl ?_
  refine zy_getR (q' := 70) fl_RX9_47 rfl dX9_addClue_1 rfl ?_
  refine zx_aloadN dX9_addClue_4 rfl rfl ?_
  refine zy_getR (q' := 30) fl_RX9_33 rfl dX9_addClue_5 rfl ?_
  refine zy_cvvR [zf 1 30] (sX5_prepare  hfl hz hN.1 (hA 30 (Or.inr (Or.inl rfl)))) dX9_addClue_8 (by decide) rfl cw_RX9_143 okX5_prepare rfl (Nat.le_of_ble_eq_true rfl) ⟨Nat.le_of_ble_eq_true rfl, Nat.le_of_ble_eq_true rfl, Nat.le_of_ble_eq_true rfl, Nat.le_of_ble_eq_true rfl⟩ (fun τ8 hr8 => ?_)
  have hz8 : zOK τ8 := hr8.1
  have hp := hprep hN hA hr8.2.1 hr8.2.2.2
  have ep : ∀ q, q < 72 → ∀ i, τ8.1 q i = σ.1 q i := fun q h1 i => hr8.2.1.1 q (by dsimp only; omega) i
  have pq : pEq (bk σ 30) (bk τ8 30) := fun o ho i => ep _ (by omega) i
  have hWp := WF_eq (pEq_z pq) hW
  have hPp : 0 ≤ τ8.1 31 0 ∧ τ8.1 31 0 ≤ 8 := hWp.1.1
  have hM8 : 0 ≤ τ8.1 31 7 ∧ τ8.1 31 7 ≤ 8 := hWp.1.2.1
  have hK8 : 0 ≤ τ8.1 42 0 ∧ τ8.1 42 0 ≤ 40 := hWp.1.2.2.2
  have hN8 : HN τ8 := by have e1 := ep 70 (by omega) 1; have e2 := ep 70 (by omega) 2; unfold HN at *; omega
  have p42 : τ8.1 42 0 = σ.1 42 0 := ep 42 (by omega) 0
  have p31 : τ8.1 31 0 = σ.1 31 0 := ep 31 (by omega) 0
  have p317 : τ8.1 31 7 = σ.1 31 7 := ep 31 (by omega) 7
  have hO8 : ∀ i : Nat, (i : Int) < τ8.1 42 0 → 0 ≤ τ8.1 49 i ∧ τ8.1 49 i < τ8.1 42 0 := hWp.2.2.2.2.2.1
  have hI8 : ∀ i j : Nat, (i : Int) < τ8.1 42 0 → (j : Int) < τ8.1 42 0 → (τ8.1 49 i).toNat = (τ8.1 49 j).toNat → i = j := fun i j a b e => WFo_inj hWp.2.2.2.2.2 a b e
  have hFr : zOK τ8 ∧ zSame (fun q => 72 ≤ q ∧ q ≤ 251) σ τ8 ∧ HKp σ τ8 ∧ HBA τ8 := ⟨hr8.1, ⟨fun q hq i => hr8.2.1.1 q (by dsimp only at hq ⊢; have := hN.1; omega) i, hr8.2.1.2⟩, hp.2, hp.1⟩
  refine zx_aloadN dX9_addClue_11 rfl rfl ?_
  refine zy_getR (q' := 30) fl_RX9_33 rfl dX9_addClue_12 rfl ?_
  refine zx_iloadN dX9_addClue_15 rfl rfl ?_
  refine zx_iloadN dX9_addClue_16 rfl rfl ?_
  refine zx_iloadN dX9_addClue_17 rfl rfl ?_
  refine zx_iload dX9_addClue_18 rfl ?_
  refine zy_cv [zi pg, zi kd, zi vl, zi wt] (sX1_enterClue_s  hfl hz8 (by first | exact hz8 _ _ | assumption | exact zr_b _ | exact zcmp_r _ _ | (unfold zr at *; omega)) (by first | exact hz8 _ _ | assumption | exact zr_b _ | exact zcmp_r _ _ | (unfold zr at *; omega)) (by first | exact hz8 _ _ | assumption | exact zr_b _ | exact zcmp_r _ _ | (unfold zr at *; omega)) (by first | exact hz8 _ _ | assumption | exact zr_b _ | exact zcmp_r _ _ | (unfold zr at *; omega)) (by first | assumption | omega | (show 0 ≤ τ8.1 31 7 ∧ τ8.1 31 7 ≤ 8; omega)) (by first | assumption | omega | (show 0 ≤ τ8.1 42 0 ∧ τ8.1 42 0 ≤ 40; omega)) (by rw [show τ8.1 (30 + 1) 7 = σ.1 31 7 from p317]; exact hw) (by first | assumption | omega | (show 40 ≤ τ8.1 42 0; omega))) dX9_addClue_20 (by decide) rfl cw_RX9_351 okX1_enterClue rfl (Nat.le_of_ble_eq_true rfl) ⟨Nat.le_of_ble_eq_true rfl, Nat.le_of_ble_eq_true rfl, Nat.le_of_ble_eq_true rfl, Nat.le_of_ble_eq_true rfl⟩ ?_
  refine zy_cst [zi 3] (sX9_refuse_3  hfl hz8 (by first | assumption | omega)) dX9_addClue_23 cw_RX9_300 okX9_refuse rfl (Nat.le_of_ble_eq_true rfl) ⟨Nat.le_of_ble_eq_true rfl, Nat.le_of_ble_eq_true rfl, Nat.le_of_ble_eq_true rfl, Nat.le_of_ble_eq_true rfl⟩ ?_
  refine zxt_out rfl ?_
  rw [hQ]
  refine ⟨rfl, ?_⟩
  exact hFr
set_option maxRecDepth 20000 in
set_option maxHeartbeats 2000000 in
theorem sX9_addClue {l : Launch} {w : zW} (hfl : l.stackTraces = false) {σ : zS} {pg kd vl wt : Int} (hz : zOK σ) (hW : WF (bk σ 30)) (hN : HN σ) (hA : HBA σ) (h1 : zr pg) (h2 : zr kd) (h3 : zr vl) (h4 : zr wt) (hkd : 0 ≤ kd ∧ kd ≤ 4) (hw : (1 ≤ pg ∧ pg ≤ 999) ∧ (1 ≤ wt ∧ wt ≤ 9) ∧ (if kd = 4 then 1450 else 0) ≤ vl ∧ vl ≤ (if kd = 0 then 31 else if kd = 1 then 15 else if kd = 2 then σ.1 31 7 - 1 else if kd = 3 then 9 else 1999)) (hw2 : σ.1 42 0 < 40) : Sp l w mX9_addClue 7 0 [zf 9 0, zi pg, zi kd, zi vl, zi wt] σ (zqv (some (zi (σ.1 42 0))) (fun τ => zOK τ ∧ zSame (fun q => (30 ≤ q ∧ q ≤ 49) ∨ (70 ≤ q ∧ q ≤ 258)) σ τ ∧ HPu σ τ ∧ HBA τ ∧ WF (bk τ 30) ∧ lEq (adB (bk σ 30) pg kd vl wt) (bk τ 30))) := by
  obtain ⟨Q, hQ⟩ : ∃ Q : zQ, Q = (zqv (some (zi (σ.1 42 0))) (fun τ => zOK τ ∧ zSame (fun q => (30 ≤ q ∧ q ≤ 49) ∨ (70 ≤ q ∧ q ≤ 258)) σ τ ∧ HPu σ τ ∧ HBA τ ∧ WF (bk τ 30) ∧ lEq (adB (bk σ 30) pg kd vl wt) (bk τ 30))) := ⟨_, rfl⟩
  rw [← hQ]
  refine zx_enter hfl (by decide) rfl 0 rfl ?_
  show zX l w mX9_addClue (zMQ w 7 0 Q) 0 [zf 9 0, zi pg, zi kd, zi vl, zi wt] [] 0 σ
  have hP : 0 ≤ σ.1 31 0 ∧ σ.1 31 0 ≤ 8 := hW.1.1
  have hM : 0 ≤ σ.1 31 7 ∧ σ.1 31 7 ≤ 8 := hW.1.2.1
  have hE : 0 ≤ σ.1 31 10 ∧ σ.1 31 10 ≤ 12 := hW.1.2.2.1
  have hK : 0 ≤ σ.1 42 0 ∧ σ.1 42 0 ≤ 40 := hW.1.2.2.2
  have hNn := hN.1
  refine zx_aloadN dX9_addClue_0 rfl rfl ?_
  refine zy_getR (q' := 70) fl_RX9_47 rfl dX9_addClue_1 rfl ?_
  refine zx_aloadN dX9_addClue_4 rfl rfl ?_
  refine zy_getR (q' := 30) fl_RX9_33 rfl dX9_addClue_5 rfl ?_
  refine zy_cvvR [zf 1 30] (sX5_prepare  hfl hz hN.1 (hA 30 (Or.inr (Or.inl rfl)))) dX9_addClue_8 (by decide) rfl cw_RX9_143 okX5_prepare rfl (Nat.le_of_ble_eq_true rfl) ⟨Nat.le_of_ble_eq_true rfl, Nat.le_of_ble_eq_true rfl, Nat.le_of_ble_eq_true rfl, Nat.le_of_ble_eq_true rfl⟩ (fun τ8 hr8 => ?_)
  have hz8 : zOK τ8 := hr8.1
  have hp := hprep hN hA hr8.2.1 hr8.2.2.2
  have ep : ∀ q, q < 72 → ∀ i, τ8.1 q i = σ.1 q i := fun q h1 i => hr8.2.1.1 q (by dsimp only; omega) i
  have pq : pEq (bk σ 30) (bk τ8 30) := fun o ho i => ep _ (by omega) i
  have hWp := WF_eq (pEq_z pq) hW
  have hPp : 0 ≤ τ8.1 31 0 ∧ τ8.1 31 0 ≤ 8 := hWp.1.1
  have hM8 : 0 ≤ τ8.1 31 7 ∧ τ8.1 31 7 ≤ 8 := hWp.1.2.1
  have hK8 : 0 ≤ τ8.1 42 0 ∧ τ8.1 42 0 ≤ 40 := hWp.1.2.2.2
  have hN8 : HN τ8 := by have e1 := ep 70 (by omega) 1; have e2 := ep 70 (by omega) 2; unfold HN at *; omega
  have p42 : τ8.1 42 0 = σ.1 42 0 := ep 42 (by omega) 0
  have p31 : τ8.1 31 0 = σ.1 31 0 := ep 31 (by omega) 0
  have p317 : τ8.1 31 7 = σ.1 31 7 := ep 31 (by omega) 7
  have hO8 : ∀ i : Nat, (i : Int) < τ8.1 42 0 → 0 ≤ τ8.1 49 i ∧ τ8.1 49 i < τ8.1 42 0 := hWp.2.2.2.2.2.1
  have hI8 : ∀ i j : Nat, (i : Int) < τ8.1 42 0 → (j : Int) < τ8.1 42 0 → (τ8.1 49 i).toNat = (τ8.1 49 j).toNat → i = j := fun i j a b e => WFo_inj hWp.2.2.2.2.2 a b e
  have hFr : zOK τ8 ∧ zSame (fun q => 72 ≤ q ∧ q ≤ 251) σ τ8 ∧ HKp σ τ8 ∧ HBA τ8 := ⟨hr8.1, ⟨fun q hq i => hr8.2.1.1 q (by dsimp only at hq ⊢; have := hN.1; omega) i, hr8.2.1.2⟩, hp.2, hp.1⟩
  refine zx_aloadN dX9_addClue_11 rfl rfl ?_
  refine zy_getR (q' := 30) fl_RX9_33 rfl dX9_addClue_12 rfl ?_
  refine zx_iloadN dX9_addClue_15 rfl rfl ?_
  refine zx_iloadN dX9_addClue_16 rfl rfl ?_
  refine zx_iloadN dX9_addClue_17 rfl rfl ?_
  refine zx_iload dX9_addClue_18 rfl ?_
  refine zy_cvR [zi pg, zi kd, zi vl, zi wt] (sX1_enterClue  hfl hz8 (by first | exact hz8 _ _ | assumption | exact zr_b _ | exact zcmp_r _ _ | (unfold zr at *; omega)) (by first | exact hz8 _ _ | assumption | exact zr_b _ | exact zcmp_r _ _ | (unfold zr at *; omega)) (by first | exact hz8 _ _ | assumption | exact zr_b _ | exact zcmp_r _ _ | (unfold zr at *; omega)) (by first | exact hz8 _ _ | assumption | exact zr_b _ | exact zcmp_r _ _ | (unfold zr at *; omega)) (by first | assumption | omega | (show 0 ≤ τ8.1 31 7 ∧ τ8.1 31 7 ≤ 8; omega)) (by first | assumption | omega | (show 0 ≤ τ8.1 42 0 ∧ τ8.1 42 0 ≤ 40; omega)) (by rw [show τ8.1 (30 + 1) 7 = σ.1 31 7 from p317]; exact hw) (by rw [show τ8.1 (30 + 12) 0 = σ.1 42 0 from p42]; exact hw2) hO8) dX9_addClue_20 (by decide) rfl cw_RX9_351 okX1_enterClue rfl (Nat.le_of_ble_eq_true rfl) ⟨Nat.le_of_ble_eq_true rfl, Nat.le_of_ble_eq_true rfl, Nat.le_of_ble_eq_true rfl, Nat.le_of_ble_eq_true rfl⟩ (fun τ20 hr20 => ?_)
  have hz20 : zOK τ20 := hr20.1
  have hNo : HN (τ20) := HN_post hN8 ((⟨fun q hq i => hr20.2.1.1 q (by dsimp only at hq ⊢; omega) i, hr20.2.1.2⟩ : zSame (fun q => 30 ≤ q ∧ q ≤ 49) τ8 τ20)) (by first | omega | (dsimp only; omega))
  have hNo1 := hNo.1
  have hNo2 := hNo.2
  have wk : WFk (bk τ8 30) kd vl := by
    unfold WFk; show _ ∧ _ ∧ _ ∧ _ ∧ _ ∧ _ ∧ (kd = 2 → vl < τ8.1 31 7) ∧ _ ∧ _; rw [p317]; obtain ⟨-, -, hl, hh⟩ := hw; (repeat' split at hl) <;> (repeat' split at hh) <;> omega
  have ha := add_ok hWp hr20 (show τ8.1 42 0 < 40 by omega) hw.1 wk hw.2.1
  refine zy_csv [zi 0] (sX9_refuse  hfl hz20 (by first | assumption | omega)) dX9_addClue_23 cw_RX9_300 okX9_refuse rfl (Nat.le_of_ble_eq_true rfl) ⟨Nat.le_of_ble_eq_true rfl, Nat.le_of_ble_eq_true rfl, Nat.le_of_ble_eq_true rfl, Nat.le_of_ble_eq_true rfl⟩ ?_
  refine zx_aloadN dX9_addClue_26 rfl rfl ?_
  refine zy_getR (q' := 70) fl_RX9_47 rfl dX9_addClue_27 rfl ?_
  refine zy_cvvR [] (sX5_commit  hfl hz20 hNo1 hNo2) dX9_addClue_30 (by decide) rfl cw_RX9_151 okX5_commit rfl (Nat.le_of_ble_eq_true rfl) ⟨Nat.le_of_ble_eq_true rfl, Nat.le_of_ble_eq_true rfl, Nat.le_of_ble_eq_true rfl, Nat.le_of_ble_eq_true rfl⟩ (fun τ30 hr30 => ?_)
  have hz30 : zOK τ30 := hr30.1
  have ho : zSame (fun q => 30 ≤ q ∧ q ≤ 49) τ8 (τ20) := (⟨fun q hq i => hr20.2.1.1 q (by dsimp only at hq ⊢; omega) i, hr20.2.1.2⟩ : zSame (fun q => 30 ≤ q ∧ q ≤ 49) τ8 τ20)
  have hb : bbK (τ20) 30 := (fun i hi => by have b := (hp.1 30 (Or.inr (Or.inl rfl))) i hi; have e5 := hr20.2.2.2.2.2.2.2.1 i; have e6 := hr20.2.2.2.2.2.2.2.2.1 i; constructor <;> first | (show τ20.1 (42 + 5) i = 0 ∨ τ20.1 (42 + 5) i = 1; rw [e5]; split; exact Or.inl rfl; exact b.1) | (show τ20.1 (42 + 6) i = 0 ∨ τ20.1 (42 + 6) i = 1; rw [e6]; split; exact Or.inl rfl; exact b.2))
  have hq := hpush hN hA hr8.2.1 hr8.2.2.1 hr8.2.2.2 ho hb hr30.2.1 hr30.2.2
  have hsc : zSame (fun q => (30 ≤ q ∧ q ≤ 49) ∨ (70 ≤ q ∧ q ≤ 258)) σ τ30 := ⟨fun q hq2 i => hq.2.2.1.1 q (by dsimp only at hq2 ⊢; omega) i, hq.2.2.1.2⟩
  have k42 : τ30.1 42 0 = σ.1 42 0 + 1 := (hq.2.2.2 12 (by omega) 0).trans (hr20.2.2.1.trans (by rw [show τ8.1 (30 + 12) 0 = σ.1 42 0 from p42]))
  refine zx_aloadN dX9_addClue_33 rfl rfl ?_
  refine zy_getR (q' := 30) fl_RX9_33 rfl dX9_addClue_34 rfl ?_
  refine zy_getR (q' := 42) fl_RX9_125 rfl dX9_addClue_37 rfl ?_
  refine zy_getI fl_RX9_129 rfl dX9_addClue_40 rfl ?_
  refine zx_iconst dX9_addClue_43 ?_
  refine zx_isub dX9_addClue_44 ?_
  refine zx_iret rfl rfl dX9_addClue_45 ?_
  rw [hQ]
  refine ⟨congrArg (fun z : Int => (Sum.inl (some (zi z)) : Option zV ⊕ String)) ?_, ?_⟩
  · omega
  exact ⟨hz30, hsc, hq.1, hq.2.1, WF_eq (pEq_z hq.2.2.2) ha.1, lEq_tr (pEq_l (pEq_ad pq)) (lEq_tr ha.2 (pEq_l hq.2.2.2))⟩
set_option maxRecDepth 20000 in
set_option maxHeartbeats 2000000 in
theorem sX9_addDeviceClue_f2 {l : Launch} {w : zW} (hfl : l.stackTraces = false) {σ : zS} {pg vl wt : Int} (hz : zOK σ) (hW : WF (bk σ 30)) (hN : HN σ) (hA : HBA σ) (h1 : zr pg) (h3 : zr vl) (h4 : zr wt) (hw : ¬ ((1 ≤ pg ∧ pg ≤ 999) ∧ (0 ≤ vl ∧ vl ≤ 31) ∧ 1 ≤ wt ∧ wt ≤ 9)) : Sp l w mX9_addDeviceClue 8 1 [zf 9 0, zi pg, zi vl, zi wt] σ (zthq "java/lang/IllegalArgumentException" (fun τ => zOK τ ∧ zSame (fun q => 72 ≤ q ∧ q ≤ 251) σ τ ∧ HKp σ τ ∧ HBA τ)) := by
  obtain ⟨Q, hQ⟩ : ∃ Q : zQ, Q = (zthq "java/lang/IllegalArgumentException" (fun τ => zOK τ ∧ zSame (fun q => 72 ≤ q ∧ q ≤ 251) σ τ ∧ HKp σ τ ∧ HBA τ)) := ⟨_, rfl⟩
  rw [← hQ]
  refine zx_enter hfl (by decide) rfl 0 rfl ?_
  show zX l w mX9_addDeviceClue (zMQ w 8 1 Q) 0 [zf 9 0, zi pg, zi vl, zi wt] [] 0 σ
  have hwE : ((1 ≤ pg ∧ pg ≤ 999) ∧ (1 ≤ wt ∧ wt ≤ 9) ∧ (if 0 = 4 then 1450 else 0) ≤ vl ∧ vl ≤ (if 0 = 0 then 31 else if 0 = 1 then 15 else if 0 = 2 then σ.1 31 7 - 1 else if 0 = 3 then 9 else 1999)) ↔ ((1 ≤ pg ∧ pg ≤ 999) ∧ (0 ≤ vl ∧ vl ≤ 31) ∧ 1 ≤ wt ∧ wt ≤ 9) := by
    constructor
    · rintro ⟨a, b, c, d⟩; simp at c d; exact ⟨a, by omega, b⟩
    · rintro ⟨a, b, c⟩; refine ⟨a, c, ?_⟩; simp; omega
  refine zx_aloadN dX9_addDeviceClue_0 rfl rfl ?_
  refine zx_iloadN dX9_addDeviceClue_1 rfl rfl ?_
  refine zx_iconst dX9_addDeviceClue_2 ?_
  refine zx_iloadN dX9_addDeviceClue_3 rfl rfl ?_
  refine zx_iloadN dX9_addDeviceClue_4 rfl rfl ?_
  refine zy_cvtR [zi pg, zi 0, zi vl, zi wt] (sX9_addClue_f2  hfl hz (by first | assumption | omega) (by first | assumption | omega) (by first | assumption | omega) (by first | exact hz _ _ | assumption | exact zr_b _ | exact zcmp_r _ _ | (unfold zr at *; omega)) (by unfold zr; omega) (by first | exact hz _ _ | assumption | exact zr_b _ | exact zcmp_r _ _ | (unfold zr at *; omega)) (by first | exact hz _ _ | assumption | exact zr_b _ | exact zcmp_r _ _ | (unfold zr at *; omega)) (by omega) (fun q => hw (hwE.mp q))) dX9_addDeviceClue_5 (by decide) rfl cw_RX9_293 okX9_addClue rfl (Nat.le_of_ble_eq_true rfl) ⟨Nat.le_of_ble_eq_true rfl, Nat.le_of_ble_eq_true rfl, Nat.le_of_ble_eq_true rfl, Nat.le_of_ble_eq_true rfl⟩ (fun τ5 hr5 => ?_)
  have hz5 : zOK τ5 := hr5.1
  refine zxt_out rfl ?_
  rw [hQ]
  refine ⟨rfl, ?_⟩
  exact hr5
set_option maxRecDepth 20000 in
set_option maxHeartbeats 2000000 in
theorem sX9_addDeviceClue_f3 {l : Launch} {w : zW} (hfl : l.stackTraces = false) {σ : zS} {pg vl wt : Int} (hz : zOK σ) (hW : WF (bk σ 30)) (hN : HN σ) (hA : HBA σ) (h1 : zr pg) (h3 : zr vl) (h4 : zr wt) (hw : (1 ≤ pg ∧ pg ≤ 999) ∧ (0 ≤ vl ∧ vl ≤ 31) ∧ 1 ≤ wt ∧ wt ≤ 9) (hw2 : 40 ≤ σ.1 42 0) : Sp l w mX9_addDeviceClue 8 1 [zf 9 0, zi pg, zi vl, zi wt] σ (zthq "java/lang/IllegalStateException" (fun τ => zOK τ ∧ zSame (fun q => 72 ≤ q ∧ q ≤ 251) σ τ ∧ HKp σ τ ∧ HBA τ)) := by
  obtain ⟨Q, hQ⟩ : ∃ Q : zQ, Q = (zthq "java/lang/IllegalStateException" (fun τ => zOK τ ∧ zSame (fun q => 72 ≤ q ∧ q ≤ 251) σ τ ∧ HKp σ τ ∧ HBA τ)) := ⟨_, rfl⟩
  rw [← hQ]
  refine zx_enter hfl (by decide) rfl 0 rfl ?_
  show zX l w mX9_addDeviceClue (zMQ w 8 1 Q) 0 [zf 9 0, zi pg, zi vl, zi wt] [] 0 σ
  have hwE : ((1 ≤ pg ∧ pg ≤ 999) ∧ (1 ≤ wt ∧ wt ≤ 9) ∧ (if 0 = 4 then 1450 else 0) ≤ vl ∧ vl ≤ (if 0 = 0 then 31 else if 0 = 1 then 15 else if 0 = 2 then σ.1 31 7 - 1 else if 0 = 3 then 9 else 1999)) ↔ ((1 ≤ pg ∧ pg ≤ 999) ∧ (0 ≤ vl ∧ vl ≤ 31) ∧ 1 ≤ wt ∧ wt ≤ 9) := by
    constructor
    · rintro ⟨a, b, c, d⟩; simp at c d; exact ⟨a, by omega, b⟩
    · rintro ⟨a, b, c⟩; refine ⟨a, c, ?_⟩; simp; omega
  refine zx_aloadN dX9_addDeviceClue_0 rfl rfl ?_
  refine zx_iloadN dX9_addDeviceClue_1 rfl rfl ?_
  refine zx_iconst dX9_addDeviceClue_2 ?_
  refine zx_iloadN dX9_addDeviceClue_3 rfl rfl ?_
  refine zx_iloadN dX9_addDeviceClue_4 rfl rfl ?_
  refine zy_cvtR [zi pg, zi 0, zi vl, zi wt] (sX9_addClue_f3  hfl hz (by first | assumption | omega) (by first | assumption | omega) (by first | assumption | omega) (by first | exact hz _ _ | assumption | exact zr_b _ | exact zcmp_r _ _ | (unfold zr at *; omega)) (by unfold zr; omega) (by first | exact hz _ _ | assumption | exact zr_b _ | exact zcmp_r _ _ | (unfold zr at *; omega)) (by first | exact hz _ _ | assumption | exact zr_b _ | exact zcmp_r _ _ | (unfold zr at *; omega)) (by omega) (hwE.mpr hw) (by first | assumption | omega)) dX9_addDeviceClue_5 (by decide) rfl cw_RX9_293 okX9_addClue rfl (Nat.le_of_ble_eq_true rfl) ⟨Nat.le_of_ble_eq_true rfl, Nat.le_of_ble_eq_true rfl, Nat.le_of_ble_eq_true rfl, Nat.le_of_ble_eq_true rfl⟩ (fun τ5 hr5 => ?_)
  have hz5 : zOK τ5 := hr5.1
  refine zxt_out rfl ?_
  rw [hQ]
  refine ⟨rfl, ?_⟩
  exact hr5
set_option maxRecDepth 20000 in
set_option maxHeartbeats 2000000 in
theorem sX9_addDeviceClue {l : Launch} {w : zW} (hfl : l.stackTraces = false) {σ : zS} {pg vl wt : Int} (hz : zOK σ) (hW : WF (bk σ 30)) (hN : HN σ) (hA : HBA σ) (h1 : zr pg) (h3 : zr vl) (h4 : zr wt) (hw : (1 ≤ pg ∧ pg ≤ 999) ∧ (0 ≤ vl ∧ vl ≤ 31) ∧ 1 ≤ wt ∧ wt ≤ 9) (hw2 : σ.1 42 0 < 40) : Sp l w mX9_addDeviceClue 8 0 [zf 9 0, zi pg, zi vl, zi wt] σ (zqv (some (zi (σ.1 42 0))) (fun τ => zOK τ ∧ zSame (fun q => (30 ≤ q ∧ q ≤ 49) ∨ (70 ≤ q ∧ q ≤ 258)) σ τ ∧ HPu σ τ ∧ HBA τ ∧ WF (bk τ 30) ∧ lEq (adB (bk σ 30) pg 0 vl wt) (bk τ 30))) := by
  obtain ⟨Q, hQ⟩ : ∃ Q : zQ, Q = (zqv (some (zi (σ.1 42 0))) (fun τ => zOK τ ∧ zSame (fun q => (30 ≤ q ∧ q ≤ 49) ∨ (70 ≤ q ∧ q ≤ 258)) σ τ ∧ HPu σ τ ∧ HBA τ ∧ WF (bk τ 30) ∧ lEq (adB (bk σ 30) pg 0 vl wt) (bk τ 30))) := ⟨_, rfl⟩
  rw [← hQ]
  refine zx_enter hfl (by decide) rfl 0 rfl ?_
  show zX l w mX9_addDeviceClue (zMQ w 8 0 Q) 0 [zf 9 0, zi pg, zi vl, zi wt] [] 0 σ
  have hwE : ((1 ≤ pg ∧ pg ≤ 999) ∧ (1 ≤ wt ∧ wt ≤ 9) ∧ (if 0 = 4 then 1450 else 0) ≤ vl ∧ vl ≤ (if 0 = 0 then 31 else if 0 = 1 then 15 else if 0 = 2 then σ.1 31 7 - 1 else if 0 = 3 then 9 else 1999)) ↔ ((1 ≤ pg ∧ pg ≤ 999) ∧ (0 ≤ vl ∧ vl ≤ 31) ∧ 1 ≤ wt ∧ wt ≤ 9) := by
    constructor
    · rintro ⟨a, b, c, d⟩; simp at c d; exact ⟨a, by omega, b⟩
    · rintro ⟨a, b, c⟩; refine ⟨a, c, ?_⟩; simp; omega
  refine zx_aloadN dX9_addDeviceClue_0 rfl rfl ?_
  refine zx_iloadN dX9_addDeviceClue_1 rfl rfl ?_
  refine zx_iconst dX9_addDeviceClue_2 ?_
  refine zx_iloadN dX9_addDeviceClue_3 rfl rfl ?_
  refine zx_iloadN dX9_addDeviceClue_4 rfl rfl ?_
  refine zy_cvR [zi pg, zi 0, zi vl, zi wt] (sX9_addClue  hfl hz (by first | assumption | omega) (by first | assumption | omega) (by first | assumption | omega) (by first | exact hz _ _ | assumption | exact zr_b _ | exact zcmp_r _ _ | (unfold zr at *; omega)) (by unfold zr; omega) (by first | exact hz _ _ | assumption | exact zr_b _ | exact zcmp_r _ _ | (unfold zr at *; omega)) (by first | exact hz _ _ | assumption | exact zr_b _ | exact zcmp_r _ _ | (unfold zr at *; omega)) (by omega) (hwE.mpr hw) (by first | assumption | omega)) dX9_addDeviceClue_5 (by decide) rfl cw_RX9_293 okX9_addClue rfl (Nat.le_of_ble_eq_true rfl) ⟨Nat.le_of_ble_eq_true rfl, Nat.le_of_ble_eq_true rfl, Nat.le_of_ble_eq_true rfl, Nat.le_of_ble_eq_true rfl⟩ (fun τ5 hr5 => ?_)
  have hz5 : zOK τ5 := hr5.1
  refine zx_iret rfl rfl dX9_addDeviceClue_8 ?_
  rw [hQ]
  refine ⟨congrArg (fun z : Int => (Sum.inl (some (zi z)) : Option zV ⊕ String)) ?_, ?_⟩
  · rfl
  exact hr5
set_option maxRecDepth 20000 in
set_option maxHeartbeats 2000000 in
theorem sX9_addTypefaceClue_f2 {l : Launch} {w : zW} (hfl : l.stackTraces = false) {σ : zS} {pg vl wt : Int} (hz : zOK σ) (hW : WF (bk σ 30)) (hN : HN σ) (hA : HBA σ) (h1 : zr pg) (h3 : zr vl) (h4 : zr wt) (hw : ¬ ((1 ≤ pg ∧ pg ≤ 999) ∧ (0 ≤ vl ∧ vl ≤ 15) ∧ 1 ≤ wt ∧ wt ≤ 9)) : Sp l w mX9_addTypefaceClue 8 1 [zf 9 0, zi pg, zi vl, zi wt] σ (zthq "java/lang/IllegalArgumentException" (fun τ => zOK τ ∧ zSame (fun q => 72 ≤ q ∧ q ≤ 251) σ τ ∧ HKp σ τ ∧ HBA τ)) := by
  obtain ⟨Q, hQ⟩ : ∃ Q : zQ, Q = (zthq "java/lang/IllegalArgumentException" (fun τ => zOK τ ∧ zSame (fun q => 72 ≤ q ∧ q ≤ 251) σ τ ∧ HKp σ τ ∧ HBA τ)) := ⟨_, rfl⟩
  rw [← hQ]
  refine zx_enter hfl (by decide) rfl 0 rfl ?_
  show zX l w mX9_addTypefaceClue (zMQ w 8 1 Q) 0 [zf 9 0, zi pg, zi vl, zi wt] [] 0 σ
  have hwE : ((1 ≤ pg ∧ pg ≤ 999) ∧ (1 ≤ wt ∧ wt ≤ 9) ∧ (if 1 = 4 then 1450 else 0) ≤ vl ∧ vl ≤ (if 1 = 0 then 31 else if 1 = 1 then 15 else if 1 = 2 then σ.1 31 7 - 1 else if 1 = 3 then 9 else 1999)) ↔ ((1 ≤ pg ∧ pg ≤ 999) ∧ (0 ≤ vl ∧ vl ≤ 15) ∧ 1 ≤ wt ∧ wt ≤ 9) := by
    constructor
    · rintro ⟨a, b, c, d⟩; simp at c d; exact ⟨a, by omega, b⟩
    · rintro ⟨a, b, c⟩; refine ⟨a, c, ?_⟩; simp; omega
  refine zx_aloadN dX9_addTypefaceClue_0 rfl rfl ?_
  refine zx_iloadN dX9_addTypefaceClue_1 rfl rfl ?_
  refine zx_iconst dX9_addTypefaceClue_2 ?_
  refine zx_iloadN dX9_addTypefaceClue_3 rfl rfl ?_
  refine zx_iloadN dX9_addTypefaceClue_4 rfl rfl ?_
  refine zy_cvtR [zi pg, zi 1, zi vl, zi wt] (sX9_addClue_f2  hfl hz (by first | assumption | omega) (by first | assumption | omega) (by first | assumption | omega) (by first | exact hz _ _ | assumption | exact zr_b _ | exact zcmp_r _ _ | (unfold zr at *; omega)) (by unfold zr; omega) (by first | exact hz _ _ | assumption | exact zr_b _ | exact zcmp_r _ _ | (unfold zr at *; omega)) (by first | exact hz _ _ | assumption | exact zr_b _ | exact zcmp_r _ _ | (unfold zr at *; omega)) (by omega) (fun q => hw (hwE.mp q))) dX9_addTypefaceClue_5 (by decide) rfl cw_RX9_293 okX9_addClue rfl (Nat.le_of_ble_eq_true rfl) ⟨Nat.le_of_ble_eq_true rfl, Nat.le_of_ble_eq_true rfl, Nat.le_of_ble_eq_true rfl, Nat.le_of_ble_eq_true rfl⟩ (fun τ5 hr5 => ?_)
  have hz5 : zOK τ5 := hr5.1
  refine zxt_out rfl ?_
  rw [hQ]
  refine ⟨rfl, ?_⟩
  exact hr5
set_option maxRecDepth 20000 in
set_option maxHeartbeats 2000000 in
theorem sX9_addTypefaceClue_f3 {l : Launch} {w : zW} (hfl : l.stackTraces = false) {σ : zS} {pg vl wt : Int} (hz : zOK σ) (hW : WF (bk σ 30)) (hN : HN σ) (hA : HBA σ) (h1 : zr pg) (h3 : zr vl) (h4 : zr wt) (hw : (1 ≤ pg ∧ pg ≤ 999) ∧ (0 ≤ vl ∧ vl ≤ 15) ∧ 1 ≤ wt ∧ wt ≤ 9) (hw2 : 40 ≤ σ.1 42 0) : Sp l w mX9_addTypefaceClue 8 1 [zf 9 0, zi pg, zi vl, zi wt] σ (zthq "java/lang/IllegalStateException" (fun τ => zOK τ ∧ zSame (fun q => 72 ≤ q ∧ q ≤ 251) σ τ ∧ HKp σ τ ∧ HBA τ)) := by
  obtain ⟨Q, hQ⟩ : ∃ Q : zQ, Q = (zthq "java/lang/IllegalStateException" (fun τ => zOK τ ∧ zSame (fun q => 72 ≤ q ∧ q ≤ 251) σ τ ∧ HKp σ τ ∧ HBA τ)) := ⟨_, rfl⟩
  rw [← hQ]
  refine zx_enter hfl (by decide) rfl 0 rfl ?_
  show zX l w mX9_addTypefaceClue (zMQ w 8 1 Q) 0 [zf 9 0, zi pg, zi vl, zi wt] [] 0 σ
  have hwE : ((1 ≤ pg ∧ pg ≤ 999) ∧ (1 ≤ wt ∧ wt ≤ 9) ∧ (if 1 = 4 then 1450 else 0) ≤ vl ∧ vl ≤ (if 1 = 0 then 31 else if 1 = 1 then 15 else if 1 = 2 then σ.1 31 7 - 1 else if 1 = 3 then 9 else 1999)) ↔ ((1 ≤ pg ∧ pg ≤ 999) ∧ (0 ≤ vl ∧ vl ≤ 15) ∧ 1 ≤ wt ∧ wt ≤ 9) := by
    constructor
    · rintro ⟨a, b, c, d⟩; simp at c d; exact ⟨a, by omega, b⟩
    · rintro ⟨a, b, c⟩; refine ⟨a, c, ?_⟩; simp; omega
  refine zx_aloadN dX9_addTypefaceClue_0 rfl rfl ?_
  refine zx_iloadN dX9_addTypefaceClue_1 rfl rfl ?_
  refine zx_iconst dX9_addTypefaceClue_2 ?_
  refine zx_iloadN dX9_addTypefaceClue_3 rfl rfl ?_
  refine zx_iloadN dX9_addTypefaceClue_4 rfl rfl ?_
  refine zy_cvtR [zi pg, zi 1, zi vl, zi wt] (sX9_addClue_f3  hfl hz (by first | assumption | omega) (by first | assumption | omega) (by first | assumption | omega) (by first | exact hz _ _ | assumption | exact zr_b _ | exact zcmp_r _ _ | (unfold zr at *; omega)) (by unfold zr; omega) (by first | exact hz _ _ | assumption | exact zr_b _ | exact zcmp_r _ _ | (unfold zr at *; omega)) (by first | exact hz _ _ | assumption | exact zr_b _ | exact zcmp_r _ _ | (unfold zr at *; omega)) (by omega) (hwE.mpr hw) (by first | assumption | omega)) dX9_addTypefaceClue_5 (by decide) rfl cw_RX9_293 okX9_addClue rfl (Nat.le_of_ble_eq_true rfl) ⟨Nat.le_of_ble_eq_true rfl, Nat.le_of_ble_eq_true rfl, Nat.le_of_ble_eq_true rfl, Nat.le_of_ble_eq_true rfl⟩ (fun τ5 hr5 => ?_)
  have hz5 : zOK τ5 := hr5.1
  refine zxt_out rfl ?_
  rw [hQ]
  refine ⟨rfl, ?_⟩
  exact hr5
set_option maxRecDepth 20000 in
set_option maxHeartbeats 2000000 in
theorem sX9_addTypefaceClue {l : Launch} {w : zW} (hfl : l.stackTraces = false) {σ : zS} {pg vl wt : Int} (hz : zOK σ) (hW : WF (bk σ 30)) (hN : HN σ) (hA : HBA σ) (h1 : zr pg) (h3 : zr vl) (h4 : zr wt) (hw : (1 ≤ pg ∧ pg ≤ 999) ∧ (0 ≤ vl ∧ vl ≤ 15) ∧ 1 ≤ wt ∧ wt ≤ 9) (hw2 : σ.1 42 0 < 40) : Sp l w mX9_addTypefaceClue 8 0 [zf 9 0, zi pg, zi vl, zi wt] σ (zqv (some (zi (σ.1 42 0))) (fun τ => zOK τ ∧ zSame (fun q => (30 ≤ q ∧ q ≤ 49) ∨ (70 ≤ q ∧ q ≤ 258)) σ τ ∧ HPu σ τ ∧ HBA τ ∧ WF (bk τ 30) ∧ lEq (adB (bk σ 30) pg 1 vl wt) (bk τ 30))) := by
  obtain ⟨Q, hQ⟩ : ∃ Q : zQ, Q = (zqv (some (zi (σ.1 42 0))) (fun τ => zOK τ ∧ zSame (fun q => (30 ≤ q ∧ q ≤ 49) ∨ (70 ≤ q ∧ q ≤ 258)) σ τ ∧ HPu σ τ ∧ HBA τ ∧ WF (bk τ 30) ∧ lEq (adB (bk σ 30) pg 1 vl wt) (bk τ 30))) := ⟨_, rfl⟩
  rw [← hQ]
  refine zx_enter hfl (by decide) rfl 0 rfl ?_
  show zX l w mX9_addTypefaceClue (zMQ w 8 0 Q) 0 [zf 9 0, zi pg, zi vl, zi wt] [] 0 σ
  have hwE : ((1 ≤ pg ∧ pg ≤ 999) ∧ (1 ≤ wt ∧ wt ≤ 9) ∧ (if 1 = 4 then 1450 else 0) ≤ vl ∧ vl ≤ (if 1 = 0 then 31 else if 1 = 1 then 15 else if 1 = 2 then σ.1 31 7 - 1 else if 1 = 3 then 9 else 1999)) ↔ ((1 ≤ pg ∧ pg ≤ 999) ∧ (0 ≤ vl ∧ vl ≤ 15) ∧ 1 ≤ wt ∧ wt ≤ 9) := by
    constructor
    · rintro ⟨a, b, c, d⟩; simp at c d; exact ⟨a, by omega, b⟩
    · rintro ⟨a, b, c⟩; refine ⟨a, c, ?_⟩; simp; omega
  refine zx_aloadN dX9_addTypefaceClue_0 rfl rfl ?_
  refine zx_iloadN dX9_addTypefaceClue_1 rfl rfl ?_
  refine zx_iconst dX9_addTypefaceClue_2 ?_
  refine zx_iloadN dX9_addTypefaceClue_3 rfl rfl ?_
  refine zx_iloadN dX9_addTypefaceClue_4 rfl rfl ?_
  refine zy_cvR [zi pg, zi 1, zi vl, zi wt] (sX9_addClue  hfl hz (by first | assumption | omega) (by first | assumption | omega) (by first | assumption | omega) (by first | exact hz _ _ | assumption | exact zr_b _ | exact zcmp_r _ _ | (unfold zr at *; omega)) (by unfold zr; omega) (by first | exact hz _ _ | assumption | exact zr_b _ | exact zcmp_r _ _ | (unfold zr at *; omega)) (by first | exact hz _ _ | assumption | exact zr_b _ | exact zcmp_r _ _ | (unfold zr at *; omega)) (by omega) (hwE.mpr hw) (by first | assumption | omega)) dX9_addTypefaceClue_5 (by decide) rfl cw_RX9_293 okX9_addClue rfl (Nat.le_of_ble_eq_true rfl) ⟨Nat.le_of_ble_eq_true rfl, Nat.le_of_ble_eq_true rfl, Nat.le_of_ble_eq_true rfl, Nat.le_of_ble_eq_true rfl⟩ (fun τ5 hr5 => ?_)
  have hz5 : zOK τ5 := hr5.1
  refine zx_iret rfl rfl dX9_addTypefaceClue_8 ?_
  rw [hQ]
  refine ⟨congrArg (fun z : Int => (Sum.inl (some (zi z)) : Option zV ⊕ String)) ?_, ?_⟩
  · rfl
  exact hr5
set_option maxRecDepth 20000 in
set_option maxHeartbeats 2000000 in
theorem sX9_addWatermarkClue_f2 {l : Launch} {w : zW} (hfl : l.stackTraces = false) {σ : zS} {pg vl wt : Int} (hz : zOK σ) (hW : WF (bk σ 30)) (hN : HN σ) (hA : HBA σ) (h1 : zr pg) (h3 : zr vl) (h4 : zr wt) (hw : ¬ ((1 ≤ pg ∧ pg ≤ 999) ∧ (0 ≤ vl ∧ vl ≤ σ.1 31 7 - 1) ∧ 1 ≤ wt ∧ wt ≤ 9)) : Sp l w mX9_addWatermarkClue 8 1 [zf 9 0, zi pg, zi vl, zi wt] σ (zthq "java/lang/IllegalArgumentException" (fun τ => zOK τ ∧ zSame (fun q => 72 ≤ q ∧ q ≤ 251) σ τ ∧ HKp σ τ ∧ HBA τ)) := by
  obtain ⟨Q, hQ⟩ : ∃ Q : zQ, Q = (zthq "java/lang/IllegalArgumentException" (fun τ => zOK τ ∧ zSame (fun q => 72 ≤ q ∧ q ≤ 251) σ τ ∧ HKp σ τ ∧ HBA τ)) := ⟨_, rfl⟩
  rw [← hQ]
  refine zx_enter hfl (by decide) rfl 0 rfl ?_
  show zX l w mX9_addWatermarkClue (zMQ w 8 1 Q) 0 [zf 9 0, zi pg, zi vl, zi wt] [] 0 σ
  have hwE : ((1 ≤ pg ∧ pg ≤ 999) ∧ (1 ≤ wt ∧ wt ≤ 9) ∧ (if 2 = 4 then 1450 else 0) ≤ vl ∧ vl ≤ (if 2 = 0 then 31 else if 2 = 1 then 15 else if 2 = 2 then σ.1 31 7 - 1 else if 2 = 3 then 9 else 1999)) ↔ ((1 ≤ pg ∧ pg ≤ 999) ∧ (0 ≤ vl ∧ vl ≤ σ.1 31 7 - 1) ∧ 1 ≤ wt ∧ wt ≤ 9) := by
    constructor
    · rintro ⟨a, b, c, d⟩; simp at c d; exact ⟨a, by omega, b⟩
    · rintro ⟨a, b, c⟩; refine ⟨a, c, ?_⟩; simp; omega
  refine zx_aloadN dX9_addWatermarkClue_0 rfl rfl ?_
  refine zx_iloadN dX9_addWatermarkClue_1 rfl rfl ?_
  refine zx_iconst dX9_addWatermarkClue_2 ?_
  refine zx_iloadN dX9_addWatermarkClue_3 rfl rfl ?_
  refine zx_iloadN dX9_addWatermarkClue_4 rfl rfl ?_
  refine zy_cvtR [zi pg, zi 2, zi vl, zi wt] (sX9_addClue_f2  hfl hz (by first | assumption | omega) (by first | assumption | omega) (by first | assumption | omega) (by first | exact hz _ _ | assumption | exact zr_b _ | exact zcmp_r _ _ | (unfold zr at *; omega)) (by unfold zr; omega) (by first | exact hz _ _ | assumption | exact zr_b _ | exact zcmp_r _ _ | (unfold zr at *; omega)) (by first | exact hz _ _ | assumption | exact zr_b _ | exact zcmp_r _ _ | (unfold zr at *; omega)) (by omega) (fun q => hw (hwE.mp q))) dX9_addWatermarkClue_5 (by decide) rfl cw_RX9_293 okX9_addClue rfl (Nat.le_of_ble_eq_true rfl) ⟨Nat.le_of_ble_eq_true rfl, Nat.le_of_ble_eq_true rfl, Nat.le_of_ble_eq_true rfl, Nat.le_of_ble_eq_true rfl⟩ (fun τ5 hr5 => ?_)
  have hz5 : zOK τ5 := hr5.1
  refine zxt_out rfl ?_
  rw [hQ]
  refine ⟨rfl, ?_⟩
  exact hr5
set_option maxRecDepth 20000 in
set_option maxHeartbeats 2000000 in
theorem sX9_addWatermarkClue_f3 {l : Launch} {w : zW} (hfl : l.stackTraces = false) {σ : zS} {pg vl wt : Int} (hz : zOK σ) (hW : WF (bk σ 30)) (hN : HN σ) (hA : HBA σ) (h1 : zr pg) (h3 : zr vl) (h4 : zr wt) (hw : (1 ≤ pg ∧ pg ≤ 999) ∧ (0 ≤ vl ∧ vl ≤ σ.1 31 7 - 1) ∧ 1 ≤ wt ∧ wt ≤ 9) (hw2 : 40 ≤ σ.1 42 0) : Sp l w mX9_addWatermarkClue 8 1 [zf 9 0, zi pg, zi vl, zi wt] σ (zthq "java/lang/IllegalStateException" (fun τ => zOK τ ∧ zSame (fun q => 72 ≤ q ∧ q ≤ 251) σ τ ∧ HKp σ τ ∧ HBA τ)) := by
  obtain ⟨Q, hQ⟩ : ∃ Q : zQ, Q = (zthq "java/lang/IllegalStateException" (fun τ => zOK τ ∧ zSame (fun q => 72 ≤ q ∧ q ≤ 251) σ τ ∧ HKp σ τ ∧ HBA τ)) := ⟨_, rfl⟩
  rw [← hQ]
  refine zx_enter hfl (by decide) rfl 0 rfl ?_
  show zX l w mX9_addWatermarkClue (zMQ w 8 1 Q) 0 [zf 9 0, zi pg, zi vl, zi wt] [] 0 σ
  have hwE : ((1 ≤ pg ∧ pg ≤ 999) ∧ (1 ≤ wt ∧ wt ≤ 9) ∧ (if 2 = 4 then 1450 else 0) ≤ vl ∧ vl ≤ (if 2 = 0 then 31 else if 2 = 1 then 15 else if 2 = 2 then σ.1 31 7 - 1 else if 2 = 3 then 9 else 1999)) ↔ ((1 ≤ pg ∧ pg ≤ 999) ∧ (0 ≤ vl ∧ vl ≤ σ.1 31 7 - 1) ∧ 1 ≤ wt ∧ wt ≤ 9) := by
    constructor
    · rintro ⟨a, b, c, d⟩; simp at c d; exact ⟨a, by omega, b⟩
    · rintro ⟨a, b, c⟩; refine ⟨a, c, ?_⟩; simp; omega
  refine zx_aloadN dX9_addWatermarkClue_0 rfl rfl ?_
  refine zx_iloadN dX9_addWatermarkClue_1 rfl rfl ?_
  refine zx_iconst dX9_addWatermarkClue_2 ?_
  refine zx_iloadN dX9_addWatermarkClue_3 rfl rfl ?_
  refine zx_iloadN dX9_addWatermarkClue_4 rfl rfl ?_
  refine zy_cvtR [zi pg, zi 2, zi vl, zi wt] (sX9_addClue_f3  hfl hz (by first | assumption | omega) (by first | assumption | omega) (by first | assumption | omega) (by first | exact hz _ _ | assumption | exact zr_b _ | exact zcmp_r _ _ | (unfold zr at *; omega)) (by unfold zr; omega) (by first | exact hz _ _ | assumption | exact zr_b _ | exact zcmp_r _ _ | (unfold zr at *; omega)) (by first | exact hz _ _ | assumption | exact zr_b _ | exact zcmp_r _ _ | (unfold zr at *; omega)) (by omega) (hwE.mpr hw) (by first | assumption | omega)) dX9_addWatermarkClue_5 (by decide) rfl cw_RX9_293 okX9_addClue rfl (Nat.le_of_ble_eq_true rfl) ⟨Nat.le_of_ble_eq_true rfl, Nat.le_of_ble_eq_true rfl, Nat.le_of_ble_eq_true rfl, Nat.le_of_ble_eq_true rfl⟩ (fun τ5 hr5 => ?_)
  have hz5 : zOK τ5 := hr5.1
  refine zxt_out rfl ?_
  rw [hQ]
  refine ⟨rfl, ?_⟩
  exact hr5
set_option maxRecDepth 20000 in
set_option maxHeartbeats 2000000 in
theorem sX9_addWatermarkClue {l : Launch} {w : zW} (hfl : l.stackTraces = false) {σ : zS} {pg vl wt : Int} (hz : zOK σ) (hW : WF (bk σ 30)) (hN : HN σ) (hA : HBA σ) (h1 : zr pg) (h3 : zr vl) (h4 : zr wt) (hw : (1 ≤ pg ∧ pg ≤ 999) ∧ (0 ≤ vl ∧ vl ≤ σ.1 31 7 - 1) ∧ 1 ≤ wt ∧ wt ≤ 9) (hw2 : σ.1 42 0 < 40) : Sp l w mX9_addWatermarkClue 8 0 [zf 9 0, zi pg, zi vl, zi wt] σ (zqv (some (zi (σ.1 42 0))) (fun τ => zOK τ ∧ zSame (fun q => (30 ≤ q ∧ q ≤ 49) ∨ (70 ≤ q ∧ q ≤ 258)) σ τ ∧ HPu σ τ ∧ HBA τ ∧ WF (bk τ 30) ∧ lEq (adB (bk σ 30) pg 2 vl wt) (bk τ 30))) := by
  obtain ⟨Q, hQ⟩ : ∃ Q : zQ, Q = (zqv (some (zi (σ.1 42 0))) (fun τ => zOK τ ∧ zSame (fun q => (30 ≤ q ∧ q ≤ 49) ∨ (70 ≤ q ∧ q ≤ 258)) σ τ ∧ HPu σ τ ∧ HBA τ ∧ WF (bk τ 30) ∧ lEq (adB (bk σ 30) pg 2 vl wt) (bk τ 30))) := ⟨_, rfl⟩
  rw [← hQ]
  refine zx_enter hfl (by decide) rfl 0 rfl ?_
  show zX l w mX9_addWatermarkClue (zMQ w 8 0 Q) 0 [zf 9 0, zi pg, zi vl, zi wt] [] 0 σ
  have hwE : ((1 ≤ pg ∧ pg ≤ 999) ∧ (1 ≤ wt ∧ wt ≤ 9) ∧ (if 2 = 4 then 1450 else 0) ≤ vl ∧ vl ≤ (if 2 = 0 then 31 else if 2 = 1 then 15 else if 2 = 2 then σ.1 31 7 - 1 else if 2 = 3 then 9 else 1999)) ↔ ((1 ≤ pg ∧ pg ≤ 999) ∧ (0 ≤ vl ∧ vl ≤ σ.1 31 7 - 1) ∧ 1 ≤ wt ∧ wt ≤ 9) := by
    constructor
    · rintro ⟨a, b, c, d⟩; simp at c d; exact ⟨a, by omega, b⟩
    · rintro ⟨a, b, c⟩; refine ⟨a, c, ?_⟩; simp; omega
  refine zx_aloadN dX9_addWatermarkClue_0 rfl rfl ?_
  refine zx_iloadN dX9_addWatermarkClue_1 rfl rfl ?_
  refine zx_iconst dX9_addWatermarkClue_2 ?_
  refine zx_iloadN dX9_addWatermarkClue_3 rfl rfl ?_
  refine zx_iloadN dX9_addWatermarkClue_4 rfl rfl ?_
  refine zy_cvR [zi pg, zi 2, zi vl, zi wt] (sX9_addClue  hfl hz (by first | assumption | omega) (by first | assumption | omega) (by first | assumption | omega) (by first | exact hz _ _ | assumption | exact zr_b _ | exact zcmp_r _ _ | (unfold zr at *; omega)) (by unfold zr; omega) (by first | exact hz _ _ | assumption | exact zr_b _ | exact zcmp_r _ _ | (unfold zr at *; omega)) (by first | exact hz _ _ | assumption | exact zr_b _ | exact zcmp_r _ _ | (unfold zr at *; omega)) (by omega) (hwE.mpr hw) (by first | assumption | omega)) dX9_addWatermarkClue_5 (by decide) rfl cw_RX9_293 okX9_addClue rfl (Nat.le_of_ble_eq_true rfl) ⟨Nat.le_of_ble_eq_true rfl, Nat.le_of_ble_eq_true rfl, Nat.le_of_ble_eq_true rfl, Nat.le_of_ble_eq_true rfl⟩ (fun τ5 hr5 => ?_)
  have hz5 : zOK τ5 := hr5.1
  refine zx_iret rfl rfl dX9_addWatermarkClue_8 ?_
  rw [hQ]
  refine ⟨congrArg (fun z : Int => (Sum.inl (some (zi z)) : Option zV ⊕ String)) ?_, ?_⟩
  · rfl
  exact hr5
set_option maxRecDepth 20000 in
set_option maxHeartbeats 2000000 in
theorem sX9_addCityClue_f2 {l : Launch} {w : zW} (hfl : l.stackTraces = false) {σ : zS} {pg vl wt : Int} (hz : zOK σ) (hW : WF (bk σ 30)) (hN : HN σ) (hA : HBA σ) (h1 : zr pg) (h3 : zr vl) (h4 : zr wt) (hw : ¬ ((1 ≤ pg ∧ pg ≤ 999) ∧ (0 ≤ vl ∧ vl ≤ 9) ∧ 1 ≤ wt ∧ wt ≤ 9)) : Sp l w mX9_addCityClue 8 1 [zf 9 0, zi pg, zi vl, zi wt] σ (zthq "java/lang/IllegalArgumentException" (fun τ => zOK τ ∧ zSame (fun q => 72 ≤ q ∧ q ≤ 251) σ τ ∧ HKp σ τ ∧ HBA τ)) := by
  obtain ⟨Q, hQ⟩ : ∃ Q : zQ, Q = (zthq "java/lang/IllegalArgumentException" (fun τ => zOK τ ∧ zSame (fun q => 72 ≤ q ∧ q ≤ 251) σ τ ∧ HKp σ τ ∧ HBA τ)) := ⟨_, rfl⟩
  rw [← hQ]
  refine zx_enter hfl (by decide) rfl 0 rfl ?_
  show zX l w mX9_addCityClue (zMQ w 8 1 Q) 0 [zf 9 0, zi pg, zi vl, zi wt] [] 0 σ
  have hwE : ((1 ≤ pg ∧ pg ≤ 999) ∧ (1 ≤ wt ∧ wt ≤ 9) ∧ (if 3 = 4 then 1450 else 0) ≤ vl ∧ vl ≤ (if 3 = 0 then 31 else if 3 = 1 then 15 else if 3 = 2 then σ.1 31 7 - 1 else if 3 = 3 then 9 else 1999)) ↔ ((1 ≤ pg ∧ pg ≤ 999) ∧ (0 ≤ vl ∧ vl ≤ 9) ∧ 1 ≤ wt ∧ wt ≤ 9) := by
    constructor
    · rintro ⟨a, b, c, d⟩; simp at c d; exact ⟨a, by omega, b⟩
    · rintro ⟨a, b, c⟩; refine ⟨a, c, ?_⟩; simp; omega
  refine zx_aloadN dX9_addCityClue_0 rfl rfl ?_
  refine zx_iloadN dX9_addCityClue_1 rfl rfl ?_
  refine zx_iconst dX9_addCityClue_2 ?_
  refine zx_iloadN dX9_addCityClue_3 rfl rfl ?_
  refine zx_iloadN dX9_addCityClue_4 rfl rfl ?_
  refine zy_cvtR [zi pg, zi 3, zi vl, zi wt] (sX9_addClue_f2  hfl hz (by first | assumption | omega) (by first | assumption | omega) (by first | assumption | omega) (by first | exact hz _ _ | assumption | exact zr_b _ | exact zcmp_r _ _ | (unfold zr at *; omega)) (by unfold zr; omega) (by first | exact hz _ _ | assumption | exact zr_b _ | exact zcmp_r _ _ | (unfold zr at *; omega)) (by first | exact hz _ _ | assumption | exact zr_b _ | exact zcmp_r _ _ | (unfold zr at *; omega)) (by omega) (fun q => hw (hwE.mp q))) dX9_addCityClue_5 (by decide) rfl cw_RX9_293 okX9_addClue rfl (Nat.le_of_ble_eq_true rfl) ⟨Nat.le_of_ble_eq_true rfl, Nat.le_of_ble_eq_true rfl, Nat.le_of_ble_eq_true rfl, Nat.le_of_ble_eq_true rfl⟩ (fun τ5 hr5 => ?_)
  have hz5 : zOK τ5 := hr5.1
  refine zxt_out rfl ?_
  rw [hQ]
  refine ⟨rfl, ?_⟩
  exact hr5
set_option maxRecDepth 20000 in
set_option maxHeartbeats 2000000 in
theorem sX9_addCityClue_f3 {l : Launch} {w : zW} (hfl : l.stackTraces = false) {σ : zS} {pg vl wt : Int} (hz : zOK σ) (hW : WF (bk σ 30)) (hN : HN σ) (hA : HBA σ) (h1 : zr pg) (h3 : zr vl) (h4 : zr wt) (hw : (1 ≤ pg ∧ pg ≤ 999) ∧ (0 ≤ vl ∧ vl ≤ 9) ∧ 1 ≤ wt ∧ wt ≤ 9) (hw2 : 40 ≤ σ.1 42 0) : Sp l w mX9_addCityClue 8 1 [zf 9 0, zi pg, zi vl, zi wt] σ (zthq "java/lang/IllegalStateException" (fun τ => zOK τ ∧ zSame (fun q => 72 ≤ q ∧ q ≤ 251) σ τ ∧ HKp σ τ ∧ HBA τ)) := by
  obtain ⟨Q, hQ⟩ : ∃ Q : zQ, Q = (zthq "java/lang/IllegalStateException" (fun τ => zOK τ ∧ zSame (fun q => 72 ≤ q ∧ q ≤ 251) σ τ ∧ HKp σ τ ∧ HBA τ)) := ⟨_, rfl⟩
  rw [← hQ]
  refine zx_enter hfl (by decide) rfl 0 rfl ?_
  show zX l w mX9_addCityClue (zMQ w 8 1 Q) 0 [zf 9 0, zi pg, zi vl, zi wt] [] 0 σ
  have hwE : ((1 ≤ pg ∧ pg ≤ 999) ∧ (1 ≤ wt ∧ wt ≤ 9) ∧ (if 3 = 4 then 1450 else 0) ≤ vl ∧ vl ≤ (if 3 = 0 then 31 else if 3 = 1 then 15 else if 3 = 2 then σ.1 31 7 - 1 else if 3 = 3 then 9 else 1999)) ↔ ((1 ≤ pg ∧ pg ≤ 999) ∧ (0 ≤ vl ∧ vl ≤ 9) ∧ 1 ≤ wt ∧ wt ≤ 9) := by
    constructor
    · rintro ⟨a, b, c, d⟩; simp at c d; exact ⟨a, by omega, b⟩
    · rintro ⟨a, b, c⟩; refine ⟨a, c, ?_⟩; simp; omega
  refine zx_aloadN dX9_addCityClue_0 rfl rfl ?_
  refine zx_iloadN dX9_addCityClue_1 rfl rfl ?_
  refine zx_iconst dX9_addCityClue_2 ?_
  refine zx_iloadN dX9_addCityClue_3 rfl rfl ?_
  refine zx_iloadN dX9_addCityClue_4 rfl rfl ?_
  refine zy_cvtR [zi pg, zi 3, zi vl, zi wt] (sX9_addClue_f3  hfl hz (by first | assumption | omega) (by first | assumption | omega) (by first | assumption | omega) (by first | exact hz _ _ | assumption | exact zr_b _ | exact zcmp_r _ _ | (unfold zr at *; omega)) (by unfold zr; omega) (by first | exact hz _ _ | assumption | exact zr_b _ | exact zcmp_r _ _ | (unfold zr at *; omega)) (by first | exact hz _ _ | assumption | exact zr_b _ | exact zcmp_r _ _ | (unfold zr at *; omega)) (by omega) (hwE.mpr hw) (by first | assumption | omega)) dX9_addCityClue_5 (by decide) rfl cw_RX9_293 okX9_addClue rfl (Nat.le_of_ble_eq_true rfl) ⟨Nat.le_of_ble_eq_true rfl, Nat.le_of_ble_eq_true rfl, Nat.le_of_ble_eq_true rfl, Nat.le_of_ble_eq_true rfl⟩ (fun τ5 hr5 => ?_)
  have hz5 : zOK τ5 := hr5.1
  refine zxt_out rfl ?_
  rw [hQ]
  refine ⟨rfl, ?_⟩
  exact hr5
set_option maxRecDepth 20000 in
set_option maxHeartbeats 2000000 in
theorem sX9_addCityClue {l : Launch} {w : zW} (hfl : l.stackTraces = false) {σ : zS} {pg vl wt : Int} (hz : zOK σ) (hW : WF (bk σ 30)) (hN : HN σ) (hA : HBA σ) (h1 : zr pg) (h3 : zr vl) (h4 : zr wt) (hw : (1 ≤ pg ∧ pg ≤ 999) ∧ (0 ≤ vl ∧ vl ≤ 9) ∧ 1 ≤ wt ∧ wt ≤ 9) (hw2 : σ.1 42 0 < 40) : Sp l w mX9_addCityClue 8 0 [zf 9 0, zi pg, zi vl, zi wt] σ (zqv (some (zi (σ.1 42 0))) (fun τ => zOK τ ∧ zSame (fun q => (30 ≤ q ∧ q ≤ 49) ∨ (70 ≤ q ∧ q ≤ 258)) σ τ ∧ HPu σ τ ∧ HBA τ ∧ WF (bk τ 30) ∧ lEq (adB (bk σ 30) pg 3 vl wt) (bk τ 30))) := by
  obtain ⟨Q, hQ⟩ : ∃ Q : zQ, Q = (zqv (some (zi (σ.1 42 0))) (fun τ => zOK τ ∧ zSame (fun q => (30 ≤ q ∧ q ≤ 49) ∨ (70 ≤ q ∧ q ≤ 258)) σ τ ∧ HPu σ τ ∧ HBA τ ∧ WF (bk τ 30) ∧ lEq (adB (bk σ 30) pg 3 vl wt) (bk τ 30))) := ⟨_, rfl⟩
  rw [← hQ]
  refine zx_enter hfl (by decide) rfl 0 rfl ?_
  show zX l w mX9_addCityClue (zMQ w 8 0 Q) 0 [zf 9 0, zi pg, zi vl, zi wt] [] 0 σ
  have hwE : ((1 ≤ pg ∧ pg ≤ 999) ∧ (1 ≤ wt ∧ wt ≤ 9) ∧ (if 3 = 4 then 1450 else 0) ≤ vl ∧ vl ≤ (if 3 = 0 then 31 else if 3 = 1 then 15 else if 3 = 2 then σ.1 31 7 - 1 else if 3 = 3 then 9 else 1999)) ↔ ((1 ≤ pg ∧ pg ≤ 999) ∧ (0 ≤ vl ∧ vl ≤ 9) ∧ 1 ≤ wt ∧ wt ≤ 9) := by
    constructor
    · rintro ⟨a, b, c, d⟩; simp at c d; exact ⟨a, by omega, b⟩
    · rintro ⟨a, b, c⟩; refine ⟨a, c, ?_⟩; simp; omega
  refine zx_aloadN dX9_addCityClue_0 rfl rfl ?_
  refine zx_iloadN dX9_addCityClue_1 rfl rfl ?_
  refine zx_iconst dX9_addCityClue_2 ?_
  refine zx_iloadN dX9_addCityClue_3 rfl rfl ?_
  refine zx_iloadN dX9_addCityClue_4 rfl rfl ?_
  refine zy_cvR [zi pg, zi 3, zi vl, zi wt] (sX9_addClue  hfl hz (by first | assumption | omega) (by first | assumption | omega) (by first | assumption | omega) (by first | exact hz _ _ | assumption | exact zr_b _ | exact zcmp_r _ _ | (unfold zr at *; omega)) (by unfold zr; omega) (by first | exact hz _ _ | assumption | exact zr_b _ | exact zcmp_r _ _ | (unfold zr at *; omega)) (by first | exact hz _ _ | assumption | exact zr_b _ | exact zcmp_r _ _ | (unfold zr at *; omega)) (by omega) (hwE.mpr hw) (by first | assumption | omega)) dX9_addCityClue_5 (by decide) rfl cw_RX9_293 okX9_addClue rfl (Nat.le_of_ble_eq_true rfl) ⟨Nat.le_of_ble_eq_true rfl, Nat.le_of_ble_eq_true rfl, Nat.le_of_ble_eq_true rfl, Nat.le_of_ble_eq_true rfl⟩ (fun τ5 hr5 => ?_)
  have hz5 : zOK τ5 := hr5.1
  refine zx_iret rfl rfl dX9_addCityClue_8 ?_
  rw [hQ]
  refine ⟨congrArg (fun z : Int => (Sum.inl (some (zi z)) : Option zV ⊕ String)) ?_, ?_⟩
  · rfl
  exact hr5
set_option maxRecDepth 20000 in
set_option maxHeartbeats 2000000 in
theorem sX9_addDateClue_f2 {l : Launch} {w : zW} (hfl : l.stackTraces = false) {σ : zS} {pg vl wt : Int} (hz : zOK σ) (hW : WF (bk σ 30)) (hN : HN σ) (hA : HBA σ) (h1 : zr pg) (h3 : zr vl) (h4 : zr wt) (hw : ¬ ((1 ≤ pg ∧ pg ≤ 999) ∧ (1450 ≤ vl ∧ vl ≤ 1999) ∧ 1 ≤ wt ∧ wt ≤ 9)) : Sp l w mX9_addDateClue 8 1 [zf 9 0, zi pg, zi vl, zi wt] σ (zthq "java/lang/IllegalArgumentException" (fun τ => zOK τ ∧ zSame (fun q => 72 ≤ q ∧ q ≤ 251) σ τ ∧ HKp σ τ ∧ HBA τ)) := by
  obtain ⟨Q, hQ⟩ : ∃ Q : zQ, Q = (zthq "java/lang/IllegalArgumentException" (fun τ => zOK τ ∧ zSame (fun q => 72 ≤ q ∧ q ≤ 251) σ τ ∧ HKp σ τ ∧ HBA τ)) := ⟨_, rfl⟩
  rw [← hQ]
  refine zx_enter hfl (by decide) rfl 0 rfl ?_
  show zX l w mX9_addDateClue (zMQ w 8 1 Q) 0 [zf 9 0, zi pg, zi vl, zi wt] [] 0 σ
  have hwE : ((1 ≤ pg ∧ pg ≤ 999) ∧ (1 ≤ wt ∧ wt ≤ 9) ∧ (if 4 = 4 then 1450 else 0) ≤ vl ∧ vl ≤ (if 4 = 0 then 31 else if 4 = 1 then 15 else if 4 = 2 then σ.1 31 7 - 1 else if 4 = 3 then 9 else 1999)) ↔ ((1 ≤ pg ∧ pg ≤ 999) ∧ (1450 ≤ vl ∧ vl ≤ 1999) ∧ 1 ≤ wt ∧ wt ≤ 9) := by
    constructor
    · rintro ⟨a, b, c, d⟩; simp at c d; exact ⟨a, by omega, b⟩
    · rintro ⟨a, b, c⟩; refine ⟨a, c, ?_⟩; simp; omega
  refine zx_aloadN dX9_addDateClue_0 rfl rfl ?_
  refine zx_iloadN dX9_addDateClue_1 rfl rfl ?_
  refine zx_iconst dX9_addDateClue_2 ?_
  refine zx_iloadN dX9_addDateClue_3 rfl rfl ?_
  refine zx_iloadN dX9_addDateClue_4 rfl rfl ?_
  refine zy_cvtR [zi pg, zi 4, zi vl, zi wt] (sX9_addClue_f2  hfl hz (by first | assumption | omega) (by first | assumption | omega) (by first | assumption | omega) (by first | exact hz _ _ | assumption | exact zr_b _ | exact zcmp_r _ _ | (unfold zr at *; omega)) (by unfold zr; omega) (by first | exact hz _ _ | assumption | exact zr_b _ | exact zcmp_r _ _ | (unfold zr at *; omega)) (by first | exact hz _ _ | assumption | exact zr_b _ | exact zcmp_r _ _ | (unfold zr at *; omega)) (by omega) (fun q => hw (hwE.mp q))) dX9_addDateClue_5 (by decide) rfl cw_RX9_293 okX9_addClue rfl (Nat.le_of_ble_eq_true rfl) ⟨Nat.le_of_ble_eq_true rfl, Nat.le_of_ble_eq_true rfl, Nat.le_of_ble_eq_true rfl, Nat.le_of_ble_eq_true rfl⟩ (fun τ5 hr5 => ?_)
  have hz5 : zOK τ5 := hr5.1
  refine zxt_out rfl ?_
  rw [hQ]
  refine ⟨rfl, ?_⟩
  exact hr5
set_option maxRecDepth 20000 in
set_option maxHeartbeats 2000000 in
theorem sX9_addDateClue_f3 {l : Launch} {w : zW} (hfl : l.stackTraces = false) {σ : zS} {pg vl wt : Int} (hz : zOK σ) (hW : WF (bk σ 30)) (hN : HN σ) (hA : HBA σ) (h1 : zr pg) (h3 : zr vl) (h4 : zr wt) (hw : (1 ≤ pg ∧ pg ≤ 999) ∧ (1450 ≤ vl ∧ vl ≤ 1999) ∧ 1 ≤ wt ∧ wt ≤ 9) (hw2 : 40 ≤ σ.1 42 0) : Sp l w mX9_addDateClue 8 1 [zf 9 0, zi pg, zi vl, zi wt] σ (zthq "java/lang/IllegalStateException" (fun τ => zOK τ ∧ zSame (fun q => 72 ≤ q ∧ q ≤ 251) σ τ ∧ HKp σ τ ∧ HBA τ)) := by
  obtain ⟨Q, hQ⟩ : ∃ Q : zQ, Q = (zthq "java/lang/IllegalStateException" (fun τ => zOK τ ∧ zSame (fun q => 72 ≤ q ∧ q ≤ 251) σ τ ∧ HKp σ τ ∧ HBA τ)) := ⟨_, rfl⟩
  rw [← hQ]
  refine zx_enter hfl (by decide) rfl 0 rfl ?_
  show zX l w mX9_addDateClue (zMQ w 8 1 Q) 0 [zf 9 0, zi pg, zi vl, zi wt] [] 0 σ
  have hwE : ((1 ≤ pg ∧ pg ≤ 999) ∧ (1 ≤ wt ∧ wt ≤ 9) ∧ (if 4 = 4 then 1450 else 0) ≤ vl ∧ vl ≤ (if 4 = 0 then 31 else if 4 = 1 then 15 else if 4 = 2 then σ.1 31 7 - 1 else if 4 = 3 then 9 else 1999)) ↔ ((1 ≤ pg ∧ pg ≤ 999) ∧ (1450 ≤ vl ∧ vl ≤ 1999) ∧ 1 ≤ wt ∧ wt ≤ 9) := by
    constructor
    · rintro ⟨a, b, c, d⟩; simp at c d; exact ⟨a, by omega, b⟩
    · rintro ⟨a, b, c⟩; refine ⟨a, c, ?_⟩; simp; omega
  refine zx_aloadN dX9_addDateClue_0 rfl rfl ?_
  refine zx_iloadN dX9_addDateClue_1 rfl rfl ?_
  refine zx_iconst dX9_addDateClue_2 ?_
  refine zx_iloadN dX9_addDateClue_3 rfl rfl ?_
  refine zx_iloadN dX9_addDateClue_4 rfl rfl ?_
  refine zy_cvtR [zi pg, zi 4, zi vl, zi wt] (sX9_addClue_f3  hfl hz (by first | assumption | omega) (by first | assumption | omega) (by first | assumption | omega) (by first | exact hz _ _ | assumption | exact zr_b _ | exact zcmp_r _ _ | (unfold zr at *; omega)) (by unfold zr; omega) (by first | exact hz _ _ | assumption | exact zr_b _ | exact zcmp_r _ _ | (unfold zr at *; omega)) (by first | exact hz _ _ | assumption | exact zr_b _ | exact zcmp_r _ _ | (unfold zr at *; omega)) (by omega) (hwE.mpr hw) (by first | assumption | omega)) dX9_addDateClue_5 (by decide) rfl cw_RX9_293 okX9_addClue rfl (Nat.le_of_ble_eq_true rfl) ⟨Nat.le_of_ble_eq_true rfl, Nat.le_of_ble_eq_true rfl, Nat.le_of_ble_eq_true rfl, Nat.le_of_ble_eq_true rfl⟩ (fun τ5 hr5 => ?_)
  have hz5 : zOK τ5 := hr5.1
  refine zxt_out rfl ?_
  rw [hQ]
  refine ⟨rfl, ?_⟩
  exact hr5
set_option maxRecDepth 20000 in
set_option maxHeartbeats 2000000 in
theorem sX9_addDateClue {l : Launch} {w : zW} (hfl : l.stackTraces = false) {σ : zS} {pg vl wt : Int} (hz : zOK σ) (hW : WF (bk σ 30)) (hN : HN σ) (hA : HBA σ) (h1 : zr pg) (h3 : zr vl) (h4 : zr wt) (hw : (1 ≤ pg ∧ pg ≤ 999) ∧ (1450 ≤ vl ∧ vl ≤ 1999) ∧ 1 ≤ wt ∧ wt ≤ 9) (hw2 : σ.1 42 0 < 40) : Sp l w mX9_addDateClue 8 0 [zf 9 0, zi pg, zi vl, zi wt] σ (zqv (some (zi (σ.1 42 0))) (fun τ => zOK τ ∧ zSame (fun q => (30 ≤ q ∧ q ≤ 49) ∨ (70 ≤ q ∧ q ≤ 258)) σ τ ∧ HPu σ τ ∧ HBA τ ∧ WF (bk τ 30) ∧ lEq (adB (bk σ 30) pg 4 vl wt) (bk τ 30))) := by
  obtain ⟨Q, hQ⟩ : ∃ Q : zQ, Q = (zqv (some (zi (σ.1 42 0))) (fun τ => zOK τ ∧ zSame (fun q => (30 ≤ q ∧ q ≤ 49) ∨ (70 ≤ q ∧ q ≤ 258)) σ τ ∧ HPu σ τ ∧ HBA τ ∧ WF (bk τ 30) ∧ lEq (adB (bk σ 30) pg 4 vl wt) (bk τ 30))) := ⟨_, rfl⟩
  rw [← hQ]
  refine zx_enter hfl (by decide) rfl 0 rfl ?_
  show zX l w mX9_addDateClue (zMQ w 8 0 Q) 0 [zf 9 0, zi pg, zi vl, zi wt] [] 0 σ
  have hwE : ((1 ≤ pg ∧ pg ≤ 999) ∧ (1 ≤ wt ∧ wt ≤ 9) ∧ (if 4 = 4 then 1450 else 0) ≤ vl ∧ vl ≤ (if 4 = 0 then 31 else if 4 = 1 then 15 else if 4 = 2 then σ.1 31 7 - 1 else if 4 = 3 then 9 else 1999)) ↔ ((1 ≤ pg ∧ pg ≤ 999) ∧ (1450 ≤ vl ∧ vl ≤ 1999) ∧ 1 ≤ wt ∧ wt ≤ 9) := by
    constructor
    · rintro ⟨a, b, c, d⟩; simp at c d; exact ⟨a, by omega, b⟩
    · rintro ⟨a, b, c⟩; refine ⟨a, c, ?_⟩; simp; omega
  refine zx_aloadN dX9_addDateClue_0 rfl rfl ?_
  refine zx_iloadN dX9_addDateClue_1 rfl rfl ?_
  refine zx_iconst dX9_addDateClue_2 ?_
  refine zx_iloadN dX9_addDateClue_3 rfl rfl ?_
  refine zx_iloadN dX9_addDateClue_4 rfl rfl ?_
  refine zy_cvR [zi pg, zi 4, zi vl, zi wt] (sX9_addClue  hfl hz (by first | assumption | omega) (by first | assumption | omega) (by first | assumption | omega) (by first | exact hz _ _ | assumption | exact zr_b _ | exact zcmp_r _ _ | (unfold zr at *; omega)) (by unfold zr; omega) (by first | exact hz _ _ | assumption | exact zr_b _ | exact zcmp_r _ _ | (unfold zr at *; omega)) (by first | exact hz _ _ | assumption | exact zr_b _ | exact zcmp_r _ _ | (unfold zr at *; omega)) (by omega) (hwE.mpr hw) (by first | assumption | omega)) dX9_addDateClue_5 (by decide) rfl cw_RX9_293 okX9_addClue rfl (Nat.le_of_ble_eq_true rfl) ⟨Nat.le_of_ble_eq_true rfl, Nat.le_of_ble_eq_true rfl, Nat.le_of_ble_eq_true rfl, Nat.le_of_ble_eq_true rfl⟩ (fun τ5 hr5 => ?_)
  have hz5 : zOK τ5 := hr5.1
  refine zx_iret rfl rfl dX9_addDateClue_8 ?_
  rw [hQ]
  refine ⟨congrArg (fun z : Int => (Sum.inl (some (zi z)) : Option zV ⊕ String)) ?_, ?_⟩
  · rfl
  exact hr5
set_option maxRecDepth 20000 in
set_option maxHeartbeats 2000000 in
theorem sX9_read_f1 {l : Launch} {w : zW} (hfl : l.stackTraces = false) {σ : zS} {x : Int} (hz : zOK σ) (hW : WF (bk σ 30)) (hN : HN σ) (hA : HBA σ) (hx : zr x) (hw : ¬ (1 ≤ x ∧ x ≤ 40)) : Sp l w mX9_read 7 1 [zf 9 0, zi x] σ (zthq "java/lang/IllegalArgumentException" (fun τ => zOK τ ∧ zSame (fun q => 72 ≤ q ∧ q ≤ 251) σ τ ∧ HKp σ τ ∧ HBA τ)) := by
  obtain ⟨Q, hQ⟩ : ∃ Q : zQ, Q = (zthq "java/lang/IllegalArgumentException" (fun τ => zOK τ ∧ zSame (fun q => 72 ≤ q ∧ q ≤ 251) σ τ ∧ HKp σ τ ∧ HBA τ)) := ⟨_, rfl⟩
  rw [← hQ]
  refine zx_enter hfl (by decide) rfl 1 rfl ?_
  show zX l w mX9_read (zMQ w 7 1 Q) 0 [zf 9 0, zi x, zu] [] 0 σ
  have hP : 0 ≤ σ.1 31 0 ∧ σ.1 31 0 ≤ 8 := hW.1.1
  have hM : 0 ≤ σ.1 31 7 ∧ σ.1 31 7 ≤ 8 := hW.1.2.1
  have hE : 0 ≤ σ.1 31 10 ∧ σ.1 31 10 ≤ 12 := hW.1.2.2.1
  have hK : 0 ≤ σ.1 42 0 ∧ σ.1 42 0 ≤ 40 := hW.1.2.2.2
  have hNn := hN.1
  have hUA : U (bk σ 30) (σ.1 42 0).toNat = zs (fun c => zb (σ.1 47 c = 0)) (σ.1 42 0).toNat := U_all hW
  have hUB := U_b (bk σ 30) (σ.1 42 0).toNat
  refine zx_aloadN dX9_read_0 rfl rfl ?_
  refine zy_getR (q' := 30) fl_RX9_33 rfl dX9_read_1 rfl ?_
  refine zy_getR (q' := 42) fl_RX9_125 rfl dX9_read_4 rfl ?_
  refine zy_cv [] (sX2_unreadCount  hfl hz (by first | assumption | omega)) dX9_read_7 (by decide) rfl cw_RX9_284 okX2_unreadCount rfl (Nat.le_of_ble_eq_true rfl) ⟨Nat.le_of_ble_eq_true rfl, Nat.le_of_ble_eq_true rfl, Nat.le_of_ble_eq_true rfl, Nat.le_of_ble_eq_true rfl⟩ ?_
  refine zy_top (b := zs (fun i => zb (0 ≤ (i : Int) ∧ (i : Int) < σ.1 42 0 ∧ σ.1 47 i = 0)) (σ.1 42 0).toNat) rfl ?_
  refine zy_top (b := U (bk σ 30) (σ.1 42 0).toNat) (by rw [hUA]; exact zs_congr (fun i hi => zb_c ⟨fun q => q.2.2, fun q => ⟨by omega, by omega, q⟩⟩)) ?_
  refine zy_istoreN [zf 9 0, zi x, zi (U (bk σ 30) (σ.1 42 0).toNat)] dX9_read_10 rfl (Nat.le_of_ble_eq_true rfl) (Nat.le_of_ble_eq_true rfl) rfl rfl ?_
  refine zx_aloadN dX9_read_11 rfl rfl ?_
  refine zy_getR (q' := 70) fl_RX9_47 rfl dX9_read_12 rfl ?_
  refine zx_aloadN dX9_read_15 rfl rfl ?_
  refine zy_getR (q' := 30) fl_RX9_33 rfl dX9_read_16 rfl ?_
  refine zy_cvvR [zf 1 30] (sX5_prepare  hfl hz hN.1 (hA 30 (Or.inr (Or.inl rfl)))) dX9_read_19 (by decide) rfl cw_RX9_143 okX5_prepare rfl (Nat.le_of_ble_eq_true rfl) ⟨Nat.le_of_ble_eq_true rfl, Nat.le_of_ble_eq_true rfl, Nat.le_of_ble_eq_true rfl, Nat.le_of_ble_eq_true rfl⟩ (fun τ19 hr19 => ?_)
  have hz19 : zOK τ19 := hr19.1
  have hp := hprep hN hA hr19.2.1 hr19.2.2.2
  have ep : ∀ q, q < 72 → ∀ i, τ19.1 q i = σ.1 q i := fun q h1 i => hr19.2.1.1 q (by dsimp only; omega) i
  have pq : pEq (bk σ 30) (bk τ19 30) := fun o ho i => ep _ (by omega) i
  have hWp := WF_eq (pEq_z pq) hW
  have hPp : 0 ≤ τ19.1 31 0 ∧ τ19.1 31 0 ≤ 8 := hWp.1.1
  have hM8 : 0 ≤ τ19.1 31 7 ∧ τ19.1 31 7 ≤ 8 := hWp.1.2.1
  have hK8 : 0 ≤ τ19.1 42 0 ∧ τ19.1 42 0 ≤ 40 := hWp.1.2.2.2
  have hN8 : HN τ19 := by have e1 := ep 70 (by omega) 1; have e2 := ep 70 (by omega) 2; unfold HN at *; omega
  have p42 : τ19.1 42 0 = σ.1 42 0 := ep 42 (by omega) 0
  have p31 : τ19.1 31 0 = σ.1 31 0 := ep 31 (by omega) 0
  have p317 : τ19.1 31 7 = σ.1 31 7 := ep 31 (by omega) 7
  have hO8 : ∀ i : Nat, (i : Int) < τ19.1 42 0 → 0 ≤ τ19.1 49 i ∧ τ19.1 49 i < τ19.1 42 0 := hWp.2.2.2.2.2.1
  have hI8 : ∀ i j : Nat, (i : Int) < τ19.1 42 0 → (j : Int) < τ19.1 42 0 → (τ19.1 49 i).toNat = (τ19.1 49 j).toNat → i = j := fun i j a b e => WFo_inj hWp.2.2.2.2.2 a b e
  have hFr : zOK τ19 ∧ zSame (fun q => 72 ≤ q ∧ q ≤ 251) σ τ19 ∧ HKp σ τ19 ∧ HBA τ19 := ⟨hr19.1, ⟨fun q hq i => hr19.2.1.1 q (by dsimp only at hq ⊢; have := hN.1; omega) i, hr19.2.1.2⟩, hp.2, hp.1⟩
  refine zx_aloadN dX9_read_22 rfl rfl ?_
  refine zy_getR (q' := 30) fl_RX9_33 rfl dX9_read_23 rfl ?_
  refine zx_iloadN dX9_read_26 rfl rfl ?_
  refine zy_cv [zi x] (sX1_readOn_a  hfl hz19 (by first | exact hz19 _ _ | assumption | exact zr_b _ | exact zcmp_r _ _ | (unfold zr at *; omega)) (by first | assumption | omega)) dX9_read_27 (by decide) rfl cw_RX9_297 okX1_readOn rfl (Nat.le_of_ble_eq_true rfl) ⟨Nat.le_of_ble_eq_true rfl, Nat.le_of_ble_eq_true rfl, Nat.le_of_ble_eq_true rfl, Nat.le_of_ble_eq_true rfl⟩ ?_
  refine zy_cst [zi 2] (sX9_refuse_2  hfl hz19 (by first | assumption | omega)) dX9_read_30 cw_RX9_300 okX9_refuse rfl (Nat.le_of_ble_eq_true rfl) ⟨Nat.le_of_ble_eq_true rfl, Nat.le_of_ble_eq_true rfl, Nat.le_of_ble_eq_true rfl, Nat.le_of_ble_eq_true rfl⟩ ?_
  refine zxt_out rfl ?_
  rw [hQ]
  refine ⟨rfl, ?_⟩
  exact hFr
set_option maxRecDepth 20000 in
set_option maxHeartbeats 2000000 in
theorem sX9_read {l : Launch} {w : zW} (hfl : l.stackTraces = false) {σ : zS} {x : Int} (hz : zOK σ) (hW : WF (bk σ 30)) (hN : HN σ) (hA : HBA σ) (hw : 1 ≤ x ∧ x ≤ 40) : Sp l w mX9_read 7 0 [zf 9 0, zi x] σ (zqv (some (zi (min x (U (bk σ 30) (σ.1 42 0).toNat)))) (fun τ => zOK τ ∧ zSame (fun q => (30 ≤ q ∧ q ≤ 49) ∨ (70 ≤ q ∧ q ≤ 258)) σ τ ∧ HPu σ τ ∧ HBA τ ∧ WF (bk τ 30) ∧ lEq (rdB (bk σ 30) x) (bk τ 30))) := by
  obtain ⟨Q, hQ⟩ : ∃ Q : zQ, Q = (zqv (some (zi (min x (U (bk σ 30) (σ.1 42 0).toNat)))) (fun τ => zOK τ ∧ zSame (fun q => (30 ≤ q ∧ q ≤ 49) ∨ (70 ≤ q ∧ q ≤ 258)) σ τ ∧ HPu σ τ ∧ HBA τ ∧ WF (bk τ 30) ∧ lEq (rdB (bk σ 30) x) (bk τ 30))) := ⟨_, rfl⟩
  rw [← hQ]
  refine zx_enter hfl (by decide) rfl 1 rfl ?_
  show zX l w mX9_read (zMQ w 7 0 Q) 0 [zf 9 0, zi x, zu] [] 0 σ
  have hP : 0 ≤ σ.1 31 0 ∧ σ.1 31 0 ≤ 8 := hW.1.1
  have hM : 0 ≤ σ.1 31 7 ∧ σ.1 31 7 ≤ 8 := hW.1.2.1
  have hE : 0 ≤ σ.1 31 10 ∧ σ.1 31 10 ≤ 12 := hW.1.2.2.1
  have hK : 0 ≤ σ.1 42 0 ∧ σ.1 42 0 ≤ 40 := hW.1.2.2.2
  have hNn := hN.1
  have hUA : U (bk σ 30) (σ.1 42 0).toNat = zs (fun c => zb (σ.1 47 c = 0)) (σ.1 42 0).toNat := U_all hW
  have hUB := U_b (bk σ 30) (σ.1 42 0).toNat
  have hx : zr x := by unfold zr; omega
  refine zx_aloadN dX9_read_0 rfl rfl ?_
  refine zy_getR (q' := 30) fl_RX9_33 rfl dX9_read_1 rfl ?_
  refine zy_getR (q' := 42) fl_RX9_125 rfl dX9_read_4 rfl ?_
  refine zy_cv [] (sX2_unreadCount  hfl hz (by first | assumption | omega)) dX9_read_7 (by decide) rfl cw_RX9_284 okX2_unreadCount rfl (Nat.le_of_ble_eq_true rfl) ⟨Nat.le_of_ble_eq_true rfl, Nat.le_of_ble_eq_true rfl, Nat.le_of_ble_eq_true rfl, Nat.le_of_ble_eq_true rfl⟩ ?_
  refine zy_top (b := zs (fun i => zb (0 ≤ (i : Int) ∧ (i : Int) < σ.1 42 0 ∧ σ.1 47 i = 0)) (σ.1 42 0).toNat) rfl ?_
  refine zy_top (b := U (bk σ 30) (σ.1 42 0).toNat) (by rw [hUA]; exact zs_congr (fun i hi => zb_c ⟨fun q => q.2.2, fun q => ⟨by omega, by omega, q⟩⟩)) ?_
  refine zy_istoreN [zf 9 0, zi x, zi (U (bk σ 30) (σ.1 42 0).toNat)] dX9_read_10 rfl (Nat.le_of_ble_eq_true rfl) (Nat.le_of_ble_eq_true rfl) rfl rfl ?_
  refine zx_aloadN dX9_read_11 rfl rfl ?_
  refine zy_getR (q' := 70) fl_RX9_47 rfl dX9_read_12 rfl ?_
  refine zx_aloadN dX9_read_15 rfl rfl ?_
  refine zy_getR (q' := 30) fl_RX9_33 rfl dX9_read_16 rfl ?_
  refine zy_cvvR [zf 1 30] (sX5_prepare  hfl hz hN.1 (hA 30 (Or.inr (Or.inl rfl)))) dX9_read_19 (by decide) rfl cw_RX9_143 okX5_prepare rfl (Nat.le_of_ble_eq_true rfl) ⟨Nat.le_of_ble_eq_true rfl, Nat.le_of_ble_eq_true rfl, Nat.le_of_ble_eq_true rfl, Nat.le_of_ble_eq_true rfl⟩ (fun τ19 hr19 => ?_)
  have hz19 : zOK τ19 := hr19.1
  have hp := hprep hN hA hr19.2.1 hr19.2.2.2
  have ep : ∀ q, q < 72 → ∀ i, τ19.1 q i = σ.1 q i := fun q h1 i => hr19.2.1.1 q (by dsimp only; omega) i
  have pq : pEq (bk σ 30) (bk τ19 30) := fun o ho i => ep _ (by omega) i
  have hWp := WF_eq (pEq_z pq) hW
  have hPp : 0 ≤ τ19.1 31 0 ∧ τ19.1 31 0 ≤ 8 := hWp.1.1
  have hM8 : 0 ≤ τ19.1 31 7 ∧ τ19.1 31 7 ≤ 8 := hWp.1.2.1
  have hK8 : 0 ≤ τ19.1 42 0 ∧ τ19.1 42 0 ≤ 40 := hWp.1.2.2.2
  have hN8 : HN τ19 := by have e1 := ep 70 (by omega) 1; have e2 := ep 70 (by omega) 2; unfold HN at *; omega
  have p42 : τ19.1 42 0 = σ.1 42 0 := ep 42 (by omega) 0
  have p31 : τ19.1 31 0 = σ.1 31 0 := ep 31 (by omega) 0
  have p317 : τ19.1 31 7 = σ.1 31 7 := ep 31 (by omega) 7
  have hO8 : ∀ i : Nat, (i : Int) < τ19.1 42 0 → 0 ≤ τ19.1 49 i ∧ τ19.1 49 i < τ19.1 42 0 := hWp.2.2.2.2.2.1
  have hI8 : ∀ i j : Nat, (i : Int) < τ19.1 42 0 → (j : Int) < τ19.1 42 0 → (τ19.1 49 i).toNat = (τ19.1 49 j).toNat → i = j := fun i j a b e => WFo_inj hWp.2.2.2.2.2 a b e
  have hFr : zOK τ19 ∧ zSame (fun q => 72 ≤ q ∧ q ≤ 251) σ τ19 ∧ HKp σ τ19 ∧ HBA τ19 := ⟨hr19.1, ⟨fun q hq i => hr19.2.1.1 q (by dsimp only at hq ⊢; have := hN.1; omega) i, hr19.2.1.2⟩, hp.2, hp.1⟩
  refine zx_aloadN dX9_read_22 rfl rfl ?_
  refine zy_getR (q' := 30) fl_RX9_33 rfl dX9_read_23 rfl ?_
  refine zx_iloadN dX9_read_26 rfl rfl ?_
  refine zy_cvR [zi x] (sX1_readOn_b  hfl hz19 (by first | assumption | omega) (by first | assumption | omega | (show 0 ≤ τ19.1 42 0 ∧ τ19.1 42 0 ≤ 40; omega)) hO8 hI8) dX9_read_27 (by decide) rfl cw_RX9_297 okX1_readOn rfl (Nat.le_of_ble_eq_true rfl) ⟨Nat.le_of_ble_eq_true rfl, Nat.le_of_ble_eq_true rfl, Nat.le_of_ble_eq_true rfl, Nat.le_of_ble_eq_true rfl⟩ (fun τ27 hr27 => ?_)
  have hz27 : zOK τ27 := hr27.1
  have hNo : HN (τ27) := HN_post hN8 ((⟨fun q hq i => hr27.2.1.1 q (by dsimp only at hq ⊢; omega) i, hr27.2.1.2⟩ : zSame (fun q => 30 ≤ q ∧ q ≤ 49) τ19 τ27)) (by first | omega | (dsimp only; omega))
  have hNo1 := hNo.1
  have hNo2 := hNo.2
  have ha := rd_ok (D := bk τ19 30) (D' := bk τ27 30) (n := x) hWp (fun o i h => hr27.2.1.1 (30 + o) (by dsimp only; omega) i) (fun p hp => hr27.2.2.1 p hp)
  refine zy_csv [zi 0] (sX9_refuse  hfl hz27 (by first | assumption | omega)) dX9_read_30 cw_RX9_300 okX9_refuse rfl (Nat.le_of_ble_eq_true rfl) ⟨Nat.le_of_ble_eq_true rfl, Nat.le_of_ble_eq_true rfl, Nat.le_of_ble_eq_true rfl, Nat.le_of_ble_eq_true rfl⟩ ?_
  refine zx_aloadN dX9_read_33 rfl rfl ?_
  refine zy_getR (q' := 70) fl_RX9_47 rfl dX9_read_34 rfl ?_
  refine zy_cvvR [] (sX5_commit  hfl hz27 hNo1 hNo2) dX9_read_37 (by decide) rfl cw_RX9_151 okX5_commit rfl (Nat.le_of_ble_eq_true rfl) ⟨Nat.le_of_ble_eq_true rfl, Nat.le_of_ble_eq_true rfl, Nat.le_of_ble_eq_true rfl, Nat.le_of_ble_eq_true rfl⟩ (fun τ37 hr37 => ?_)
  have hz37 : zOK τ37 := hr37.1
  have ho : zSame (fun q => 30 ≤ q ∧ q ≤ 49) τ19 (τ27) := (⟨fun q hq i => hr27.2.1.1 q (by dsimp only at hq ⊢; omega) i, hr27.2.1.2⟩ : zSame (fun q => 30 ≤ q ∧ q ≤ 49) τ19 τ27)
  have hb : bbK (τ27) 30 := (fun i hi => by have b := (hp.1 30 (Or.inr (Or.inl rfl))) i hi; have e5 := hr27.2.2.2 i; have e6 := hr27.2.1.1 48 (by dsimp only; omega) i; refine ⟨?_, ?_⟩; (rcases e5 with e5 | e5; (show τ27.1 47 i = 0 ∨ τ27.1 47 i = 1; rw [show τ27.1 47 i = τ19.1 47 i from e5]; exact b.1); exact Or.inr e5); (show τ27.1 48 i = 0 ∨ τ27.1 48 i = 1; rw [e6]; exact b.2))
  have hq := hpush hN hA hr19.2.1 hr19.2.2.1 hr19.2.2.2 ho hb hr37.2.1 hr37.2.2
  have hsc : zSame (fun q => (30 ≤ q ∧ q ≤ 49) ∨ (70 ≤ q ∧ q ≤ 258)) σ τ37 := ⟨fun q hq2 i => hq.2.2.1.1 q (by dsimp only at hq2 ⊢; omega) i, hq.2.2.1.2⟩
  refine zx_iloadN dX9_read_40 rfl rfl ?_
  refine zx_iloadN dX9_read_41 rfl rfl ?_
  refine zx_min (by first | exact hz37 _ _ | assumption | exact zr_b _ | exact zcmp_r _ _ | (unfold zr at *; omega)) (by first | exact hz37 _ _ | assumption | exact zr_b _ | exact zcmp_r _ _ | (unfold zr at *; omega)) mw_RX9_303 (Nat.le_of_ble_eq_true rfl) ⟨Nat.le_of_ble_eq_true rfl, Nat.le_of_ble_eq_true rfl⟩ dX9_read_42 ?_
  refine zx_iret rfl rfl dX9_read_45 ?_
  rw [hQ]
  refine ⟨congrArg (fun z : Int => (Sum.inl (some (zi z)) : Option zV ⊕ String)) ?_, ?_⟩
  · rfl
  exact ⟨hz37, hsc, hq.1, hq.2.1, WF_eq (pEq_z hq.2.2.2) ha.1, lEq_tr (pEq_l (pEq_rd hW pq)) (lEq_tr ha.2 (pEq_l hq.2.2.2))⟩
set_option maxRecDepth 20000 in
set_option maxHeartbeats 2000000 in
theorem sX9_setAside_f1 {l : Launch} {w : zW} (hfl : l.stackTraces = false) {σ : zS} {x : Int} (hz : zOK σ) (hW : WF (bk σ 30)) (hN : HN σ) (hA : HBA σ) (hx : zr x) (hw : ¬ (0 ≤ x ∧ x < σ.1 42 0)) : Sp l w mX9_setAside 7 1 [zf 9 0, zi x] σ (zthq "java/lang/IndexOutOfBoundsException" (fun τ => zOK τ ∧ zSame (fun q => 72 ≤ q ∧ q ≤ 251) σ τ ∧ HKp σ τ ∧ HBA τ)) := by
  obtain ⟨Q, hQ⟩ : ∃ Q : zQ, Q = (zthq "java/lang/IndexOutOfBoundsException" (fun τ => zOK τ ∧ zSame (fun q => 72 ≤ q ∧ q ≤ 251) σ τ ∧ HKp σ τ ∧ HBA τ)) := ⟨_, rfl⟩
  rw [← hQ]
  refine zx_enter hfl (by decide) rfl 0 rfl ?_
  show zX l w mX9_setAside (zMQ w 7 1 Q) 0 [zf 9 0, zi x] [] 0 σ
  have hP : 0 ≤ σ.1 31 0 ∧ σ.1 31 0 ≤ 8 := hW.1.1
  have hM : 0 ≤ σ.1 31 7 ∧ σ.1 31 7 ≤ 8 := hW.1.2.1
  have hE : 0 ≤ σ.1 31 10 ∧ σ.1 31 10 ≤ 12 := hW.1.2.2.1
  have hK : 0 ≤ σ.1 42 0 ∧ σ.1 42 0 ≤ 40 := hW.1.2.2.2
  have hNn := hN.1
  refine zx_aloadN dX9_setAside_0 rfl rfl ?_
  refine zy_getR (q' := 70) fl_RX9_47 rfl dX9_setAside_1 rfl ?_
  refine zx_aloadN dX9_setAside_4 rfl rfl ?_
  refine zy_getR (q' := 30) fl_RX9_33 rfl dX9_setAside_5 rfl ?_
  refine zy_cvvR [zf 1 30] (sX5_prepare  hfl hz hN.1 (hA 30 (Or.inr (Or.inl rfl)))) dX9_setAside_8 (by decide) rfl cw_RX9_143 okX5_prepare rfl (Nat.le_of_ble_eq_true rfl) ⟨Nat.le_of_ble_eq_true rfl, Nat.le_of_ble_eq_true rfl, Nat.le_of_ble_eq_true rfl, Nat.le_of_ble_eq_true rfl⟩ (fun τ8 hr8 => ?_)
  have hz8 : zOK τ8 := hr8.1
  have hp := hprep hN hA hr8.2.1 hr8.2.2.2
  have ep : ∀ q, q < 72 → ∀ i, τ8.1 q i = σ.1 q i := fun q h1 i => hr8.2.1.1 q (by dsimp only; omega) i
  have pq : pEq (bk σ 30) (bk τ8 30) := fun o ho i => ep _ (by omega) i
  have hWp := WF_eq (pEq_z pq) hW
  have hPp : 0 ≤ τ8.1 31 0 ∧ τ8.1 31 0 ≤ 8 := hWp.1.1
  have hM8 : 0 ≤ τ8.1 31 7 ∧ τ8.1 31 7 ≤ 8 := hWp.1.2.1
  have hK8 : 0 ≤ τ8.1 42 0 ∧ τ8.1 42 0 ≤ 40 := hWp.1.2.2.2
  have hN8 : HN τ8 := by have e1 := ep 70 (by omega) 1; have e2 := ep 70 (by omega) 2; unfold HN at *; omega
  have p42 : τ8.1 42 0 = σ.1 42 0 := ep 42 (by omega) 0
  have p31 : τ8.1 31 0 = σ.1 31 0 := ep 31 (by omega) 0
  have p317 : τ8.1 31 7 = σ.1 31 7 := ep 31 (by omega) 7
  have hO8 : ∀ i : Nat, (i : Int) < τ8.1 42 0 → 0 ≤ τ8.1 49 i ∧ τ8.1 49 i < τ8.1 42 0 := hWp.2.2.2.2.2.1
  have hI8 : ∀ i j : Nat, (i : Int) < τ8.1 42 0 → (j : Int) < τ8.1 42 0 → (τ8.1 49 i).toNat = (τ8.1 49 j).toNat → i = j := fun i j a b e => WFo_inj hWp.2.2.2.2.2 a b e
  have hFr : zOK τ8 ∧ zSame (fun q => 72 ≤ q ∧ q ≤ 251) σ τ8 ∧ HKp σ τ8 ∧ HBA τ8 := ⟨hr8.1, ⟨fun q hq i => hr8.2.1.1 q (by dsimp only at hq ⊢; have := hN.1; omega) i, hr8.2.1.2⟩, hp.2, hp.1⟩
  refine zx_aloadN dX9_setAside_11 rfl rfl ?_
  refine zy_getR (q' := 30) fl_RX9_33 rfl dX9_setAside_12 rfl ?_
  refine zx_iloadN dX9_setAside_15 rfl rfl ?_
  refine zy_cv [zi x] (sX1_drop_x  hfl hz8 (by first | exact hz8 _ _ | assumption | exact zr_b _ | exact zcmp_r _ _ | (unfold zr at *; omega)) (by first | assumption | omega | (show 0 ≤ τ8.1 42 0 ∧ τ8.1 42 0 ≤ 40; omega)) (by rw [show τ8.1 (30 + 12) 0 = σ.1 42 0 from p42]; exact hw)) dX9_setAside_16 (by decide) rfl cw_RX9_308 okX1_drop rfl (Nat.le_of_ble_eq_true rfl) ⟨Nat.le_of_ble_eq_true rfl, Nat.le_of_ble_eq_true rfl, Nat.le_of_ble_eq_true rfl, Nat.le_of_ble_eq_true rfl⟩ ?_
  refine zy_cst [zi 1] (sX9_refuse_1  hfl hz8 (by first | assumption | omega)) dX9_setAside_19 cw_RX9_300 okX9_refuse rfl (Nat.le_of_ble_eq_true rfl) ⟨Nat.le_of_ble_eq_true rfl, Nat.le_of_ble_eq_true rfl, Nat.le_of_ble_eq_true rfl, Nat.le_of_ble_eq_true rfl⟩ ?_
  refine zxt_out rfl ?_
  rw [hQ]
  refine ⟨rfl, ?_⟩
  exact hFr
set_option maxRecDepth 20000 in
set_option maxHeartbeats 2000000 in
theorem sX9_setAside_f2 {l : Launch} {w : zW} (hfl : l.stackTraces = false) {σ : zS} {x : Int} (hz : zOK σ) (hW : WF (bk σ 30)) (hN : HN σ) (hA : HBA σ) (hx : zr x) (hw : 0 ≤ x ∧ x < σ.1 42 0) (hw2 : ¬ σ.1 48 x.toNat = 0) : Sp l w mX9_setAside 7 1 [zf 9 0, zi x] σ (zthq "java/lang/IllegalStateException" (fun τ => zOK τ ∧ zSame (fun q => 72 ≤ q ∧ q ≤ 251) σ τ ∧ HKp σ τ ∧ HBA τ)) := by
  obtain ⟨Q, hQ⟩ : ∃ Q : zQ, Q = (zthq "java/lang/IllegalStateException" (fun τ => zOK τ ∧ zSame (fun q => 72 ≤ q ∧ q ≤ 251) σ τ ∧ HKp σ τ ∧ HBA τ)) := ⟨_, rfl⟩
  rw [← hQ]
  refine zx_enter hfl (by decide) rfl 0 rfl ?_
  show zX l w mX9_setAside (zMQ w 7 1 Q) 0 [zf 9 0, zi x] [] 0 σ
  have hP : 0 ≤ σ.1 31 0 ∧ σ.1 31 0 ≤ 8 := hW.1.1
  have hM : 0 ≤ σ.1 31 7 ∧ σ.1 31 7 ≤ 8 := hW.1.2.1
  have hE : 0 ≤ σ.1 31 10 ∧ σ.1 31 10 ≤ 12 := hW.1.2.2.1
  have hK : 0 ≤ σ.1 42 0 ∧ σ.1 42 0 ≤ 40 := hW.1.2.2.2
  have hNn := hN.1
  refine zx_aloadN dX9_setAside_0 rfl rfl ?_
  refine zy_getR (q' := 70) fl_RX9_47 rfl dX9_setAside_1 rfl ?_
  refine zx_aloadN dX9_setAside_4 rfl rfl ?_
  refine zy_getR (q' := 30) fl_RX9_33 rfl dX9_setAside_5 rfl ?_
  refine zy_cvvR [zf 1 30] (sX5_prepare  hfl hz hN.1 (hA 30 (Or.inr (Or.inl rfl)))) dX9_setAside_8 (by decide) rfl cw_RX9_143 okX5_prepare rfl (Nat.le_of_ble_eq_true rfl) ⟨Nat.le_of_ble_eq_true rfl, Nat.le_of_ble_eq_true rfl, Nat.le_of_ble_eq_true rfl, Nat.le_of_ble_eq_true rfl⟩ (fun τ8 hr8 => ?_)
  have hz8 : zOK τ8 := hr8.1
  have hp := hprep hN hA hr8.2.1 hr8.2.2.2
  have ep : ∀ q, q < 72 → ∀ i, τ8.1 q i = σ.1 q i := fun q h1 i => hr8.2.1.1 q (by dsimp only; omega) i
  have pq : pEq (bk σ 30) (bk τ8 30) := fun o ho i => ep _ (by omega) i
  have hWp := WF_eq (pEq_z pq) hW
  have hPp : 0 ≤ τ8.1 31 0 ∧ τ8.1 31 0 ≤ 8 := hWp.1.1
  have hM8 : 0 ≤ τ8.1 31 7 ∧ τ8.1 31 7 ≤ 8 := hWp.1.2.1
  have hK8 : 0 ≤ τ8.1 42 0 ∧ τ8.1 42 0 ≤ 40 := hWp.1.2.2.2
  have hN8 : HN τ8 := by have e1 := ep 70 (by omega) 1; have e2 := ep 70 (by omega) 2; unfold HN at *; omega
  have p42 : τ8.1 42 0 = σ.1 42 0 := ep 42 (by omega) 0
  have p31 : τ8.1 31 0 = σ.1 31 0 := ep 31 (by omega) 0
  have p317 : τ8.1 31 7 = σ.1 31 7 := ep 31 (by omega) 7
  have hO8 : ∀ i : Nat, (i : Int) < τ8.1 42 0 → 0 ≤ τ8.1 49 i ∧ τ8.1 49 i < τ8.1 42 0 := hWp.2.2.2.2.2.1
  have hI8 : ∀ i j : Nat, (i : Int) < τ8.1 42 0 → (j : Int) < τ8.1 42 0 → (τ8.1 49 i).toNat = (τ8.1 49 j).toNat → i = j := fun i j a b e => WFo_inj hWp.2.2.2.2.2 a b e
  have hFr : zOK τ8 ∧ zSame (fun q => 72 ≤ q ∧ q ≤ 251) σ τ8 ∧ HKp σ τ8 ∧ HBA τ8 := ⟨hr8.1, ⟨fun q hq i => hr8.2.1.1 q (by dsimp only at hq ⊢; have := hN.1; omega) i, hr8.2.1.2⟩, hp.2, hp.1⟩
  refine zx_aloadN dX9_setAside_11 rfl rfl ?_
  refine zy_getR (q' := 30) fl_RX9_33 rfl dX9_setAside_12 rfl ?_
  refine zx_iloadN dX9_setAside_15 rfl rfl ?_
  refine zy_cv [zi x] (sX1_drop_s  hfl hz8 (by first | exact hz8 _ _ | assumption | exact zr_b _ | exact zcmp_r _ _ | (unfold zr at *; omega)) (by first | assumption | omega | (show 0 ≤ τ8.1 42 0 ∧ τ8.1 42 0 ≤ 40; omega)) (by rw [show τ8.1 (30 + 12) 0 = σ.1 42 0 from p42]; exact hw) (by rw [show τ8.1 (30 + 18) x.toNat = σ.1 48 x.toNat from ep 48 (by omega) _]; exact hw2)) dX9_setAside_16 (by decide) rfl cw_RX9_308 okX1_drop rfl (Nat.le_of_ble_eq_true rfl) ⟨Nat.le_of_ble_eq_true rfl, Nat.le_of_ble_eq_true rfl, Nat.le_of_ble_eq_true rfl, Nat.le_of_ble_eq_true rfl⟩ ?_
  refine zy_cst [zi 3] (sX9_refuse_3  hfl hz8 (by first | assumption | omega)) dX9_setAside_19 cw_RX9_300 okX9_refuse rfl (Nat.le_of_ble_eq_true rfl) ⟨Nat.le_of_ble_eq_true rfl, Nat.le_of_ble_eq_true rfl, Nat.le_of_ble_eq_true rfl, Nat.le_of_ble_eq_true rfl⟩ ?_
  refine zxt_out rfl ?_
  rw [hQ]
  refine ⟨rfl, ?_⟩
  exact hFr
set_option maxRecDepth 20000 in
set_option maxHeartbeats 2000000 in
theorem sX9_setAside {l : Launch} {w : zW} (hfl : l.stackTraces = false) {σ : zS} {x : Int} (hz : zOK σ) (hW : WF (bk σ 30)) (hP1 : 1 ≤ σ.1 31 0) (hN : HN σ) (hA : HBA σ) (hx : zr x) (hw : 0 ≤ x ∧ x < σ.1 42 0) (hw2 : ¬ (¬ σ.1 48 x.toNat = 0)) : Sp l w mX9_setAside 7 0 [zf 9 0, zi x] σ (zqv (some (zi (wS (ov (bk σ 30) 18 x.toNat 1) (Ht (ov (bk σ 30) 18 x.toNat 1))))) (fun τ => zOK τ ∧ zSame (fun q => (30 ≤ q ∧ q ≤ 49) ∨ (70 ≤ q ∧ q ≤ 258)) σ τ ∧ HPu σ τ ∧ HBA τ ∧ WF (bk τ 30) ∧ lEq (ov (bk σ 30) 18 x.toNat 1) (bk τ 30))) := by
  obtain ⟨Q, hQ⟩ : ∃ Q : zQ, Q = (zqv (some (zi (wS (ov (bk σ 30) 18 x.toNat 1) (Ht (ov (bk σ 30) 18 x.toNat 1))))) (fun τ => zOK τ ∧ zSame (fun q => (30 ≤ q ∧ q ≤ 49) ∨ (70 ≤ q ∧ q ≤ 258)) σ τ ∧ HPu σ τ ∧ HBA τ ∧ WF (bk τ 30) ∧ lEq (ov (bk σ 30) 18 x.toNat 1) (bk τ 30))) := ⟨_, rfl⟩
  rw [← hQ]
  refine zx_enter hfl (by decide) rfl 0 rfl ?_
  show zX l w mX9_setAside (zMQ w 7 0 Q) 0 [zf 9 0, zi x] [] 0 σ
  have hP : 0 ≤ σ.1 31 0 ∧ σ.1 31 0 ≤ 8 := hW.1.1
  have hM : 0 ≤ σ.1 31 7 ∧ σ.1 31 7 ≤ 8 := hW.1.2.1
  have hE : 0 ≤ σ.1 31 10 ∧ σ.1 31 10 ≤ 12 := hW.1.2.2.1
  have hK : 0 ≤ σ.1 42 0 ∧ σ.1 42 0 ≤ 40 := hW.1.2.2.2
  have hNn := hN.1
  refine zx_aloadN dX9_setAside_0 rfl rfl ?_
  refine zy_getR (q' := 70) fl_RX9_47 rfl dX9_setAside_1 rfl ?_
  refine zx_aloadN dX9_setAside_4 rfl rfl ?_
  refine zy_getR (q' := 30) fl_RX9_33 rfl dX9_setAside_5 rfl ?_
  refine zy_cvvR [zf 1 30] (sX5_prepare  hfl hz hN.1 (hA 30 (Or.inr (Or.inl rfl)))) dX9_setAside_8 (by decide) rfl cw_RX9_143 okX5_prepare rfl (Nat.le_of_ble_eq_true rfl) ⟨Nat.le_of_ble_eq_true rfl, Nat.le_of_ble_eq_true rfl, Nat.le_of_ble_eq_true rfl, Nat.le_of_ble_eq_true rfl⟩ (fun τ8 hr8 => ?_)
  have hz8 : zOK τ8 := hr8.1
  have hp := hprep hN hA hr8.2.1 hr8.2.2.2
  have ep : ∀ q, q < 72 → ∀ i, τ8.1 q i = σ.1 q i := fun q h1 i => hr8.2.1.1 q (by dsimp only; omega) i
  have pq : pEq (bk σ 30) (bk τ8 30) := fun o ho i => ep _ (by omega) i
  have hWp := WF_eq (pEq_z pq) hW
  have hPp : 0 ≤ τ8.1 31 0 ∧ τ8.1 31 0 ≤ 8 := hWp.1.1
  have hM8 : 0 ≤ τ8.1 31 7 ∧ τ8.1 31 7 ≤ 8 := hWp.1.2.1
  have hK8 : 0 ≤ τ8.1 42 0 ∧ τ8.1 42 0 ≤ 40 := hWp.1.2.2.2
  have hN8 : HN τ8 := by have e1 := ep 70 (by omega) 1; have e2 := ep 70 (by omega) 2; unfold HN at *; omega
  have p42 : τ8.1 42 0 = σ.1 42 0 := ep 42 (by omega) 0
  have p31 : τ8.1 31 0 = σ.1 31 0 := ep 31 (by omega) 0
  have p317 : τ8.1 31 7 = σ.1 31 7 := ep 31 (by omega) 7
  have hO8 : ∀ i : Nat, (i : Int) < τ8.1 42 0 → 0 ≤ τ8.1 49 i ∧ τ8.1 49 i < τ8.1 42 0 := hWp.2.2.2.2.2.1
  have hI8 : ∀ i j : Nat, (i : Int) < τ8.1 42 0 → (j : Int) < τ8.1 42 0 → (τ8.1 49 i).toNat = (τ8.1 49 j).toNat → i = j := fun i j a b e => WFo_inj hWp.2.2.2.2.2 a b e
  have hFr : zOK τ8 ∧ zSame (fun q => 72 ≤ q ∧ q ≤ 251) σ τ8 ∧ HKp σ τ8 ∧ HBA τ8 := ⟨hr8.1, ⟨fun q hq i => hr8.2.1.1 q (by dsimp only at hq ⊢; have := hN.1; omega) i, hr8.2.1.2⟩, hp.2, hp.1⟩
  refine zx_aloadN dX9_setAside_11 rfl rfl ?_
  refine zy_getR (q' := 30) fl_RX9_33 rfl dX9_setAside_12 rfl ?_
  refine zx_iloadN dX9_setAside_15 rfl rfl ?_
  refine zy_cv [zi x] (sX1_drop  hfl hz8 (by first | exact hz8 _ _ | assumption | exact zr_b _ | exact zcmp_r _ _ | (unfold zr at *; omega)) (by first | assumption | omega | (show 0 ≤ τ8.1 42 0 ∧ τ8.1 42 0 ≤ 40; omega)) (by rw [show τ8.1 (30 + 12) 0 = σ.1 42 0 from p42]; exact hw) (by rw [show τ8.1 (30 + 18) x.toNat = σ.1 48 x.toNat from ep 48 (by omega) _]; exact hw2)) dX9_setAside_16 (by decide) rfl cw_RX9_308 okX1_drop rfl (Nat.le_of_ble_eq_true rfl) ⟨Nat.le_of_ble_eq_true rfl, Nat.le_of_ble_eq_true rfl, Nat.le_of_ble_eq_true rfl, Nat.le_of_ble_eq_true rfl⟩ ?_
  have hNo : HN (zput τ8 48 x.toNat 1) := HN_post hN8 ((⟨fun q hq i => zput_k _ _ _ _ _ (by dsimp only at hq; omega), rfl⟩ : zSame (fun q => 30 ≤ q ∧ q ≤ 49) τ8 (zput τ8 48 x.toNat 1))) (by first | omega | (dsimp only; omega))
  have hNo1 := hNo.1
  have hNo2 := hNo.2
  refine zy_csv [zi 0] (sX9_refuse  hfl (zOK_put hz8 (by unfold zr; omega)) (by first | assumption | omega)) dX9_setAside_19 cw_RX9_300 okX9_refuse rfl (Nat.le_of_ble_eq_true rfl) ⟨Nat.le_of_ble_eq_true rfl, Nat.le_of_ble_eq_true rfl, Nat.le_of_ble_eq_true rfl, Nat.le_of_ble_eq_true rfl⟩ ?_
  refine zx_aloadN dX9_setAside_22 rfl rfl ?_
  refine zy_getR (q' := 70) fl_RX9_47 rfl dX9_setAside_23 rfl ?_
  refine zy_cvvR [] (sX5_commit  hfl (zOK_put hz8 (by unfold zr; omega)) hNo1 hNo2) dX9_setAside_26 (by decide) rfl cw_RX9_151 okX5_commit rfl (Nat.le_of_ble_eq_true rfl) ⟨Nat.le_of_ble_eq_true rfl, Nat.le_of_ble_eq_true rfl, Nat.le_of_ble_eq_true rfl, Nat.le_of_ble_eq_true rfl⟩ (fun τ26 hr26 => ?_)
  have hz26 : zOK τ26 := hr26.1
  have ho : zSame (fun q => 30 ≤ q ∧ q ≤ 49) τ8 (zput τ8 48 x.toNat 1) := (⟨fun q hq i => zput_k _ _ _ _ _ (by dsimp only at hq; omega), rfl⟩ : zSame (fun q => 30 ≤ q ∧ q ≤ 49) τ8 (zput τ8 48 x.toNat 1))
  have hb : bbK (zput τ8 48 x.toNat 1) 30 := bb_put (o := 18) (Or.inr rfl) (hp.1 30 (Or.inr (Or.inl rfl)))
  have hq := hpush hN hA hr8.2.1 hr8.2.2.1 hr8.2.2.2 ho hb hr26.2.1 hr26.2.2
  have hsc : zSame (fun q => (30 ≤ q ∧ q ≤ 49) ∨ (70 ≤ q ∧ q ≤ 258)) σ τ26 := ⟨fun q hq2 i => hq.2.2.1.1 q (by dsimp only at hq2 ⊢; omega) i, hq.2.2.1.2⟩
  have hDq : pEq (ov (bk σ 30) 18 x.toNat 1) (bk τ26 30) := pEq_tr (pEq_ov pq) (pEq_tr put_ov hq.2.2.2)
  have hWD : WF (ov (bk σ 30) 18 x.toNat 1) := WF_ovK hW (Or.inr ⟨Or.inr rfl, by omega⟩)
  have hW26 := WF_eq (pEq_z hDq) hWD
  refine zx_aloadN dX9_setAside_29 rfl rfl ?_
  refine zy_cvvR [] (sX9_judgePresent  hfl hz26 hW26) dX9_setAside_30 (by decide) rfl cw_RX9_240 okX9_judgePresent rfl (Nat.le_of_ble_eq_true rfl) ⟨Nat.le_of_ble_eq_true rfl, Nat.le_of_ble_eq_true rfl, Nat.le_of_ble_eq_true rfl, Nat.le_of_ble_eq_true rfl⟩ (fun τ30 hr30 => ?_)
  have hz30 : zOK τ30 := hr30.1
  have hJ := Jd_eq (pEq_z hDq) hWD (fun c hc => Ht_eq (pEq_z hDq) hWD hc) hr30.2.2
  have jw := Jd_win hWD hJ (show 1 ≤ (ov (bk σ 30) 18 x.toNat 1) 1 0 from hP1)
  have jwP : ((wP (ov (bk σ 30) 18 x.toNat 1) (Ht (ov (bk σ 30) 18 x.toNat 1)) : Nat) : Int) < σ.1 31 0 := jw.1
  have j5 : τ30.1 252 5 = σ.1 31 0 := hJ.1
  have jw2 : τ30.1 258 0 = ((wP (ov (bk σ 30) 18 x.toNat 1) (Ht (ov (bk σ 30) 18 x.toNat 1)) : Nat) : Int) := jw.2.1
  have sj : zSame (fun q => (30 ≤ q ∧ q ≤ 49) ∨ (70 ≤ q ∧ q ≤ 258)) σ τ30 := zSame_tr hsc hr30.2.1 (fun q hq => by first | omega | (dsimp only at hq ⊢; omega))
  refine zx_aloadN dX9_setAside_33 rfl rfl ?_
  refine zy_getR (q' := 252) fl_RX9_54 rfl dX9_setAside_34 rfl ?_
  refine zy_cv [] (sX7_winningScore  hfl hz30 (by first | assumption | omega) (by first | assumption | omega)) dX9_setAside_37 (by decide) rfl cw_RX9_261 okX7_winningScore rfl (Nat.le_of_ble_eq_true rfl) ⟨Nat.le_of_ble_eq_true rfl, Nat.le_of_ble_eq_true rfl, Nat.le_of_ble_eq_true rfl, Nat.le_of_ble_eq_true rfl⟩ ?_
  refine zx_iret rfl rfl dX9_setAside_40 ?_
  rw [hQ]
  refine ⟨congrArg (fun z : Int => (Sum.inl (some (zi z)) : Option zV ⊕ String)) ?_, ?_⟩
  · rw [jw.2.1]; exact jw.2.2.2
  have pj : pEq (bk τ26 30) (bk τ30 30) := fun o ho i => hr30.2.1.1 _ (by dsimp only; omega) i
  exact ⟨hz30, sj, HPu_post hq.1 hr30.2.1, HBA_post hq.2.1 hr30.2.1 (fun q hq => by first | omega | (dsimp only; omega)), WF_eq (pEq_z pj) hW26, pEq_l (pEq_tr hDq pj)⟩
set_option maxRecDepth 20000 in
set_option maxHeartbeats 2000000 in
theorem sX9_takeBack_f1 {l : Launch} {w : zW} (hfl : l.stackTraces = false) {σ : zS} {x : Int} (hz : zOK σ) (hW : WF (bk σ 30)) (hN : HN σ) (hA : HBA σ) (hx : zr x) (hw : ¬ (0 ≤ x ∧ x < σ.1 42 0)) : Sp l w mX9_takeBack 7 1 [zf 9 0, zi x] σ (zthq "java/lang/IndexOutOfBoundsException" (fun τ => zOK τ ∧ zSame (fun q => 72 ≤ q ∧ q ≤ 251) σ τ ∧ HKp σ τ ∧ HBA τ)) := by
  obtain ⟨Q, hQ⟩ : ∃ Q : zQ, Q = (zthq "java/lang/IndexOutOfBoundsException" (fun τ => zOK τ ∧ zSame (fun q => 72 ≤ q ∧ q ≤ 251) σ τ ∧ HKp σ τ ∧ HBA τ)) := ⟨_, rfl⟩
  rw [← hQ]
  refine zx_enter hfl (by decide) rfl 0 rfl ?_
  show zX l w mX9_takeBack (zMQ w 7 1 Q) 0 [zf 9 0, zi x] [] 0 σ
  have hP : 0 ≤ σ.1 31 0 ∧ σ.1 31 0 ≤ 8 := hW.1.1
  have hM : 0 ≤ σ.1 31 7 ∧ σ.1 31 7 ≤ 8 := hW.1.2.1
  have hE : 0 ≤ σ.1 31 10 ∧ σ.1 31 10 ≤ 12 := hW.1.2.2.1
  have hK : 0 ≤ σ.1 42 0 ∧ σ.1 42 0 ≤ 40 := hW.1.2.2.2
  have hNn := hN.1
  refine zx_aloadN dX9_takeBack_0 rfl rfl ?_
  refine zy_getR (q' := 70) fl_RX9_47 rfl dX9_takeBack_1 rfl ?_
  refine zx_aloadN dX9_takeBack_4 rfl rfl ?_
  refine zy_getR (q' := 30) fl_RX9_33 rfl dX9_takeBack_5 rfl ?_
  refine zy_cvvR [zf 1 30] (sX5_prepare  hfl hz hN.1 (hA 30 (Or.inr (Or.inl rfl)))) dX9_takeBack_8 (by decide) rfl cw_RX9_143 okX5_prepare rfl (Nat.le_of_ble_eq_true rfl) ⟨Nat.le_of_ble_eq_true rfl, Nat.le_of_ble_eq_true rfl, Nat.le_of_ble_eq_true rfl, Nat.le_of_ble_eq_true rfl⟩ (fun τ8 hr8 => ?_)
  have hz8 : zOK τ8 := hr8.1
  have hp := hprep hN hA hr8.2.1 hr8.2.2.2
  have ep : ∀ q, q < 72 → ∀ i, τ8.1 q i = σ.1 q i := fun q h1 i => hr8.2.1.1 q (by dsimp only; omega) i
  have pq : pEq (bk σ 30) (bk τ8 30) := fun o ho i => ep _ (by omega) i
  have hWp := WF_eq (pEq_z pq) hW
  have hPp : 0 ≤ τ8.1 31 0 ∧ τ8.1 31 0 ≤ 8 := hWp.1.1
  have hM8 : 0 ≤ τ8.1 31 7 ∧ τ8.1 31 7 ≤ 8 := hWp.1.2.1
  have hK8 : 0 ≤ τ8.1 42 0 ∧ τ8.1 42 0 ≤ 40 := hWp.1.2.2.2
  have hN8 : HN τ8 := by have e1 := ep 70 (by omega) 1; have e2 := ep 70 (by omega) 2; unfold HN at *; omega
  have p42 : τ8.1 42 0 = σ.1 42 0 := ep 42 (by omega) 0
  have p31 : τ8.1 31 0 = σ.1 31 0 := ep 31 (by omega) 0
  have p317 : τ8.1 31 7 = σ.1 31 7 := ep 31 (by omega) 7
  have hO8 : ∀ i : Nat, (i : Int) < τ8.1 42 0 → 0 ≤ τ8.1 49 i ∧ τ8.1 49 i < τ8.1 42 0 := hWp.2.2.2.2.2.1
  have hI8 : ∀ i j : Nat, (i : Int) < τ8.1 42 0 → (j : Int) < τ8.1 42 0 → (τ8.1 49 i).toNat = (τ8.1 49 j).toNat → i = j := fun i j a b e => WFo_inj hWp.2.2.2.2.2 a b e
  have hFr : zOK τ8 ∧ zSame (fun q => 72 ≤ q ∧ q ≤ 251) σ τ8 ∧ HKp σ τ8 ∧ HBA τ8 := ⟨hr8.1, ⟨fun q hq i => hr8.2.1.1 q (by dsimp only at hq ⊢; have := hN.1; omega) i, hr8.2.1.2⟩, hp.2, hp.1⟩
  refine zx_aloadN dX9_takeBack_11 rfl rfl ?_
  refine zy_getR (q' := 30) fl_RX9_33 rfl dX9_takeBack_12 rfl ?_
  refine zx_iloadN dX9_takeBack_15 rfl rfl ?_
  refine zy_cv [zi x] (sX1_pickUp_x  hfl hz8 (by first | exact hz8 _ _ | assumption | exact zr_b _ | exact zcmp_r _ _ | (unfold zr at *; omega)) (by first | assumption | omega | (show 0 ≤ τ8.1 42 0 ∧ τ8.1 42 0 ≤ 40; omega)) (by rw [show τ8.1 (30 + 12) 0 = σ.1 42 0 from p42]; exact hw)) dX9_takeBack_16 (by decide) rfl cw_RX9_311 okX1_pickUp rfl (Nat.le_of_ble_eq_true rfl) ⟨Nat.le_of_ble_eq_true rfl, Nat.le_of_ble_eq_true rfl, Nat.le_of_ble_eq_true rfl, Nat.le_of_ble_eq_true rfl⟩ ?_
  refine zy_cst [zi 1] (sX9_refuse_1  hfl hz8 (by first | assumption | omega)) dX9_takeBack_19 cw_RX9_300 okX9_refuse rfl (Nat.le_of_ble_eq_true rfl) ⟨Nat.le_of_ble_eq_true rfl, Nat.le_of_ble_eq_true rfl, Nat.le_of_ble_eq_true rfl, Nat.le_of_ble_eq_true rfl⟩ ?_
  refine zxt_out rfl ?_
  rw [hQ]
  refine ⟨rfl, ?_⟩
  exact hFr
set_option maxRecDepth 20000 in
set_option maxHeartbeats 2000000 in
theorem sX9_takeBack_f2 {l : Launch} {w : zW} (hfl : l.stackTraces = false) {σ : zS} {x : Int} (hz : zOK σ) (hW : WF (bk σ 30)) (hN : HN σ) (hA : HBA σ) (hx : zr x) (hw : 0 ≤ x ∧ x < σ.1 42 0) (hw2 : σ.1 48 x.toNat = 0) : Sp l w mX9_takeBack 7 1 [zf 9 0, zi x] σ (zthq "java/lang/IllegalStateException" (fun τ => zOK τ ∧ zSame (fun q => 72 ≤ q ∧ q ≤ 251) σ τ ∧ HKp σ τ ∧ HBA τ)) := by
  obtain ⟨Q, hQ⟩ : ∃ Q : zQ, Q = (zthq "java/lang/IllegalStateException" (fun τ => zOK τ ∧ zSame (fun q => 72 ≤ q ∧ q ≤ 251) σ τ ∧ HKp σ τ ∧ HBA τ)) := ⟨_, rfl⟩
  rw [← hQ]
  refine zx_enter hfl (by decide) rfl 0 rfl ?_
  show zX l w mX9_takeBack (zMQ w 7 1 Q) 0 [zf 9 0, zi x] [] 0 σ
  have hP : 0 ≤ σ.1 31 0 ∧ σ.1 31 0 ≤ 8 := hW.1.1
  have hM : 0 ≤ σ.1 31 7 ∧ σ.1 31 7 ≤ 8 := hW.1.2.1
  have hE : 0 ≤ σ.1 31 10 ∧ σ.1 31 10 ≤ 12 := hW.1.2.2.1
  have hK : 0 ≤ σ.1 42 0 ∧ σ.1 42 0 ≤ 40 := hW.1.2.2.2
  have hNn := hN.1
  refine zx_aloadN dX9_takeBack_0 rfl rfl ?_
  refine zy_getR (q' := 70) fl_RX9_47 rfl dX9_takeBack_1 rfl ?_
  refine zx_aloadN dX9_takeBack_4 rfl rfl ?_
  refine zy_getR (q' := 30) fl_RX9_33 rfl dX9_takeBack_5 rfl ?_
  refine zy_cvvR [zf 1 30] (sX5_prepare  hfl hz hN.1 (hA 30 (Or.inr (Or.inl rfl)))) dX9_takeBack_8 (by decide) rfl cw_RX9_143 okX5_prepare rfl (Nat.le_of_ble_eq_true rfl) ⟨Nat.le_of_ble_eq_true rfl, Nat.le_of_ble_eq_true rfl, Nat.le_of_ble_eq_true rfl, Nat.le_of_ble_eq_true rfl⟩ (fun τ8 hr8 => ?_)
  have hz8 : zOK τ8 := hr8.1
  have hp := hprep hN hA hr8.2.1 hr8.2.2.2
  have ep : ∀ q, q < 72 → ∀ i, τ8.1 q i = σ.1 q i := fun q h1 i => hr8.2.1.1 q (by dsimp only; omega) i
  have pq : pEq (bk σ 30) (bk τ8 30) := fun o ho i => ep _ (by omega) i
  have hWp := WF_eq (pEq_z pq) hW
  have hPp : 0 ≤ τ8.1 31 0 ∧ τ8.1 31 0 ≤ 8 := hWp.1.1
  have hM8 : 0 ≤ τ8.1 31 7 ∧ τ8.1 31 7 ≤ 8 := hWp.1.2.1
  have hK8 : 0 ≤ τ8.1 42 0 ∧ τ8.1 42 0 ≤ 40 := hWp.1.2.2.2
  have hN8 : HN τ8 := by have e1 := ep 70 (by omega) 1; have e2 := ep 70 (by omega) 2; unfold HN at *; omega
  have p42 : τ8.1 42 0 = σ.1 42 0 := ep 42 (by omega) 0
  have p31 : τ8.1 31 0 = σ.1 31 0 := ep 31 (by omega) 0
  have p317 : τ8.1 31 7 = σ.1 31 7 := ep 31 (by omega) 7
  have hO8 : ∀ i : Nat, (i : Int) < τ8.1 42 0 → 0 ≤ τ8.1 49 i ∧ τ8.1 49 i < τ8.1 42 0 := hWp.2.2.2.2.2.1
  have hI8 : ∀ i j : Nat, (i : Int) < τ8.1 42 0 → (j : Int) < τ8.1 42 0 → (τ8.1 49 i).toNat = (τ8.1 49 j).toNat → i = j := fun i j a b e => WFo_inj hWp.2.2.2.2.2 a b e
  have hFr : zOK τ8 ∧ zSame (fun q => 72 ≤ q ∧ q ≤ 251) σ τ8 ∧ HKp σ τ8 ∧ HBA τ8 := ⟨hr8.1, ⟨fun q hq i => hr8.2.1.1 q (by dsimp only at hq ⊢; have := hN.1; omega) i, hr8.2.1.2⟩, hp.2, hp.1⟩
  refine zx_aloadN dX9_takeBack_11 rfl rfl ?_
  refine zy_getR (q' := 30) fl_RX9_33 rfl dX9_takeBack_12 rfl ?_
  refine zx_iloadN dX9_takeBack_15 rfl rfl ?_
  refine zy_cv [zi x] (sX1_pickUp_s  hfl hz8 (by first | exact hz8 _ _ | assumption | exact zr_b _ | exact zcmp_r _ _ | (unfold zr at *; omega)) (by first | assumption | omega | (show 0 ≤ τ8.1 42 0 ∧ τ8.1 42 0 ≤ 40; omega)) (by rw [show τ8.1 (30 + 12) 0 = σ.1 42 0 from p42]; exact hw) (by rw [show τ8.1 (30 + 18) x.toNat = σ.1 48 x.toNat from ep 48 (by omega) _]; exact hw2)) dX9_takeBack_16 (by decide) rfl cw_RX9_311 okX1_pickUp rfl (Nat.le_of_ble_eq_true rfl) ⟨Nat.le_of_ble_eq_true rfl, Nat.le_of_ble_eq_true rfl, Nat.le_of_ble_eq_true rfl, Nat.le_of_ble_eq_true rfl⟩ ?_
  refine zy_cst [zi 3] (sX9_refuse_3  hfl hz8 (by first | assumption | omega)) dX9_takeBack_19 cw_RX9_300 okX9_refuse rfl (Nat.le_of_ble_eq_true rfl) ⟨Nat.le_of_ble_eq_true rfl, Nat.le_of_ble_eq_true rfl, Nat.le_of_ble_eq_true rfl, Nat.le_of_ble_eq_true rfl⟩ ?_
  refine zxt_out rfl ?_
  rw [hQ]
  refine ⟨rfl, ?_⟩
  exact hFr
set_option maxRecDepth 20000 in
set_option maxHeartbeats 2000000 in
theorem sX9_takeBack {l : Launch} {w : zW} (hfl : l.stackTraces = false) {σ : zS} {x : Int} (hz : zOK σ) (hW : WF (bk σ 30)) (hP1 : 1 ≤ σ.1 31 0) (hN : HN σ) (hA : HBA σ) (hx : zr x) (hw : 0 ≤ x ∧ x < σ.1 42 0) (hw2 : ¬ (σ.1 48 x.toNat = 0)) : Sp l w mX9_takeBack 7 0 [zf 9 0, zi x] σ (zqv (some (zi (wS (ov (bk σ 30) 18 x.toNat 0) (Ht (ov (bk σ 30) 18 x.toNat 0))))) (fun τ => zOK τ ∧ zSame (fun q => (30 ≤ q ∧ q ≤ 49) ∨ (70 ≤ q ∧ q ≤ 258)) σ τ ∧ HPu σ τ ∧ HBA τ ∧ WF (bk τ 30) ∧ lEq (ov (bk σ 30) 18 x.toNat 0) (bk τ 30))) := by
  obtain ⟨Q, hQ⟩ : ∃ Q : zQ, Q = (zqv (some (zi (wS (ov (bk σ 30) 18 x.toNat 0) (Ht (ov (bk σ 30) 18 x.toNat 0))))) (fun τ => zOK τ ∧ zSame (fun q => (30 ≤ q ∧ q ≤ 49) ∨ (70 ≤ q ∧ q ≤ 258)) σ τ ∧ HPu σ τ ∧ HBA τ ∧ WF (bk τ 30) ∧ lEq (ov (bk σ 30) 18 x.toNat 0) (bk τ 30))) := ⟨_, rfl⟩
  rw [← hQ]
  refine zx_enter hfl (by decide) rfl 0 rfl ?_
  show zX l w mX9_takeBack (zMQ w 7 0 Q) 0 [zf 9 0, zi x] [] 0 σ
  have hP : 0 ≤ σ.1 31 0 ∧ σ.1 31 0 ≤ 8 := hW.1.1
  have hM : 0 ≤ σ.1 31 7 ∧ σ.1 31 7 ≤ 8 := hW.1.2.1
  have hE : 0 ≤ σ.1 31 10 ∧ σ.1 31 10 ≤ 12 := hW.1.2.2.1
  have hK : 0 ≤ σ.1 42 0 ∧ σ.1 42 0 ≤ 40 := hW.1.2.2.2
  have hNn := hN.1
  refine zx_aloadN dX9_takeBack_0 rfl rfl ?_
  refine zy_getR (q' := 70) fl_RX9_47 rfl dX9_takeBack_1 rfl ?_
  refine zx_aloadN dX9_takeBack_4 rfl rfl ?_
  refine zy_getR (q' := 30) fl_RX9_33 rfl dX9_takeBack_5 rfl ?_
  refine zy_cvvR [zf 1 30] (sX5_prepare  hfl hz hN.1 (hA 30 (Or.inr (Or.inl rfl)))) dX9_takeBack_8 (by decide) rfl cw_RX9_143 okX5_prepare rfl (Nat.le_of_ble_eq_true rfl) ⟨Nat.le_of_ble_eq_true rfl, Nat.le_of_ble_eq_true rfl, Nat.le_of_ble_eq_true rfl, Nat.le_of_ble_eq_true rfl⟩ (fun τ8 hr8 => ?_)
  have hz8 : zOK τ8 := hr8.1
  have hp := hprep hN hA hr8.2.1 hr8.2.2.2
  have ep : ∀ q, q < 72 → ∀ i, τ8.1 q i = σ.1 q i := fun q h1 i => hr8.2.1.1 q (by dsimp only; omega) i
  have pq : pEq (bk σ 30) (bk τ8 30) := fun o ho i => ep _ (by omega) i
  have hWp := WF_eq (pEq_z pq) hW
  have hPp : 0 ≤ τ8.1 31 0 ∧ τ8.1 31 0 ≤ 8 := hWp.1.1
  have hM8 : 0 ≤ τ8.1 31 7 ∧ τ8.1 31 7 ≤ 8 := hWp.1.2.1
  have hK8 : 0 ≤ τ8.1 42 0 ∧ τ8.1 42 0 ≤ 40 := hWp.1.2.2.2
  have hN8 : HN τ8 := by have e1 := ep 70 (by omega) 1; have e2 := ep 70 (by omega) 2; unfold HN at *; omega
  have p42 : τ8.1 42 0 = σ.1 42 0 := ep 42 (by omega) 0
  have p31 : τ8.1 31 0 = σ.1 31 0 := ep 31 (by omega) 0
  have p317 : τ8.1 31 7 = σ.1 31 7 := ep 31 (by omega) 7
  have hO8 : ∀ i : Nat, (i : Int) < τ8.1 42 0 → 0 ≤ τ8.1 49 i ∧ τ8.1 49 i < τ8.1 42 0 := hWp.2.2.2.2.2.1
  have hI8 : ∀ i j : Nat, (i : Int) < τ8.1 42 0 → (j : Int) < τ8.1 42 0 → (τ8.1 49 i).toNat = (τ8.1 49 j).toNat → i = j := fun i j a b e => WFo_inj hWp.2.2.2.2.2 a b e
  have hFr : zOK τ8 ∧ zSame (fun q => 72 ≤ q ∧ q ≤ 251) σ τ8 ∧ HKp σ τ8 ∧ HBA τ8 := ⟨hr8.1, ⟨fun q hq i => hr8.2.1.1 q (by dsimp only at hq ⊢; have := hN.1; omega) i, hr8.2.1.2⟩, hp.2, hp.1⟩
  refine zx_aloadN dX9_takeBack_11 rfl rfl ?_
  refine zy_getR (q' := 30) fl_RX9_33 rfl dX9_takeBack_12 rfl ?_
  refine zx_iloadN dX9_takeBack_15 rfl rfl ?_
  refine zy_cv [zi x] (sX1_pickUp  hfl hz8 (by first | exact hz8 _ _ | assumption | exact zr_b _ | exact zcmp_r _ _ | (unfold zr at *; omega)) (by first | assumption | omega | (show 0 ≤ τ8.1 42 0 ∧ τ8.1 42 0 ≤ 40; omega)) (by rw [show τ8.1 (30 + 12) 0 = σ.1 42 0 from p42]; exact hw) (by rw [show τ8.1 (30 + 18) x.toNat = σ.1 48 x.toNat from ep 48 (by omega) _]; exact hw2)) dX9_takeBack_16 (by decide) rfl cw_RX9_311 okX1_pickUp rfl (Nat.le_of_ble_eq_true rfl) ⟨Nat.le_of_ble_eq_true rfl, Nat.le_of_ble_eq_true rfl, Nat.le_of_ble_eq_true rfl, Nat.le_of_ble_eq_true rfl⟩ ?_
  have hNo : HN (zput τ8 48 x.toNat 0) := HN_post hN8 ((⟨fun q hq i => zput_k _ _ _ _ _ (by dsimp only at hq; omega), rfl⟩ : zSame (fun q => 30 ≤ q ∧ q ≤ 49) τ8 (zput τ8 48 x.toNat 0))) (by first | omega | (dsimp only; omega))
  have hNo1 := hNo.1
  have hNo2 := hNo.2
  refine zy_csv [zi 0] (sX9_refuse  hfl (zOK_put hz8 (by unfold zr; omega)) (by first | assumption | omega)) dX9_takeBack_19 cw_RX9_300 okX9_refuse rfl (Nat.le_of_ble_eq_true rfl) ⟨Nat.le_of_ble_eq_true rfl, Nat.le_of_ble_eq_true rfl, Nat.le_of_ble_eq_true rfl, Nat.le_of_ble_eq_true rfl⟩ ?_
  refine zx_aloadN dX9_takeBack_22 rfl rfl ?_
  refine zy_getR (q' := 70) fl_RX9_47 rfl dX9_takeBack_23 rfl ?_
  refine zy_cvvR [] (sX5_commit  hfl (zOK_put hz8 (by unfold zr; omega)) hNo1 hNo2) dX9_takeBack_26 (by decide) rfl cw_RX9_151 okX5_commit rfl (Nat.le_of_ble_eq_true rfl) ⟨Nat.le_of_ble_eq_true rfl, Nat.le_of_ble_eq_true rfl, Nat.le_of_ble_eq_true rfl, Nat.le_of_ble_eq_true rfl⟩ (fun τ26 hr26 => ?_)
  have hz26 : zOK τ26 := hr26.1
  have ho : zSame (fun q => 30 ≤ q ∧ q ≤ 49) τ8 (zput τ8 48 x.toNat 0) := (⟨fun q hq i => zput_k _ _ _ _ _ (by dsimp only at hq; omega), rfl⟩ : zSame (fun q => 30 ≤ q ∧ q ≤ 49) τ8 (zput τ8 48 x.toNat 0))
  have hb : bbK (zput τ8 48 x.toNat 0) 30 := bb_put (o := 18) (Or.inl rfl) (hp.1 30 (Or.inr (Or.inl rfl)))
  have hq := hpush hN hA hr8.2.1 hr8.2.2.1 hr8.2.2.2 ho hb hr26.2.1 hr26.2.2
  have hsc : zSame (fun q => (30 ≤ q ∧ q ≤ 49) ∨ (70 ≤ q ∧ q ≤ 258)) σ τ26 := ⟨fun q hq2 i => hq.2.2.1.1 q (by dsimp only at hq2 ⊢; omega) i, hq.2.2.1.2⟩
  have hDq : pEq (ov (bk σ 30) 18 x.toNat 0) (bk τ26 30) := pEq_tr (pEq_ov pq) (pEq_tr put_ov hq.2.2.2)
  have hWD : WF (ov (bk σ 30) 18 x.toNat 0) := WF_ovK hW (Or.inr ⟨Or.inr rfl, by omega⟩)
  have hW26 := WF_eq (pEq_z hDq) hWD
  refine zx_aloadN dX9_takeBack_29 rfl rfl ?_
  refine zy_cvvR [] (sX9_judgePresent  hfl hz26 hW26) dX9_takeBack_30 (by decide) rfl cw_RX9_240 okX9_judgePresent rfl (Nat.le_of_ble_eq_true rfl) ⟨Nat.le_of_ble_eq_true rfl, Nat.le_of_ble_eq_true rfl, Nat.le_of_ble_eq_true rfl, Nat.le_of_ble_eq_true rfl⟩ (fun τ30 hr30 => ?_)
  have hz30 : zOK τ30 := hr30.1
  have hJ := Jd_eq (pEq_z hDq) hWD (fun c hc => Ht_eq (pEq_z hDq) hWD hc) hr30.2.2
  have jw := Jd_win hWD hJ (show 1 ≤ (ov (bk σ 30) 18 x.toNat 0) 1 0 from hP1)
  have jwP : ((wP (ov (bk σ 30) 18 x.toNat 0) (Ht (ov (bk σ 30) 18 x.toNat 0)) : Nat) : Int) < σ.1 31 0 := jw.1
  have j5 : τ30.1 252 5 = σ.1 31 0 := hJ.1
  have jw2 : τ30.1 258 0 = ((wP (ov (bk σ 30) 18 x.toNat 0) (Ht (ov (bk σ 30) 18 x.toNat 0)) : Nat) : Int) := jw.2.1
  have sj : zSame (fun q => (30 ≤ q ∧ q ≤ 49) ∨ (70 ≤ q ∧ q ≤ 258)) σ τ30 := zSame_tr hsc hr30.2.1 (fun q hq => by first | omega | (dsimp only at hq ⊢; omega))
  refine zx_aloadN dX9_takeBack_33 rfl rfl ?_
  refine zy_getR (q' := 252) fl_RX9_54 rfl dX9_takeBack_34 rfl ?_
  refine zy_cv [] (sX7_winningScore  hfl hz30 (by first | assumption | omega) (by first | assumption | omega)) dX9_takeBack_37 (by decide) rfl cw_RX9_261 okX7_winningScore rfl (Nat.le_of_ble_eq_true rfl) ⟨Nat.le_of_ble_eq_true rfl, Nat.le_of_ble_eq_true rfl, Nat.le_of_ble_eq_true rfl, Nat.le_of_ble_eq_true rfl⟩ ?_
  refine zx_iret rfl rfl dX9_takeBack_40 ?_
  rw [hQ]
  refine ⟨congrArg (fun z : Int => (Sum.inl (some (zi z)) : Option zV ⊕ String)) ?_, ?_⟩
  · rw [jw.2.1]; exact jw.2.2.2
  have pj : pEq (bk τ26 30) (bk τ30 30) := fun o ho i => hr30.2.1.1 _ (by dsimp only; omega) i
  exact ⟨hz30, sj, HPu_post hq.1 hr30.2.1, HBA_post hq.2.1 hr30.2.1 (fun q hq => by first | omega | (dsimp only; omega)), WF_eq (pEq_z pj) hW26, pEq_l (pEq_tr hDq pj)⟩
set_option maxRecDepth 20000 in
set_option maxHeartbeats 2000000 in
theorem sX9_setWeight_f1 {l : Launch} {w : zW} (hfl : l.stackTraces = false) {σ : zS} {x y : Int} (hz : zOK σ) (hW : WF (bk σ 30)) (hx : zr x) (hy : zr y) (hw : ¬ (0 ≤ x ∧ x < σ.1 42 0)) : Sp l w mX9_setWeight 7 1 [zf 9 0, zi x, zi y] σ (zthr "java/lang/IndexOutOfBoundsException" σ) := by
  obtain ⟨Q, hQ⟩ : ∃ Q : zQ, Q = (zthr "java/lang/IndexOutOfBoundsException" σ) := ⟨_, rfl⟩
  rw [← hQ]
  refine zx_enter hfl (by decide) rfl 1 rfl ?_
  show zX l w mX9_setWeight (zMQ w 7 1 Q) 0 [zf 9 0, zi x, zi y, zu] [] 0 σ
  have hP : 0 ≤ σ.1 31 0 ∧ σ.1 31 0 ≤ 8 := hW.1.1
  have hM : 0 ≤ σ.1 31 7 ∧ σ.1 31 7 ≤ 8 := hW.1.2.1
  have hE : 0 ≤ σ.1 31 10 ∧ σ.1 31 10 ≤ 12 := hW.1.2.2.1
  have hK : 0 ≤ σ.1 42 0 ∧ σ.1 42 0 ≤ 40 := hW.1.2.2.2
  refine zx_aloadN dX9_setWeight_0 rfl rfl ?_
  refine zx_iloadN dX9_setWeight_1 rfl rfl ?_
  refine zy_cvt [zi x] (sX9_requireClue_t  hfl hz (by first | exact hz _ _ | assumption | exact zr_b _ | exact zcmp_r _ _ | (unfold zr at *; omega)) (by first | assumption | omega)) dX9_setWeight_2 (by decide) rfl cw_RX9_204 okX9_requireClue rfl (Nat.le_of_ble_eq_true rfl) ⟨Nat.le_of_ble_eq_true rfl, Nat.le_of_ble_eq_true rfl, Nat.le_of_ble_eq_true rfl, Nat.le_of_ble_eq_true rfl⟩ ?_
  refine zxt_out rfl ?_
  rw [hQ]
  exact ⟨rfl, by first | rfl | (exfalso; omega)⟩
set_option maxRecDepth 20000 in
set_option maxHeartbeats 2000000 in
theorem sX9_setWeight_f2 {l : Launch} {w : zW} (hfl : l.stackTraces = false) {σ : zS} {x y : Int} (hz : zOK σ) (hW : WF (bk σ 30)) (hN : HN σ) (hA : HBA σ) (hx : zr x) (hy : zr y) (hw : 0 ≤ x ∧ x < σ.1 42 0) (hw2 : ¬ (1 ≤ y ∧ y ≤ 9)) : Sp l w mX9_setWeight 7 1 [zf 9 0, zi x, zi y] σ (zthq "java/lang/IllegalArgumentException" (fun τ => zOK τ ∧ zSame (fun q => 72 ≤ q ∧ q ≤ 251) σ τ ∧ HKp σ τ ∧ HBA τ)) := by
  obtain ⟨Q, hQ⟩ : ∃ Q : zQ, Q = (zthq "java/lang/IllegalArgumentException" (fun τ => zOK τ ∧ zSame (fun q => 72 ≤ q ∧ q ≤ 251) σ τ ∧ HKp σ τ ∧ HBA τ)) := ⟨_, rfl⟩
  rw [← hQ]
  refine zx_enter hfl (by decide) rfl 1 rfl ?_
  show zX l w mX9_setWeight (zMQ w 7 1 Q) 0 [zf 9 0, zi x, zi y, zu] [] 0 σ
  have hP : 0 ≤ σ.1 31 0 ∧ σ.1 31 0 ≤ 8 := hW.1.1
  have hM : 0 ≤ σ.1 31 7 ∧ σ.1 31 7 ≤ 8 := hW.1.2.1
  have hE : 0 ≤ σ.1 31 10 ∧ σ.1 31 10 ≤ 12 := hW.1.2.2.1
  have hK : 0 ≤ σ.1 42 0 ∧ σ.1 42 0 ≤ 40 := hW.1.2.2.2
  have hNn := hN.1
  refine zx_aloadN dX9_setWeight_0 rfl rfl ?_
  refine zx_iloadN dX9_setWeight_1 rfl rfl ?_
  refine zy_cvv [zi x] (sX9_requireClue  hfl hz (by first | exact hz _ _ | assumption | exact zr_b _ | exact zcmp_r _ _ | (unfold zr at *; omega)) (by first | assumption | omega)) dX9_setWeight_2 (by decide) rfl cw_RX9_204 okX9_requireClue rfl (Nat.le_of_ble_eq_true rfl) ⟨Nat.le_of_ble_eq_true rfl, Nat.le_of_ble_eq_true rfl, Nat.le_of_ble_eq_true rfl, Nat.le_of_ble_eq_true rfl⟩ ?_
  refine zx_aloadN dX9_setWeight_5 rfl rfl ?_
  refine zy_getR (q' := 30) fl_RX9_33 rfl dX9_setWeight_6 rfl ?_
  refine zy_getR (q' := 42) fl_RX9_125 rfl dX9_setWeight_9 rfl ?_
  refine zy_getR (q' := 46) fl_RX9_216 rfl dX9_setWeight_12 rfl ?_
  refine zx_iloadN dX9_setWeight_15 rfl rfl ?_
  refine zy_iald (v := σ.1 46 x.toNat) rfl (by decide) (by decide) dX9_setWeight_16 (by omega) (by omega) rfl ?_
  refine zy_istoreN [zf 9 0, zi x, zi y, zi (σ.1 46 x.toNat)] dX9_setWeight_17 rfl (Nat.le_of_ble_eq_true rfl) (Nat.le_of_ble_eq_true rfl) rfl rfl ?_
  refine zx_aloadN dX9_setWeight_18 rfl rfl ?_
  refine zy_getR (q' := 70) fl_RX9_47 rfl dX9_setWeight_19 rfl ?_
  refine zx_aloadN dX9_setWeight_22 rfl rfl ?_
  refine zy_getR (q' := 30) fl_RX9_33 rfl dX9_setWeight_23 rfl ?_
  refine zy_cvvR [zf 1 30] (sX5_prepare  hfl hz hN.1 (hA 30 (Or.inr (Or.inl rfl)))) dX9_setWeight_26 (by decide) rfl cw_RX9_143 okX5_prepare rfl (Nat.le_of_ble_eq_true rfl) ⟨Nat.le_of_ble_eq_true rfl, Nat.le_of_ble_eq_true rfl, Nat.le_of_ble_eq_true rfl, Nat.le_of_ble_eq_true rfl⟩ (fun τ26 hr26 => ?_)
  have hz26 : zOK τ26 := hr26.1
  have hp := hprep hN hA hr26.2.1 hr26.2.2.2
  have ep : ∀ q, q < 72 → ∀ i, τ26.1 q i = σ.1 q i := fun q h1 i => hr26.2.1.1 q (by dsimp only; omega) i
  have pq : pEq (bk σ 30) (bk τ26 30) := fun o ho i => ep _ (by omega) i
  have hWp := WF_eq (pEq_z pq) hW
  have hPp : 0 ≤ τ26.1 31 0 ∧ τ26.1 31 0 ≤ 8 := hWp.1.1
  have hM8 : 0 ≤ τ26.1 31 7 ∧ τ26.1 31 7 ≤ 8 := hWp.1.2.1
  have hK8 : 0 ≤ τ26.1 42 0 ∧ τ26.1 42 0 ≤ 40 := hWp.1.2.2.2
  have hN8 : HN τ26 := by have e1 := ep 70 (by omega) 1; have e2 := ep 70 (by omega) 2; unfold HN at *; omega
  have p42 : τ26.1 42 0 = σ.1 42 0 := ep 42 (by omega) 0
  have p31 : τ26.1 31 0 = σ.1 31 0 := ep 31 (by omega) 0
  have p317 : τ26.1 31 7 = σ.1 31 7 := ep 31 (by omega) 7
  have hO8 : ∀ i : Nat, (i : Int) < τ26.1 42 0 → 0 ≤ τ26.1 49 i ∧ τ26.1 49 i < τ26.1 42 0 := hWp.2.2.2.2.2.1
  have hI8 : ∀ i j : Nat, (i : Int) < τ26.1 42 0 → (j : Int) < τ26.1 42 0 → (τ26.1 49 i).toNat = (τ26.1 49 j).toNat → i = j := fun i j a b e => WFo_inj hWp.2.2.2.2.2 a b e
  have hFr : zOK τ26 ∧ zSame (fun q => 72 ≤ q ∧ q ≤ 251) σ τ26 ∧ HKp σ τ26 ∧ HBA τ26 := ⟨hr26.1, ⟨fun q hq i => hr26.2.1.1 q (by dsimp only at hq ⊢; have := hN.1; omega) i, hr26.2.1.2⟩, hp.2, hp.1⟩
  refine zx_aloadN dX9_setWeight_29 rfl rfl ?_
  refine zy_getR (q' := 30) fl_RX9_33 rfl dX9_setWeight_30 rfl ?_
  refine zx_iloadN dX9_setWeight_33 rfl rfl ?_
  refine zx_iloadN dX9_setWeight_34 rfl rfl ?_
  refine zy_cv [zi x, zi y] (sX1_changeWeight_a  hfl hz26 (by first | exact hz26 _ _ | assumption | exact zr_b _ | exact zcmp_r _ _ | (unfold zr at *; omega)) (by first | exact hz26 _ _ | assumption | exact zr_b _ | exact zcmp_r _ _ | (unfold zr at *; omega)) (by first | assumption | omega | (show 0 ≤ τ26.1 42 0 ∧ τ26.1 42 0 ≤ 40; omega)) (by rw [show τ26.1 (30 + 12) 0 = σ.1 42 0 from p42]; exact hw) (by first | assumption | omega)) dX9_setWeight_35 (by decide) rfl cw_RX9_314 okX1_changeWeight rfl (Nat.le_of_ble_eq_true rfl) ⟨Nat.le_of_ble_eq_true rfl, Nat.le_of_ble_eq_true rfl, Nat.le_of_ble_eq_true rfl, Nat.le_of_ble_eq_true rfl⟩ ?_
  refine zy_cst [zi 2] (sX9_refuse_2  hfl hz26 (by first | assumption | omega)) dX9_setWeight_38 cw_RX9_300 okX9_refuse rfl (Nat.le_of_ble_eq_true rfl) ⟨Nat.le_of_ble_eq_true rfl, Nat.le_of_ble_eq_true rfl, Nat.le_of_ble_eq_true rfl, Nat.le_of_ble_eq_true rfl⟩ ?_
  refine zxt_out rfl ?_
  rw [hQ]
  refine ⟨rfl, ?_⟩
  exact hFr
set_option maxRecDepth 20000 in
set_option maxHeartbeats 2000000 in
theorem sX9_setWeight {l : Launch} {w : zW} (hfl : l.stackTraces = false) {σ : zS} {x y : Int} (hz : zOK σ) (hW : WF (bk σ 30)) (hN : HN σ) (hA : HBA σ) (hx : zr x) (hy : zr y) (hw : 0 ≤ x ∧ x < σ.1 42 0) (hw2 : 1 ≤ y ∧ y ≤ 9) : Sp l w mX9_setWeight 7 0 [zf 9 0, zi x, zi y] σ (zqv (some (zi (σ.1 46 x.toNat))) (fun τ => zOK τ ∧ zSame (fun q => (30 ≤ q ∧ q ≤ 49) ∨ (70 ≤ q ∧ q ≤ 258)) σ τ ∧ HPu σ τ ∧ HBA τ ∧ WF (bk τ 30) ∧ lEq (ov (bk σ 30) 16 x.toNat y) (bk τ 30))) := by
  obtain ⟨Q, hQ⟩ : ∃ Q : zQ, Q = (zqv (some (zi (σ.1 46 x.toNat))) (fun τ => zOK τ ∧ zSame (fun q => (30 ≤ q ∧ q ≤ 49) ∨ (70 ≤ q ∧ q ≤ 258)) σ τ ∧ HPu σ τ ∧ HBA τ ∧ WF (bk τ 30) ∧ lEq (ov (bk σ 30) 16 x.toNat y) (bk τ 30))) := ⟨_, rfl⟩
  rw [← hQ]
  refine zx_enter hfl (by decide) rfl 1 rfl ?_
  show zX l w mX9_setWeight (zMQ w 7 0 Q) 0 [zf 9 0, zi x, zi y, zu] [] 0 σ
  have hP : 0 ≤ σ.1 31 0 ∧ σ.1 31 0 ≤ 8 := hW.1.1
  have hM : 0 ≤ σ.1 31 7 ∧ σ.1 31 7 ≤ 8 := hW.1.2.1
  have hE : 0 ≤ σ.1 31 10 ∧ σ.1 31 10 ≤ 12 := hW.1.2.2.1
  have hK : 0 ≤ σ.1 42 0 ∧ σ.1 42 0 ≤ 40 := hW.1.2.2.2
  have hNn := hN.1
  refine zx_aloadN dX9_setWeight_0 rfl rfl ?_
  refine zx_iloadN dX9_setWeight_1 rfl rfl ?_
  refine zy_cvv [zi x] (sX9_requireClue  hfl hz (by first | exact hz _ _ | assumption | exact zr_b _ | exact zcmp_r _ _ | (unfold zr at *; omega)) (by first | assumption | omega)) dX9_setWeight_2 (by decide) rfl cw_RX9_204 okX9_requireClue rfl (Nat.le_of_ble_eq_true rfl) ⟨Nat.le_of_ble_eq_true rfl, Nat.le_of_ble_eq_true rfl, Nat.le_of_ble_eq_true rfl, Nat.le_of_ble_eq_true rfl⟩ ?_
  refine zx_aloadN dX9_setWeight_5 rfl rfl ?_
  refine zy_getR (q' := 30) fl_RX9_33 rfl dX9_setWeight_6 rfl ?_
  refine zy_getR (q' := 42) fl_RX9_125 rfl dX9_setWeight_9 rfl ?_
  refine zy_getR (q' := 46) fl_RX9_216 rfl dX9_setWeight_12 rfl ?_
  refine zx_iloadN dX9_setWeight_15 rfl rfl ?_
  refine zy_iald (v := σ.1 46 x.toNat) rfl (by decide) (by decide) dX9_setWeight_16 (by omega) (by omega) rfl ?_
  refine zy_istoreN [zf 9 0, zi x, zi y, zi (σ.1 46 x.toNat)] dX9_setWeight_17 rfl (Nat.le_of_ble_eq_true rfl) (Nat.le_of_ble_eq_true rfl) rfl rfl ?_
  refine zx_aloadN dX9_setWeight_18 rfl rfl ?_
  refine zy_getR (q' := 70) fl_RX9_47 rfl dX9_setWeight_19 rfl ?_
  refine zx_aloadN dX9_setWeight_22 rfl rfl ?_
  refine zy_getR (q' := 30) fl_RX9_33 rfl dX9_setWeight_23 rfl ?_
  refine zy_cvvR [zf 1 30] (sX5_prepare  hfl hz hN.1 (hA 30 (Or.inr (Or.inl rfl)))) dX9_setWeight_26 (by decide) rfl cw_RX9_143 okX5_prepare rfl (Nat.le_of_ble_eq_true rfl) ⟨Nat.le_of_ble_eq_true rfl, Nat.le_of_ble_eq_true rfl, Nat.le_of_ble_eq_true rfl, Nat.le_of_ble_eq_true rfl⟩ (fun τ26 hr26 => ?_)
  have hz26 : zOK τ26 := hr26.1
  have hp := hprep hN hA hr26.2.1 hr26.2.2.2
  have ep : ∀ q, q < 72 → ∀ i, τ26.1 q i = σ.1 q i := fun q h1 i => hr26.2.1.1 q (by dsimp only; omega) i
  have pq : pEq (bk σ 30) (bk τ26 30) := fun o ho i => ep _ (by omega) i
  have hWp := WF_eq (pEq_z pq) hW
  have hPp : 0 ≤ τ26.1 31 0 ∧ τ26.1 31 0 ≤ 8 := hWp.1.1
  have hM8 : 0 ≤ τ26.1 31 7 ∧ τ26.1 31 7 ≤ 8 := hWp.1.2.1
  have hK8 : 0 ≤ τ26.1 42 0 ∧ τ26.1 42 0 ≤ 40 := hWp.1.2.2.2
  have hN8 : HN τ26 := by have e1 := ep 70 (by omega) 1; have e2 := ep 70 (by omega) 2; unfold HN at *; omega
  have p42 : τ26.1 42 0 = σ.1 42 0 := ep 42 (by omega) 0
  have p31 : τ26.1 31 0 = σ.1 31 0 := ep 31 (by omega) 0
  have p317 : τ26.1 31 7 = σ.1 31 7 := ep 31 (by omega) 7
  have hO8 : ∀ i : Nat, (i : Int) < τ26.1 42 0 → 0 ≤ τ26.1 49 i ∧ τ26.1 49 i < τ26.1 42 0 := hWp.2.2.2.2.2.1
  have hI8 : ∀ i j : Nat, (i : Int) < τ26.1 42 0 → (j : Int) < τ26.1 42 0 → (τ26.1 49 i).toNat = (τ26.1 49 j).toNat → i = j := fun i j a b e => WFo_inj hWp.2.2.2.2.2 a b e
  have hFr : zOK τ26 ∧ zSame (fun q => 72 ≤ q ∧ q ≤ 251) σ τ26 ∧ HKp σ τ26 ∧ HBA τ26 := ⟨hr26.1, ⟨fun q hq i => hr26.2.1.1 q (by dsimp only at hq ⊢; have := hN.1; omega) i, hr26.2.1.2⟩, hp.2, hp.1⟩
  refine zx_aloadN dX9_setWeight_29 rfl rfl ?_
  refine zy_getR (q' := 30) fl_RX9_33 rfl dX9_setWeight_30 rfl ?_
  refine zx_iloadN dX9_setWeight_33 rfl rfl ?_
  refine zx_iloadN dX9_setWeight_34 rfl rfl ?_
  refine zy_cv [zi x, zi y] (sX1_changeWeight  hfl hz26 (by first | exact hz26 _ _ | assumption | exact zr_b _ | exact zcmp_r _ _ | (unfold zr at *; omega)) (by first | exact hz26 _ _ | assumption | exact zr_b _ | exact zcmp_r _ _ | (unfold zr at *; omega)) (by first | assumption | omega | (show 0 ≤ τ26.1 42 0 ∧ τ26.1 42 0 ≤ 40; omega)) (by rw [show τ26.1 (30 + 12) 0 = σ.1 42 0 from p42]; exact hw) (by first | assumption | omega)) dX9_setWeight_35 (by decide) rfl cw_RX9_314 okX1_changeWeight rfl (Nat.le_of_ble_eq_true rfl) ⟨Nat.le_of_ble_eq_true rfl, Nat.le_of_ble_eq_true rfl, Nat.le_of_ble_eq_true rfl, Nat.le_of_ble_eq_true rfl⟩ ?_
  have hNo : HN (zput τ26 46 x.toNat y) := HN_post hN8 ((⟨fun q hq i => zput_k _ _ _ _ _ (by dsimp only at hq; omega), rfl⟩ : zSame (fun q => 30 ≤ q ∧ q ≤ 49) τ26 (zput τ26 46 x.toNat y))) (by first | omega | (dsimp only; omega))
  have hNo1 := hNo.1
  have hNo2 := hNo.2
  refine zy_csv [zi 0] (sX9_refuse  hfl (zOK_put hz26 (by assumption)) (by first | assumption | omega)) dX9_setWeight_38 cw_RX9_300 okX9_refuse rfl (Nat.le_of_ble_eq_true rfl) ⟨Nat.le_of_ble_eq_true rfl, Nat.le_of_ble_eq_true rfl, Nat.le_of_ble_eq_true rfl, Nat.le_of_ble_eq_true rfl⟩ ?_
  refine zx_aloadN dX9_setWeight_41 rfl rfl ?_
  refine zy_getR (q' := 70) fl_RX9_47 rfl dX9_setWeight_42 rfl ?_
  refine zy_cvvR [] (sX5_commit  hfl (zOK_put hz26 (by assumption)) hNo1 hNo2) dX9_setWeight_45 (by decide) rfl cw_RX9_151 okX5_commit rfl (Nat.le_of_ble_eq_true rfl) ⟨Nat.le_of_ble_eq_true rfl, Nat.le_of_ble_eq_true rfl, Nat.le_of_ble_eq_true rfl, Nat.le_of_ble_eq_true rfl⟩ (fun τ45 hr45 => ?_)
  have hz45 : zOK τ45 := hr45.1
  have ho : zSame (fun q => 30 ≤ q ∧ q ≤ 49) τ26 (zput τ26 46 x.toNat y) := (⟨fun q hq i => zput_k _ _ _ _ _ (by dsimp only at hq; omega), rfl⟩ : zSame (fun q => 30 ≤ q ∧ q ≤ 49) τ26 (zput τ26 46 x.toNat y))
  have hb : bbK (zput τ26 46 x.toNat y) 30 := bb_put2 (by decide) (by decide) (hp.1 30 (Or.inr (Or.inl rfl)))
  have hq := hpush hN hA hr26.2.1 hr26.2.2.1 hr26.2.2.2 ho hb hr45.2.1 hr45.2.2
  have hsc : zSame (fun q => (30 ≤ q ∧ q ≤ 49) ∨ (70 ≤ q ∧ q ≤ 258)) σ τ45 := ⟨fun q hq2 i => hq.2.2.1.1 q (by dsimp only at hq2 ⊢; omega) i, hq.2.2.1.2⟩
  have hDq : pEq (ov (bk σ 30) 16 x.toNat y) (bk τ45 30) := pEq_tr (pEq_ov pq) (pEq_tr put_ov hq.2.2.2)
  have hWD : WF (ov (bk σ 30) 16 x.toNat y) := WF_ovK hW (Or.inl ⟨rfl, hw2⟩)
  refine zx_iloadN dX9_setWeight_48 rfl rfl ?_
  refine zx_iret rfl rfl dX9_setWeight_49 ?_
  rw [hQ]
  refine ⟨congrArg (fun z : Int => (Sum.inl (some (zi z)) : Option zV ⊕ String)) ?_, ?_⟩
  · rfl
  exact ⟨hz45, hsc, hq.1, hq.2.1, WF_eq (pEq_z hDq) hWD, pEq_l hDq⟩
set_option maxRecDepth 20000 in
set_option maxHeartbeats 2000000 in
theorem sX9_transferDevice_f1 {l : Launch} {w : zW} (hfl : l.stackTraces = false) {σ : zS} {x y u : Int} (hz : zOK σ) (hW : WF (bk σ 30)) (hN : HN σ) (hA : HBA σ) (hx : zr x) (hy : zr y) (hu : zr u) (hw : ¬ ((0 ≤ x ∧ x < σ.1 31 0) ∧ 0 ≤ y ∧ y < σ.1 31 0)) : Sp l w mX9_transferDevice 7 1 [zf 9 0, zi x, zi y, zi u] σ (zthq "java/lang/IndexOutOfBoundsException" (fun τ => zOK τ ∧ zSame (fun q => 72 ≤ q ∧ q ≤ 251) σ τ ∧ HKp σ τ ∧ HBA τ)) := by
  obtain ⟨Q, hQ⟩ : ∃ Q : zQ, Q = (zthq "java/lang/IndexOutOfBoundsException" (fun τ => zOK τ ∧ zSame (fun q => 72 ≤ q ∧ q ≤ 251) σ τ ∧ HKp σ τ ∧ HBA τ)) := ⟨_, rfl⟩
  rw [← hQ]
  refine zx_enter hfl (by decide) rfl 0 rfl ?_
  show zX l w mX9_transferDevice (zMQ w 7 1 Q) 0 [zf 9 0, zi x, zi y, zi u] [] 0 σ
  have hP : 0 ≤ σ.1 31 0 ∧ σ.1 31 0 ≤ 8 := hW.1.1
  have hM : 0 ≤ σ.1 31 7 ∧ σ.1 31 7 ≤ 8 := hW.1.2.1
  have hE : 0 ≤ σ.1 31 10 ∧ σ.1 31 10 ≤ 12 := hW.1.2.2.1
  have hK : 0 ≤ σ.1 42 0 ∧ σ.1 42 0 ≤ 40 := hW.1.2.2.2
  have hNn := hN.1
  refine zx_aloadN dX9_transferDevice_0 rfl rfl ?_
  refine zy_getR (q' := 70) fl_RX9_47 rfl dX9_transferDevice_1 rfl ?_
  refine zx_aloadN dX9_transferDevice_4 rfl rfl ?_
  refine zy_getR (q' := 30) fl_RX9_33 rfl dX9_transferDevice_5 rfl ?_
  refine zy_cvvR [zf 1 30] (sX5_prepare  hfl hz hN.1 (hA 30 (Or.inr (Or.inl rfl)))) dX9_transferDevice_8 (by decide) rfl cw_RX9_143 okX5_prepare rfl (Nat.le_of_ble_eq_true rfl) ⟨Nat.le_of_ble_eq_true rfl, Nat.le_of_ble_eq_true rfl, Nat.le_of_ble_eq_true rfl, Nat.le_of_ble_eq_true rfl⟩ (fun τ8 hr8 => ?_)
  have hz8 : zOK τ8 := hr8.1
  have hp := hprep hN hA hr8.2.1 hr8.2.2.2
  have ep : ∀ q, q < 72 → ∀ i, τ8.1 q i = σ.1 q i := fun q h1 i => hr8.2.1.1 q (by dsimp only; omega) i
  have pq : pEq (bk σ 30) (bk τ8 30) := fun o ho i => ep _ (by omega) i
  have hWp := WF_eq (pEq_z pq) hW
  have hPp : 0 ≤ τ8.1 31 0 ∧ τ8.1 31 0 ≤ 8 := hWp.1.1
  have hM8 : 0 ≤ τ8.1 31 7 ∧ τ8.1 31 7 ≤ 8 := hWp.1.2.1
  have hK8 : 0 ≤ τ8.1 42 0 ∧ τ8.1 42 0 ≤ 40 := hWp.1.2.2.2
  have hN8 : HN τ8 := by have e1 := ep 70 (by omega) 1; have e2 := ep 70 (by omega) 2; unfold HN at *; omega
  have p42 : τ8.1 42 0 = σ.1 42 0 := ep 42 (by omega) 0
  have p31 : τ8.1 31 0 = σ.1 31 0 := ep 31 (by omega) 0
  have p317 : τ8.1 31 7 = σ.1 31 7 := ep 31 (by omega) 7
  have hO8 : ∀ i : Nat, (i : Int) < τ8.1 42 0 → 0 ≤ τ8.1 49 i ∧ τ8.1 49 i < τ8.1 42 0 := hWp.2.2.2.2.2.1
  have hI8 : ∀ i j : Nat, (i : Int) < τ8.1 42 0 → (j : Int) < τ8.1 42 0 → (τ8.1 49 i).toNat = (τ8.1 49 j).toNat → i = j := fun i j a b e => WFo_inj hWp.2.2.2.2.2 a b e
  have hFr : zOK τ8 ∧ zSame (fun q => 72 ≤ q ∧ q ≤ 251) σ τ8 ∧ HKp σ τ8 ∧ HBA τ8 := ⟨hr8.1, ⟨fun q hq i => hr8.2.1.1 q (by dsimp only at hq ⊢; have := hN.1; omega) i, hr8.2.1.2⟩, hp.2, hp.1⟩
  refine zx_aloadN dX9_transferDevice_11 rfl rfl ?_
  refine zy_getR (q' := 30) fl_RX9_33 rfl dX9_transferDevice_12 rfl ?_
  refine zx_iloadN dX9_transferDevice_15 rfl rfl ?_
  refine zx_iloadN dX9_transferDevice_16 rfl rfl ?_
  refine zx_iloadN dX9_transferDevice_17 rfl rfl ?_
  refine zy_cv [zi x, zi y, zi u] (sX1_lend_x  hfl hz8 (by first | exact hz8 _ _ | assumption | exact zr_b _ | exact zcmp_r _ _ | (unfold zr at *; omega)) (by first | exact hz8 _ _ | assumption | exact zr_b _ | exact zcmp_r _ _ | (unfold zr at *; omega)) (by first | exact hz8 _ _ | assumption | exact zr_b _ | exact zcmp_r _ _ | (unfold zr at *; omega)) (by first | assumption | omega | (show 0 ≤ τ8.1 31 0 ∧ τ8.1 31 0 ≤ 8; omega)) (by rw [show τ8.1 (30 + 1) 0 = σ.1 31 0 from p31]; exact hw)) dX9_transferDevice_18 (by decide) rfl cw_RX9_317 okX1_lend rfl (Nat.le_of_ble_eq_true rfl) ⟨Nat.le_of_ble_eq_true rfl, Nat.le_of_ble_eq_true rfl, Nat.le_of_ble_eq_true rfl, Nat.le_of_ble_eq_true rfl⟩ ?_
  refine zy_cst [zi 1] (sX9_refuse_1  hfl hz8 (by first | assumption | omega)) dX9_transferDevice_21 cw_RX9_300 okX9_refuse rfl (Nat.le_of_ble_eq_true rfl) ⟨Nat.le_of_ble_eq_true rfl, Nat.le_of_ble_eq_true rfl, Nat.le_of_ble_eq_true rfl, Nat.le_of_ble_eq_true rfl⟩ ?_
  refine zxt_out rfl ?_
  rw [hQ]
  refine ⟨rfl, ?_⟩
  exact hFr
set_option maxRecDepth 20000 in
set_option maxHeartbeats 2000000 in
theorem sX9_transferDevice_f2 {l : Launch} {w : zW} (hfl : l.stackTraces = false) {σ : zS} {x y u : Int} (hz : zOK σ) (hW : WF (bk σ 30)) (hN : HN σ) (hA : HBA σ) (hx : zr x) (hy : zr y) (hu : zr u) (hw : (0 ≤ x ∧ x < σ.1 31 0) ∧ 0 ≤ y ∧ y < σ.1 31 0) (hw2 : x = y) : Sp l w mX9_transferDevice 7 1 [zf 9 0, zi x, zi y, zi u] σ (zthq "java/lang/IllegalArgumentException" (fun τ => zOK τ ∧ zSame (fun q => 72 ≤ q ∧ q ≤ 251) σ τ ∧ HKp σ τ ∧ HBA τ)) := by
  obtain ⟨Q, hQ⟩ : ∃ Q : zQ, Q = (zthq "java/lang/IllegalArgumentException" (fun τ => zOK τ ∧ zSame (fun q => 72 ≤ q ∧ q ≤ 251) σ τ ∧ HKp σ τ ∧ HBA τ)) := ⟨_, rfl⟩
  rw [← hQ]
  refine zx_enter hfl (by decide) rfl 0 rfl ?_
  show zX l w mX9_transferDevice (zMQ w 7 1 Q) 0 [zf 9 0, zi x, zi y, zi u] [] 0 σ
  have hP : 0 ≤ σ.1 31 0 ∧ σ.1 31 0 ≤ 8 := hW.1.1
  have hM : 0 ≤ σ.1 31 7 ∧ σ.1 31 7 ≤ 8 := hW.1.2.1
  have hE : 0 ≤ σ.1 31 10 ∧ σ.1 31 10 ≤ 12 := hW.1.2.2.1
  have hK : 0 ≤ σ.1 42 0 ∧ σ.1 42 0 ≤ 40 := hW.1.2.2.2
  have hNn := hN.1
  refine zx_aloadN dX9_transferDevice_0 rfl rfl ?_
  refine zy_getR (q' := 70) fl_RX9_47 rfl dX9_transferDevice_1 rfl ?_
  refine zx_aloadN dX9_transferDevice_4 rfl rfl ?_
  refine zy_getR (q' := 30) fl_RX9_33 rfl dX9_transferDevice_5 rfl ?_
  refine zy_cvvR [zf 1 30] (sX5_prepare  hfl hz hN.1 (hA 30 (Or.inr (Or.inl rfl)))) dX9_transferDevice_8 (by decide) rfl cw_RX9_143 okX5_prepare rfl (Nat.le_of_ble_eq_true rfl) ⟨Nat.le_of_ble_eq_true rfl, Nat.le_of_ble_eq_true rfl, Nat.le_of_ble_eq_true rfl, Nat.le_of_ble_eq_true rfl⟩ (fun τ8 hr8 => ?_)
  have hz8 : zOK τ8 := hr8.1
  have hp := hprep hN hA hr8.2.1 hr8.2.2.2
  have ep : ∀ q, q < 72 → ∀ i, τ8.1 q i = σ.1 q i := fun q h1 i => hr8.2.1.1 q (by dsimp only; omega) i
  have pq : pEq (bk σ 30) (bk τ8 30) := fun o ho i => ep _ (by omega) i
  have hWp := WF_eq (pEq_z pq) hW
  have hPp : 0 ≤ τ8.1 31 0 ∧ τ8.1 31 0 ≤ 8 := hWp.1.1
  have hM8 : 0 ≤ τ8.1 31 7 ∧ τ8.1 31 7 ≤ 8 := hWp.1.2.1
  have hK8 : 0 ≤ τ8.1 42 0 ∧ τ8.1 42 0 ≤ 40 := hWp.1.2.2.2
  have hN8 : HN τ8 := by have e1 := ep 70 (by omega) 1; have e2 := ep 70 (by omega) 2; unfold HN at *; omega
  have p42 : τ8.1 42 0 = σ.1 42 0 := ep 42 (by omega) 0
  have p31 : τ8.1 31 0 = σ.1 31 0 := ep 31 (by omega) 0
  have p317 : τ8.1 31 7 = σ.1 31 7 := ep 31 (by omega) 7
  have hO8 : ∀ i : Nat, (i : Int) < τ8.1 42 0 → 0 ≤ τ8.1 49 i ∧ τ8.1 49 i < τ8.1 42 0 := hWp.2.2.2.2.2.1
  have hI8 : ∀ i j : Nat, (i : Int) < τ8.1 42 0 → (j : Int) < τ8.1 42 0 → (τ8.1 49 i).toNat = (τ8.1 49 j).toNat → i = j := fun i j a b e => WFo_inj hWp.2.2.2.2.2 a b e
  have hFr : zOK τ8 ∧ zSame (fun q => 72 ≤ q ∧ q ≤ 251) σ τ8 ∧ HKp σ τ8 ∧ HBA τ8 := ⟨hr8.1, ⟨fun q hq i => hr8.2.1.1 q (by dsimp only at hq ⊢; have := hN.1; omega) i, hr8.2.1.2⟩, hp.2, hp.1⟩
  refine zx_aloadN dX9_transferDevice_11 rfl rfl ?_
  refine zy_getR (q' := 30) fl_RX9_33 rfl dX9_transferDevice_12 rfl ?_
  refine zx_iloadN dX9_transferDevice_15 rfl rfl ?_
  refine zx_iloadN dX9_transferDevice_16 rfl rfl ?_
  refine zx_iloadN dX9_transferDevice_17 rfl rfl ?_
  refine zy_cv [zi x, zi y, zi u] (sX1_lend_a  hfl hz8 (by first | exact hz8 _ _ | assumption | exact zr_b _ | exact zcmp_r _ _ | (unfold zr at *; omega)) (by first | exact hz8 _ _ | assumption | exact zr_b _ | exact zcmp_r _ _ | (unfold zr at *; omega)) (by first | exact hz8 _ _ | assumption | exact zr_b _ | exact zcmp_r _ _ | (unfold zr at *; omega)) (by first | assumption | omega | (show 0 ≤ τ8.1 31 0 ∧ τ8.1 31 0 ≤ 8; omega)) (by rw [show τ8.1 (30 + 1) 0 = σ.1 31 0 from p31]; exact hw) (by first | assumption | omega)) dX9_transferDevice_18 (by decide) rfl cw_RX9_317 okX1_lend rfl (Nat.le_of_ble_eq_true rfl) ⟨Nat.le_of_ble_eq_true rfl, Nat.le_of_ble_eq_true rfl, Nat.le_of_ble_eq_true rfl, Nat.le_of_ble_eq_true rfl⟩ ?_
  refine zy_cst [zi 2] (sX9_refuse_2  hfl hz8 (by first | assumption | omega)) dX9_transferDevice_21 cw_RX9_300 okX9_refuse rfl (Nat.le_of_ble_eq_true rfl) ⟨Nat.le_of_ble_eq_true rfl, Nat.le_of_ble_eq_true rfl, Nat.le_of_ble_eq_true rfl, Nat.le_of_ble_eq_true rfl⟩ ?_
  refine zxt_out rfl ?_
  rw [hQ]
  refine ⟨rfl, ?_⟩
  exact hFr
set_option maxRecDepth 20000 in
set_option maxHeartbeats 2000000 in
theorem sX9_transferDevice_f3 {l : Launch} {w : zW} (hfl : l.stackTraces = false) {σ : zS} {x y u : Int} (hz : zOK σ) (hW : WF (bk σ 30)) (hN : HN σ) (hA : HBA σ) (hx : zr x) (hy : zr y) (hu : zr u) (hw : (0 ≤ x ∧ x < σ.1 31 0) ∧ 0 ≤ y ∧ y < σ.1 31 0) (hw2 : ¬ x = y) (hw3 : ¬ (0 ≤ u ∧ u ≤ 31 ∧ ¬ zand (zushr (σ.1 36 x.toNat) u) 1 = 0)) : Sp l w mX9_transferDevice 7 1 [zf 9 0, zi x, zi y, zi u] σ (zthq "java/lang/IllegalStateException" (fun τ => zOK τ ∧ zSame (fun q => 72 ≤ q ∧ q ≤ 251) σ τ ∧ HKp σ τ ∧ HBA τ)) := by
  obtain ⟨Q, hQ⟩ : ∃ Q : zQ, Q = (zthq "java/lang/IllegalStateException" (fun τ => zOK τ ∧ zSame (fun q => 72 ≤ q ∧ q ≤ 251) σ τ ∧ HKp σ τ ∧ HBA τ)) := ⟨_, rfl⟩
  rw [← hQ]
  refine zx_enter hfl (by decide) rfl 0 rfl ?_
  show zX l w mX9_transferDevice (zMQ w 7 1 Q) 0 [zf 9 0, zi x, zi y, zi u] [] 0 σ
  have hP : 0 ≤ σ.1 31 0 ∧ σ.1 31 0 ≤ 8 := hW.1.1
  have hM : 0 ≤ σ.1 31 7 ∧ σ.1 31 7 ≤ 8 := hW.1.2.1
  have hE : 0 ≤ σ.1 31 10 ∧ σ.1 31 10 ≤ 12 := hW.1.2.2.1
  have hK : 0 ≤ σ.1 42 0 ∧ σ.1 42 0 ≤ 40 := hW.1.2.2.2
  have hNn := hN.1
  refine zx_aloadN dX9_transferDevice_0 rfl rfl ?_
  refine zy_getR (q' := 70) fl_RX9_47 rfl dX9_transferDevice_1 rfl ?_
  refine zx_aloadN dX9_transferDevice_4 rfl rfl ?_
  refine zy_getR (q' := 30) fl_RX9_33 rfl dX9_transferDevice_5 rfl ?_
  refine zy_cvvR [zf 1 30] (sX5_prepare  hfl hz hN.1 (hA 30 (Or.inr (Or.inl rfl)))) dX9_transferDevice_8 (by decide) rfl cw_RX9_143 okX5_prepare rfl (Nat.le_of_ble_eq_true rfl) ⟨Nat.le_of_ble_eq_true rfl, Nat.le_of_ble_eq_true rfl, Nat.le_of_ble_eq_true rfl, Nat.le_of_ble_eq_true rfl⟩ (fun τ8 hr8 => ?_)
  have hz8 : zOK τ8 := hr8.1
  have hp := hprep hN hA hr8.2.1 hr8.2.2.2
  have ep : ∀ q, q < 72 → ∀ i, τ8.1 q i = σ.1 q i := fun q h1 i => hr8.2.1.1 q (by dsimp only; omega) i
  have pq : pEq (bk σ 30) (bk τ8 30) := fun o ho i => ep _ (by omega) i
  have hWp := WF_eq (pEq_z pq) hW
  have hPp : 0 ≤ τ8.1 31 0 ∧ τ8.1 31 0 ≤ 8 := hWp.1.1
  have hM8 : 0 ≤ τ8.1 31 7 ∧ τ8.1 31 7 ≤ 8 := hWp.1.2.1
  have hK8 : 0 ≤ τ8.1 42 0 ∧ τ8.1 42 0 ≤ 40 := hWp.1.2.2.2
  have hN8 : HN τ8 := by have e1 := ep 70 (by omega) 1; have e2 := ep 70 (by omega) 2; unfold HN at *; omega
  have p42 : τ8.1 42 0 = σ.1 42 0 := ep 42 (by omega) 0
  have p31 : τ8.1 31 0 = σ.1 31 0 := ep 31 (by omega) 0
  have p317 : τ8.1 31 7 = σ.1 31 7 := ep 31 (by omega) 7
  have hO8 : ∀ i : Nat, (i : Int) < τ8.1 42 0 → 0 ≤ τ8.1 49 i ∧ τ8.1 49 i < τ8.1 42 0 := hWp.2.2.2.2.2.1
  have hI8 : ∀ i j : Nat, (i : Int) < τ8.1 42 0 → (j : Int) < τ8.1 42 0 → (τ8.1 49 i).toNat = (τ8.1 49 j).toNat → i = j := fun i j a b e => WFo_inj hWp.2.2.2.2.2 a b e
  have hFr : zOK τ8 ∧ zSame (fun q => 72 ≤ q ∧ q ≤ 251) σ τ8 ∧ HKp σ τ8 ∧ HBA τ8 := ⟨hr8.1, ⟨fun q hq i => hr8.2.1.1 q (by dsimp only at hq ⊢; have := hN.1; omega) i, hr8.2.1.2⟩, hp.2, hp.1⟩
  refine zx_aloadN dX9_transferDevice_11 rfl rfl ?_
  refine zy_getR (q' := 30) fl_RX9_33 rfl dX9_transferDevice_12 rfl ?_
  refine zx_iloadN dX9_transferDevice_15 rfl rfl ?_
  refine zx_iloadN dX9_transferDevice_16 rfl rfl ?_
  refine zx_iloadN dX9_transferDevice_17 rfl rfl ?_
  refine zy_cv [zi x, zi y, zi u] (sX1_lend_s  hfl hz8 (by first | exact hz8 _ _ | assumption | exact zr_b _ | exact zcmp_r _ _ | (unfold zr at *; omega)) (by first | exact hz8 _ _ | assumption | exact zr_b _ | exact zcmp_r _ _ | (unfold zr at *; omega)) (by first | exact hz8 _ _ | assumption | exact zr_b _ | exact zcmp_r _ _ | (unfold zr at *; omega)) (by first | assumption | omega | (show 0 ≤ τ8.1 31 0 ∧ τ8.1 31 0 ≤ 8; omega)) (by rw [show τ8.1 (30 + 1) 0 = σ.1 31 0 from p31]; exact hw) (by first | assumption | omega) (by rw [show τ8.1 (30 + 6) x.toNat = σ.1 36 x.toNat from ep 36 (by omega) _]; exact hw3)) dX9_transferDevice_18 (by decide) rfl cw_RX9_317 okX1_lend rfl (Nat.le_of_ble_eq_true rfl) ⟨Nat.le_of_ble_eq_true rfl, Nat.le_of_ble_eq_true rfl, Nat.le_of_ble_eq_true rfl, Nat.le_of_ble_eq_true rfl⟩ ?_
  refine zy_cst [zi 3] (sX9_refuse_3  hfl hz8 (by first | assumption | omega)) dX9_transferDevice_21 cw_RX9_300 okX9_refuse rfl (Nat.le_of_ble_eq_true rfl) ⟨Nat.le_of_ble_eq_true rfl, Nat.le_of_ble_eq_true rfl, Nat.le_of_ble_eq_true rfl, Nat.le_of_ble_eq_true rfl⟩ ?_
  refine zxt_out rfl ?_
  rw [hQ]
  refine ⟨rfl, ?_⟩
  exact hFr
set_option maxRecDepth 20000 in
set_option maxHeartbeats 2000000 in
theorem sX9_transferDevice {l : Launch} {w : zW} (hfl : l.stackTraces = false) {σ : zS} {x y u : Int} (hz : zOK σ) (hW : WF (bk σ 30)) (hN : HN σ) (hA : HBA σ) (hx : zr x) (hy : zr y) (hu : zr u) (hw : (0 ≤ x ∧ x < σ.1 31 0) ∧ 0 ≤ y ∧ y < σ.1 31 0) (hw2 : ¬ x = y) (hw3 : 0 ≤ u ∧ u ≤ 31 ∧ ¬ zand (zushr (σ.1 36 x.toNat) u) 1 = 0) : Sp l w mX9_transferDevice 7 0 [zf 9 0, zi x, zi y, zi u] σ (zqv (some (zi (zs (fun p => zb (hasDev (lnB (bk σ 30) x.toNat y.toNat u) p u)) (σ.1 31 0).toNat))) (fun τ => zOK τ ∧ zSame (fun q => (30 ≤ q ∧ q ≤ 49) ∨ (70 ≤ q ∧ q ≤ 258)) σ τ ∧ HPu σ τ ∧ HBA τ ∧ WF (bk τ 30) ∧ lEq (lnB (bk σ 30) x.toNat y.toNat u) (bk τ 30))) := by
  obtain ⟨Q, hQ⟩ : ∃ Q : zQ, Q = (zqv (some (zi (zs (fun p => zb (hasDev (lnB (bk σ 30) x.toNat y.toNat u) p u)) (σ.1 31 0).toNat))) (fun τ => zOK τ ∧ zSame (fun q => (30 ≤ q ∧ q ≤ 49) ∨ (70 ≤ q ∧ q ≤ 258)) σ τ ∧ HPu σ τ ∧ HBA τ ∧ WF (bk τ 30) ∧ lEq (lnB (bk σ 30) x.toNat y.toNat u) (bk τ 30))) := ⟨_, rfl⟩
  rw [← hQ]
  refine zx_enter hfl (by decide) rfl 0 rfl ?_
  show zX l w mX9_transferDevice (zMQ w 7 0 Q) 0 [zf 9 0, zi x, zi y, zi u] [] 0 σ
  have hP : 0 ≤ σ.1 31 0 ∧ σ.1 31 0 ≤ 8 := hW.1.1
  have hM : 0 ≤ σ.1 31 7 ∧ σ.1 31 7 ≤ 8 := hW.1.2.1
  have hE : 0 ≤ σ.1 31 10 ∧ σ.1 31 10 ≤ 12 := hW.1.2.2.1
  have hK : 0 ≤ σ.1 42 0 ∧ σ.1 42 0 ≤ 40 := hW.1.2.2.2
  have hNn := hN.1
  refine zx_aloadN dX9_transferDevice_0 rfl rfl ?_
  refine zy_getR (q' := 70) fl_RX9_47 rfl dX9_transferDevice_1 rfl ?_
  refine zx_aloadN dX9_transferDevice_4 rfl rfl ?_
  refine zy_getR (q' := 30) fl_RX9_33 rfl dX9_transferDevice_5 rfl ?_
  refine zy_cvvR [zf 1 30] (sX5_prepare  hfl hz hN.1 (hA 30 (Or.inr (Or.inl rfl)))) dX9_transferDevice_8 (by decide) rfl cw_RX9_143 okX5_prepare rfl (Nat.le_of_ble_eq_true rfl) ⟨Nat.le_of_ble_eq_true rfl, Nat.le_of_ble_eq_true rfl, Nat.le_of_ble_eq_true rfl, Nat.le_of_ble_eq_true rfl⟩ (fun τ8 hr8 => ?_)
  have hz8 : zOK τ8 := hr8.1
  have hp := hprep hN hA hr8.2.1 hr8.2.2.2
  have ep : ∀ q, q < 72 → ∀ i, τ8.1 q i = σ.1 q i := fun q h1 i => hr8.2.1.1 q (by dsimp only; omega) i
  have pq : pEq (bk σ 30) (bk τ8 30) := fun o ho i => ep _ (by omega) i
  have hWp := WF_eq (pEq_z pq) hW
  have hPp : 0 ≤ τ8.1 31 0 ∧ τ8.1 31 0 ≤ 8 := hWp.1.1
  have hM8 : 0 ≤ τ8.1 31 7 ∧ τ8.1 31 7 ≤ 8 := hWp.1.2.1
  have hK8 : 0 ≤ τ8.1 42 0 ∧ τ8.1 42 0 ≤ 40 := hWp.1.2.2.2
  have hN8 : HN τ8 := by have e1 := ep 70 (by omega) 1; have e2 := ep 70 (by omega) 2; unfold HN at *; omega
  have p42 : τ8.1 42 0 = σ.1 42 0 := ep 42 (by omega) 0
  have p31 : τ8.1 31 0 = σ.1 31 0 := ep 31 (by omega) 0
  have p317 : τ8.1 31 7 = σ.1 31 7 := ep 31 (by omega) 7
  have hO8 : ∀ i : Nat, (i : Int) < τ8.1 42 0 → 0 ≤ τ8.1 49 i ∧ τ8.1 49 i < τ8.1 42 0 := hWp.2.2.2.2.2.1
  have hI8 : ∀ i j : Nat, (i : Int) < τ8.1 42 0 → (j : Int) < τ8.1 42 0 → (τ8.1 49 i).toNat = (τ8.1 49 j).toNat → i = j := fun i j a b e => WFo_inj hWp.2.2.2.2.2 a b e
  have hFr : zOK τ8 ∧ zSame (fun q => 72 ≤ q ∧ q ≤ 251) σ τ8 ∧ HKp σ τ8 ∧ HBA τ8 := ⟨hr8.1, ⟨fun q hq i => hr8.2.1.1 q (by dsimp only at hq ⊢; have := hN.1; omega) i, hr8.2.1.2⟩, hp.2, hp.1⟩
  refine zx_aloadN dX9_transferDevice_11 rfl rfl ?_
  refine zy_getR (q' := 30) fl_RX9_33 rfl dX9_transferDevice_12 rfl ?_
  refine zx_iloadN dX9_transferDevice_15 rfl rfl ?_
  refine zx_iloadN dX9_transferDevice_16 rfl rfl ?_
  refine zx_iloadN dX9_transferDevice_17 rfl rfl ?_
  refine zy_cvR [zi x, zi y, zi u] (sX1_lend  hfl hz8 (by first | exact hz8 _ _ | assumption | exact zr_b _ | exact zcmp_r _ _ | (unfold zr at *; omega)) (by first | exact hz8 _ _ | assumption | exact zr_b _ | exact zcmp_r _ _ | (unfold zr at *; omega)) (by first | exact hz8 _ _ | assumption | exact zr_b _ | exact zcmp_r _ _ | (unfold zr at *; omega)) (by first | assumption | omega | (show 0 ≤ τ8.1 31 0 ∧ τ8.1 31 0 ≤ 8; omega)) (by rw [show τ8.1 (30 + 1) 0 = σ.1 31 0 from p31]; exact hw) (by first | assumption | omega) (by rw [show τ8.1 (30 + 6) x.toNat = σ.1 36 x.toNat from ep 36 (by omega) _]; exact hw3)) dX9_transferDevice_18 (by decide) rfl cw_RX9_317 okX1_lend rfl (Nat.le_of_ble_eq_true rfl) ⟨Nat.le_of_ble_eq_true rfl, Nat.le_of_ble_eq_true rfl, Nat.le_of_ble_eq_true rfl, Nat.le_of_ble_eq_true rfl⟩ (fun τ18 hr18 => ?_)
  have hz18 : zOK τ18 := hr18.1
  have hNo : HN (τ18) := HN_post hN8 ((⟨fun q hq i => hr18.2.1.1 q (by dsimp only at hq ⊢; omega) i, hr18.2.1.2⟩ : zSame (fun q => 30 ≤ q ∧ q ≤ 49) τ8 τ18)) (by first | omega | (dsimp only; omega))
  have hNo1 := hNo.1
  have hNo2 := hNo.2
  refine zy_csv [zi 0] (sX9_refuse  hfl hz18 (by first | assumption | omega)) dX9_transferDevice_21 cw_RX9_300 okX9_refuse rfl (Nat.le_of_ble_eq_true rfl) ⟨Nat.le_of_ble_eq_true rfl, Nat.le_of_ble_eq_true rfl, Nat.le_of_ble_eq_true rfl, Nat.le_of_ble_eq_true rfl⟩ ?_
  refine zx_aloadN dX9_transferDevice_24 rfl rfl ?_
  refine zy_getR (q' := 70) fl_RX9_47 rfl dX9_transferDevice_25 rfl ?_
  refine zy_cvvR [] (sX5_commit  hfl hz18 hNo1 hNo2) dX9_transferDevice_28 (by decide) rfl cw_RX9_151 okX5_commit rfl (Nat.le_of_ble_eq_true rfl) ⟨Nat.le_of_ble_eq_true rfl, Nat.le_of_ble_eq_true rfl, Nat.le_of_ble_eq_true rfl, Nat.le_of_ble_eq_true rfl⟩ (fun τ28 hr28 => ?_)
  have hz28 : zOK τ28 := hr28.1
  have ho : zSame (fun q => 30 ≤ q ∧ q ≤ 49) τ8 (τ18) := (⟨fun q hq i => hr18.2.1.1 q (by dsimp only at hq ⊢; omega) i, hr18.2.1.2⟩ : zSame (fun q => 30 ≤ q ∧ q ≤ 49) τ8 τ18)
  have hb : bbK (τ18) 30 := bb_pt2 (fun i => hr18.2.1.1 47 (by dsimp only; omega) i) (fun i => hr18.2.1.1 48 (by dsimp only; omega) i) (hp.1 30 (Or.inr (Or.inl rfl)))
  have hq := hpush hN hA hr8.2.1 hr8.2.2.1 hr8.2.2.2 ho hb hr28.2.1 hr28.2.2
  have hsc : zSame (fun q => (30 ≤ q ∧ q ≤ 49) ∨ (70 ≤ q ∧ q ≤ 258)) σ τ28 := ⟨fun q hq2 i => hq.2.2.1.1 q (by dsimp only at hq2 ⊢; omega) i, hq.2.2.1.2⟩
  have h18 : pEq (lnB (bk τ8 30) x.toNat y.toNat u) (bk τ18 30) := fun o ho i => by
    unfold lnB
    by_cases e : o = 6
    · subst e; rw [if_pos rfl]; exact hr18.2.2 i
    · rw [if_neg e]; exact hr18.2.1.1 (30 + o) (by dsimp only; omega) i
  have hDq : pEq (lnB (bk σ 30) x.toNat y.toNat u) (bk τ28 30) := pEq_tr (lnB_p pq) (pEq_tr h18 hq.2.2.2)
  have hWD : WF (lnB (bk σ 30) x.toNat y.toNat u) := WF_agree hW (fun o i h1 _ _ _ => by unfold lnB; rw [if_neg h1]) (fun c hc => (hW.2.2.2.2.1 c hc).2.2)
  have d31 : τ28.1 31 0 = σ.1 31 0 := hDq 1 (by omega) 0
  have d36 : ∀ i, τ28.1 36 i = (lnB (bk σ 30) x.toNat y.toNat u) 6 i := fun i => hDq 6 (by omega) i
  refine zx_aloadN dX9_transferDevice_31 rfl rfl ?_
  refine zy_getR (q' := 30) fl_RX9_33 rfl dX9_transferDevice_32 rfl ?_
  refine zy_getR (q' := 31) fl_RX9_134 rfl dX9_transferDevice_35 rfl ?_
  refine zx_iloadN dX9_transferDevice_38 rfl rfl ?_
  refine zy_cv [zi u] (sX0_ownersOf  hfl hz28 (by first | exact hz28 _ _ | assumption | exact zr_b _ | exact zcmp_r _ _ | (unfold zr at *; omega)) (by first | assumption | omega)) dX9_transferDevice_39 (by decide) rfl cw_RX9_192 okX0_ownersOf rfl (Nat.le_of_ble_eq_true rfl) ⟨Nat.le_of_ble_eq_true rfl, Nat.le_of_ble_eq_true rfl, Nat.le_of_ble_eq_true rfl, Nat.le_of_ble_eq_true rfl⟩ ?_
  refine zy_top (b := zs (fun i => zb (0 ≤ (i : Int) ∧ (i : Int) < τ28.1 31 0 ∧ 0 ≤ u ∧ u ≤ 31 ∧ ¬ zand (zushr (τ28.1 36 i) u) 1 = 0)) (τ28.1 31 0).toNat) rfl ?_
  refine zx_iret rfl rfl dX9_transferDevice_42 ?_
  rw [hQ]
  refine ⟨congrArg (fun z : Int => (Sum.inl (some (zi z)) : Option zV ⊕ String)) ?_, ?_⟩
  · rw [show τ28.1 31 0 = σ.1 31 0 from d31]; exact zs_congr (fun p hp => zb_c (by unfold hasDev; rw [← d36 p]; exact ⟨fun q => q.2.2, fun q => ⟨by omega, by omega, q⟩⟩))
  exact ⟨hz28, hsc, hq.1, hq.2.1, WF_eq (pEq_z hDq) hWD, pEq_l hDq⟩
set_option maxRecDepth 20000 in
set_option maxHeartbeats 2000000 in
theorem sX9_undo_f1 {l : Launch} {w : zW} (hfl : l.stackTraces = false) {σ : zS}  (hz : zOK σ) (hN : HN σ) (hw : σ.1 70 2 ≤ 0) : Sp l w mX9_undo 6 1 [zf 9 0] σ (zthr "java/lang/IllegalStateException" σ) := by
  obtain ⟨Q, hQ⟩ : ∃ Q : zQ, Q = (zthr "java/lang/IllegalStateException" σ) := ⟨_, rfl⟩
  rw [← hQ]
  refine zx_enter hfl (by decide) rfl 0 rfl ?_
  show zX l w mX9_undo (zMQ w 6 1 Q) 0 [zf 9 0] [] 0 σ
  refine zx_aloadN dX9_undo_0 rfl rfl ?_
  refine zy_getR (q' := 70) fl_RX9_47 rfl dX9_undo_1 rfl ?_
  refine zy_getI fl_RX9_321 rfl dX9_undo_4 rfl ?_
  refine zx_if_gt (tgt := 21) (by first | exact hz _ _ | assumption | exact zr_b _ | exact zcmp_r _ _ | (unfold zr at *; omega)) dX9_undo_7 (by decide) (fun h7 => ?_) (fun h7 => ?_)
  · exfalso; omega
  · refine zx_throwW (names := ["java/lang/RuntimeException", "java/lang/Exception"]) rfl (by decide +kernel) (by decide +kernel) th_RX9_106_102_k ei_IllegalStateException (List.mem_of_getElem? (i := 26) rfl) th_RX9_106 th_RX9_106_o th_RX9_106_g dX9_undo_10 dX9_undo_13 dX9_undo_14 dX9_undo_17 dX9_undo_20 (Nat.le_of_ble_eq_true rfl) (Nat.le_of_ble_eq_true rfl) (Nat.le_of_ble_eq_true rfl) (Nat.le_of_ble_eq_true rfl) ?_
    rw [hQ]
    exact ⟨rfl, by first | rfl | (exfalso; omega)⟩
set_option maxRecDepth 20000 in
set_option maxHeartbeats 2000000 in
theorem sX9_undo {l : Launch} {w : zW} (hfl : l.stackTraces = false) {σ : zS}  (hz : zOK σ) (hN : HN σ) (hA : HBA σ) (hw : 0 < σ.1 70 2) : Sp l w mX9_undo 6 0 [zf 9 0] σ (zqv (some (zi (σ.1 70 2 - 1))) (fun τ => zOK τ ∧ zSame (fun q => q = 70 ∨ (30 ≤ q ∧ q ≤ 49)) σ τ ∧ HN τ ∧ τ.1 70 2 = σ.1 70 2 - 1 ∧ HBA τ ∧ zEq (bk σ (hRow σ 0)) (bk τ 30) ∧ ∀ i : Nat, (i : Int) < σ.1 70 2 - 1 → zEq (bk σ (hRow σ (i + 1))) (bk τ (hRow τ i)))) := by
  obtain ⟨Q, hQ⟩ : ∃ Q : zQ, Q = (zqv (some (zi (σ.1 70 2 - 1))) (fun τ => zOK τ ∧ zSame (fun q => q = 70 ∨ (30 ≤ q ∧ q ≤ 49)) σ τ ∧ HN τ ∧ τ.1 70 2 = σ.1 70 2 - 1 ∧ HBA τ ∧ zEq (bk σ (hRow σ 0)) (bk τ 30) ∧ ∀ i : Nat, (i : Int) < σ.1 70 2 - 1 → zEq (bk σ (hRow σ (i + 1))) (bk τ (hRow τ i)))) := ⟨_, rfl⟩
  rw [← hQ]
  refine zx_enter hfl (by decide) rfl 0 rfl ?_
  show zX l w mX9_undo (zMQ w 6 0 Q) 0 [zf 9 0] [] 0 σ
  have hN1 := hN.1
  have hN2 := hN.2
  refine zx_aloadN dX9_undo_0 rfl rfl ?_
  refine zy_getR (q' := 70) fl_RX9_47 rfl dX9_undo_1 rfl ?_
  refine zy_getI fl_RX9_321 rfl dX9_undo_4 rfl ?_
  refine zx_if_gt (tgt := 21) (by first | exact hz _ _ | assumption | exact zr_b _ | exact zcmp_r _ _ | (unfold zr at *; omega)) dX9_undo_7 (by decide) (fun h7 => ?_) (fun h7 => ?_)
  · refine zx_aloadN dX9_undo_21 rfl rfl ?_
    refine zy_getR (q' := 70) fl_RX9_47 rfl dX9_undo_22 rfl ?_
    refine zx_aloadN dX9_undo_25 rfl rfl ?_
    refine zy_getR (q' := 30) fl_RX9_33 rfl dX9_undo_26 rfl ?_
    by_cases hb29 : 0 < σ.1 70 1
    · refine zy_cvvR [zf 1 30] (sX5_bringBack  hfl hz (by first | assumption | omega) (by first | assumption | omega) (by first | assumption | omega) (fun r hr => hA _ (Or.inr (Or.inr (Or.inr ⟨r, hr, rfl⟩))))) dX9_undo_29 (by decide) rfl cw_RX9_324 okX5_bringBack rfl (Nat.le_of_ble_eq_true rfl) ⟨Nat.le_of_ble_eq_true rfl, Nat.le_of_ble_eq_true rfl, Nat.le_of_ble_eq_true rfl, Nat.le_of_ble_eq_true rfl⟩ (fun τ29 hr29 => ?_)
      have hz29 : zOK τ29 := hr29.1
      refine zx_aloadN dX9_undo_32 rfl rfl ?_
      refine zy_getR (q' := 70) fl_RX9_47 rfl dX9_undo_33 rfl ?_
      refine zy_getI fl_RX9_321 rfl dX9_undo_36 rfl ?_
      refine zx_iret rfl rfl dX9_undo_39 ?_
      rw [hQ]
      refine ⟨congrArg (fun z : Int => (Sum.inl (some (zi z)) : Option zV ⊕ String)) ?_, ?_⟩
      · omega
      first | exact ⟨hz29, hback (nb := σ.1 70 1 - 1) (R := (σ.1 70 1 - 1).toNat) hN hA hw (Or.inl ⟨rfl, by omega, rfl⟩) hr29.2.1 hr29.2.2.1 hr29.2.2.2.1 hr29.2.2.2.2.1 hr29.2.2.2.2.2⟩ | exact ⟨hz29, hback (nb := 8) (R := 8) hN hA hw (Or.inr ⟨rfl, by omega, rfl⟩) hr29.2.1 hr29.2.2.1 hr29.2.2.2.1 hr29.2.2.2.2.1 hr29.2.2.2.2.2⟩
    · refine zy_cvvR [zf 1 30] (sX5_bringBack_0  hfl hz (by first | assumption | omega) (by first | assumption | omega) (by first | assumption | omega) (fun r hr => hA _ (Or.inr (Or.inr (Or.inr ⟨r, hr, rfl⟩))))) dX9_undo_29 (by decide) rfl cw_RX9_324 okX5_bringBack rfl (Nat.le_of_ble_eq_true rfl) ⟨Nat.le_of_ble_eq_true rfl, Nat.le_of_ble_eq_true rfl, Nat.le_of_ble_eq_true rfl, Nat.le_of_ble_eq_true rfl⟩ (fun τ29 hr29 => ?_)
      have hz29 : zOK τ29 := hr29.1
      refine zx_aloadN dX9_undo_32 rfl rfl ?_
      refine zy_getR (q' := 70) fl_RX9_47 rfl dX9_undo_33 rfl ?_
      refine zy_getI fl_RX9_321 rfl dX9_undo_36 rfl ?_
      refine zx_iret rfl rfl dX9_undo_39 ?_
      rw [hQ]
      refine ⟨congrArg (fun z : Int => (Sum.inl (some (zi z)) : Option zV ⊕ String)) ?_, ?_⟩
      · omega
      first | exact ⟨hz29, hback (nb := σ.1 70 1 - 1) (R := (σ.1 70 1 - 1).toNat) hN hA hw (Or.inl ⟨rfl, by omega, rfl⟩) hr29.2.1 hr29.2.2.1 hr29.2.2.2.1 hr29.2.2.2.2.1 hr29.2.2.2.2.2⟩ | exact ⟨hz29, hback (nb := 8) (R := 8) hN hA hw (Or.inr ⟨rfl, by omega, rfl⟩) hr29.2.1 hr29.2.2.1 hr29.2.2.2.1 hr29.2.2.2.2.1 hr29.2.2.2.2.2⟩
  · exfalso; omega
set_option maxRecDepth 20000 in
set_option maxHeartbeats 2000000 in
theorem sX9_save {l : Launch} {w : zW} (hfl : l.stackTraces = false) {σ : zS}  (hz : zOK σ) (hW : WF (bk σ 30)) (hA : HBA σ) : Sp l w mX9_save 3 0 [zf 9 0] σ (zqv (some (zi (σ.1 42 0))) (fun τ => zOK τ ∧ zSame (fun q => q = 0 ∨ (50 ≤ q ∧ q ≤ 69)) σ τ ∧ τ.1 0 5 = 1 ∧ zEq (bk σ 30) (bk τ 50) ∧ HBA τ)) := by
  obtain ⟨Q, hQ⟩ : ∃ Q : zQ, Q = (zqv (some (zi (σ.1 42 0))) (fun τ => zOK τ ∧ zSame (fun q => q = 0 ∨ (50 ≤ q ∧ q ≤ 69)) σ τ ∧ τ.1 0 5 = 1 ∧ zEq (bk σ 30) (bk τ 50) ∧ HBA τ)) := ⟨_, rfl⟩
  rw [← hQ]
  refine zx_enter hfl (by decide) rfl 0 rfl ?_
  show zX l w mX9_save (zMQ w 3 0 Q) 0 [zf 9 0] [] 0 σ
  have hP : 0 ≤ σ.1 31 0 ∧ σ.1 31 0 ≤ 8 := hW.1.1
  have hM : 0 ≤ σ.1 31 7 ∧ σ.1 31 7 ≤ 8 := hW.1.2.1
  have hE : 0 ≤ σ.1 31 10 ∧ σ.1 31 10 ≤ 12 := hW.1.2.2.1
  have hK : 0 ≤ σ.1 42 0 ∧ σ.1 42 0 ≤ 40 := hW.1.2.2.2
  refine zx_aloadN dX9_save_0 rfl rfl ?_
  refine zy_getR (q' := 50) fl_RX9_37 rfl dX9_save_1 rfl ?_
  refine zx_aloadN dX9_save_4 rfl rfl ?_
  refine zy_getR (q' := 30) fl_RX9_33 rfl dX9_save_5 rfl ?_
  refine zy_cvvR [zf 1 30] (sX1_copyFrom  hfl hz (by omega) (hA 30 (Or.inr (Or.inl rfl)))) dX9_save_8 (by decide) rfl cw_RX9_94 okX1_copyFrom rfl (Nat.le_of_ble_eq_true rfl) ⟨Nat.le_of_ble_eq_true rfl, Nat.le_of_ble_eq_true rfl, Nat.le_of_ble_eq_true rfl, Nat.le_of_ble_eq_true rfl⟩ (fun τ8 hr8 => ?_)
  have hz8 : zOK τ8 := hr8.1
  have e42 := hr8.2.1.1 42 (by dsimp only; omega) 0
  refine zx_aloadN dX9_save_11 rfl rfl ?_
  refine zx_iconst dX9_save_12 ?_
  refine zx_putI fl_RX9_40 rfl (Or.inr ⟨fp_9_5, Or.inr rfl⟩) dX9_save_13 ?_
  refine zx_aloadN dX9_save_16 rfl rfl ?_
  refine zy_getR (q' := 30) fl_RX9_33 rfl dX9_save_17 rfl ?_
  refine zy_getR (q' := 42) fl_RX9_125 rfl dX9_save_20 rfl ?_
  refine zy_getI (v := τ8.1 42 0) fl_RX9_129 rfl dX9_save_23 (zput_k _ _ _ _ _ (by omega)) ?_
  refine zx_iret rfl rfl dX9_save_26 ?_
  rw [hQ]
  refine ⟨congrArg (fun z : Int => (Sum.inl (some (zi z)) : Option zV ⊕ String)) ?_, ?_⟩
  · first | exact e42 | exact (zput_k _ _ _ _ _ (by omega)).trans e42
  have kk : ∀ q, q ≠ 0 → ∀ i, (zput τ8 0 5 1).1 q i = τ8.1 q i := fun q hq i => zput_k _ _ _ _ _ (by omega)
  refine ⟨(zOK_put hz8 (by unfold zr; omega)), ⟨fun q hq i => by have hq2 := hq; dsimp only at hq2; rw [kk q (by omega)]; exact hr8.2.1.1 q (by dsimp only; omega) i, hr8.2.1.2⟩, zput_s _ _ _ _, zEq_tr (zEq_cp hr8.2.2.1 hr8.2.2.2) (zEq_pt (fun o ho i => kk _ (by omega) i)), fun k hk => ?_⟩
  have hk4 : 4 ≤ k := by rcases hk with h | h | h | ⟨r, h1, h2⟩ <;> omega
  by_cases e : k = 50
  · subst e; exact bb_pt (fun o ho i => kk _ (by omega) i) (bb_cp hr8.2.2.2 (hA 30 (Or.inr (Or.inl rfl))))
  · refine bb_pt (fun o ho i => (kk _ (by omega) i).trans (hr8.2.1.1 _ ?_ i)) (hA k hk)
    dsimp only
    rcases hk with h | h | h | ⟨r, h1, h2⟩ <;> omega
set_option maxRecDepth 20000 in
set_option maxHeartbeats 2000000 in
theorem sX9_restore_f1 {l : Launch} {w : zW} (hfl : l.stackTraces = false) {σ : zS}  (hz : zOK σ) (hw : σ.1 0 5 = 0) : Sp l w mX9_restore 6 1 [zf 9 0] σ (zthr "java/lang/IllegalStateException" σ) := by
  obtain ⟨Q, hQ⟩ : ∃ Q : zQ, Q = (zthr "java/lang/IllegalStateException" σ) := ⟨_, rfl⟩
  rw [← hQ]
  refine zx_enter hfl (by decide) rfl 0 rfl ?_
  show zX l w mX9_restore (zMQ w 6 1 Q) 0 [zf 9 0] [] 0 σ
  refine zx_aloadN dX9_restore_0 rfl rfl ?_
  refine zy_getI fl_RX9_40 rfl dX9_restore_1 rfl ?_
  refine zx_if_ne (tgt := 18) (by first | exact hz _ _ | assumption | exact zr_b _ | exact zcmp_r _ _ | (unfold zr at *; omega)) dX9_restore_4 (by decide) (fun h4 => ?_) (fun h4 => ?_)
  · exfalso; omega
  · refine zx_throwW (names := ["java/lang/RuntimeException", "java/lang/Exception"]) rfl (by decide +kernel) (by decide +kernel) th_RX9_106_102_k ei_IllegalStateException (List.mem_of_getElem? (i := 18) rfl) th_RX9_106 th_RX9_106_o th_RX9_106_g dX9_restore_7 dX9_restore_10 dX9_restore_11 dX9_restore_14 dX9_restore_17 (Nat.le_of_ble_eq_true rfl) (Nat.le_of_ble_eq_true rfl) (Nat.le_of_ble_eq_true rfl) (Nat.le_of_ble_eq_true rfl) ?_
    rw [hQ]
    exact ⟨rfl, by first | rfl | (exfalso; omega)⟩
set_option maxRecDepth 20000 in
set_option maxHeartbeats 2000000 in
theorem sX9_restore {l : Launch} {w : zW} (hfl : l.stackTraces = false) {σ : zS}  (hz : zOK σ) (hA : HBA σ) (hw : σ.1 0 5 = 1) : Sp l w mX9_restore 6 0 [zf 9 0] σ (zqv (some (zi (σ.1 62 0))) (fun τ => zOK τ ∧ zSame (fun q => q = 70 ∨ (30 ≤ q ∧ q ≤ 49)) σ τ ∧ τ.1 70 1 = σ.1 70 1 ∧ τ.1 70 2 = 0 ∧ zEq (bk σ 50) (bk τ 30) ∧ HBA τ)) := by
  obtain ⟨Q, hQ⟩ : ∃ Q : zQ, Q = (zqv (some (zi (σ.1 62 0))) (fun τ => zOK τ ∧ zSame (fun q => q = 70 ∨ (30 ≤ q ∧ q ≤ 49)) σ τ ∧ τ.1 70 1 = σ.1 70 1 ∧ τ.1 70 2 = 0 ∧ zEq (bk σ 50) (bk τ 30) ∧ HBA τ)) := ⟨_, rfl⟩
  rw [← hQ]
  refine zx_enter hfl (by decide) rfl 0 rfl ?_
  show zX l w mX9_restore (zMQ w 6 0 Q) 0 [zf 9 0] [] 0 σ
  refine zx_aloadN dX9_restore_0 rfl rfl ?_
  refine zy_getI fl_RX9_40 rfl dX9_restore_1 rfl ?_
  refine zx_if_ne (tgt := 18) (by first | exact hz _ _ | assumption | exact zr_b _ | exact zcmp_r _ _ | (unfold zr at *; omega)) dX9_restore_4 (by decide) (fun h4 => ?_) (fun h4 => ?_)
  · refine zx_aloadN dX9_restore_18 rfl rfl ?_
    refine zy_getR (q' := 30) fl_RX9_33 rfl dX9_restore_19 rfl ?_
    refine zx_aloadN dX9_restore_22 rfl rfl ?_
    refine zy_getR (q' := 50) fl_RX9_37 rfl dX9_restore_23 rfl ?_
    refine zy_cvvR [zf 1 50] (sX1_copyFrom  hfl hz (by omega) (hA 50 (Or.inr (Or.inr (Or.inl rfl))))) dX9_restore_26 (by decide) rfl cw_RX9_94 okX1_copyFrom rfl (Nat.le_of_ble_eq_true rfl) ⟨Nat.le_of_ble_eq_true rfl, Nat.le_of_ble_eq_true rfl, Nat.le_of_ble_eq_true rfl, Nat.le_of_ble_eq_true rfl⟩ (fun τ26 hr26 => ?_)
    have hz26 : zOK τ26 := hr26.1
    have z26 := zEq_cp (o := 50) (k := 30) hr26.2.2.1 hr26.2.2.2
    have e42 : τ26.1 42 0 = σ.1 62 0 := z26.1.2.2.2
    refine zx_aloadN dX9_restore_29 rfl rfl ?_
    refine zy_getR (q' := 70) fl_RX9_47 rfl dX9_restore_30 rfl ?_
    refine zy_cvv [] (sX5_forget  hfl hz26 ) dX9_restore_33 (by decide) rfl cw_RX9_122 okX5_forget rfl (Nat.le_of_ble_eq_true rfl) ⟨Nat.le_of_ble_eq_true rfl, Nat.le_of_ble_eq_true rfl, Nat.le_of_ble_eq_true rfl, Nat.le_of_ble_eq_true rfl⟩ ?_
    refine zx_aloadN dX9_restore_36 rfl rfl ?_
    refine zy_getR (q' := 30) fl_RX9_33 rfl dX9_restore_37 rfl ?_
    refine zy_getR (q' := 42) fl_RX9_125 rfl dX9_restore_40 rfl ?_
    refine zy_getI fl_RX9_129 rfl dX9_restore_43 rfl ?_
    refine zx_iret rfl rfl dX9_restore_46 ?_
    rw [hQ]
    refine ⟨congrArg (fun z : Int => (Sum.inl (some (zi z)) : Option zV ⊕ String)) ?_, ?_⟩
    · first | exact e42 | exact (zput_k _ _ _ _ _ (by omega)).trans e42
    have kk : ∀ q, q ≠ 70 → ∀ i, (zput τ26 70 2 0).1 q i = τ26.1 q i := fun q hq i => zput_k _ _ _ _ _ (by omega)
    refine ⟨(zOK_put hz26 (by unfold zr; omega)), ⟨fun q hq i => by have hq2 := hq; dsimp only at hq2; rw [kk q (by omega)]; exact hr26.2.1.1 q (by dsimp only; omega) i, hr26.2.1.2⟩, (zput_i _ _ _ _ _ (by omega)).trans (hr26.2.1.1 70 (by dsimp only; omega) 1), zput_s _ _ _ _, zEq_tr z26 (zEq_pt (fun o ho i => kk _ (by omega) i)), fun k hk => ?_⟩
    by_cases e : k = 30
    · subst e; exact bb_pt (fun o ho i => kk _ (by omega) i) (bb_cp (o := 50) hr26.2.2.2 (hA 50 (Or.inr (Or.inr (Or.inl rfl)))))
    · refine bb_pt (fun o ho i => (kk _ ?_ i).trans (hr26.2.1.1 _ ?_ i)) (hA k hk)
      · rcases hk with h | h | h | ⟨r, h1, h2⟩ <;> omega
      · dsimp only
        rcases hk with h | h | h | ⟨r, h1, h2⟩ <;> omega
  · exfalso; omega

